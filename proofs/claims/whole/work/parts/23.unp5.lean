/-! UNPACKER: fields of texts -/
theorem z_ln_sz (ld : List Nat) (e left : Nat) (acc : List Nat) : 5 * (z_ln ld e left acc).2.length ≤ 5 * acc.length + left := by
  induction left using Nat.strongRecOn generalizing acc with
  | ind left ih =>
    rw [z_ln]
    have hE : 5 * (z_lnE ld e left acc).2.length ≤ 5 * acc.length + left := by
      unfold z_lnE
      split <;> simp
    split
    · exact hE
    · split
      · exact hE
      · split
        · simp
        · split
          · have := ih (left - 13) (by omega) (acc ++ [z_bv ld (e - (left - 5)) 8])
            simp only [List.length_append, List.length_cons, List.length_nil] at this
            omega
          · have := ih (left - 5) (by omega) (acc ++ [zSG.getD (z_bv ld (e - left) 5) 0])
            simp only [List.length_append, List.length_cons, List.length_nil] at this
            omega
theorem z_rT_ok {ld : List Nat} {p : Nat} (h : (z_rT ld p).1 = 0) : p < (z_rT ld p).2.2 ∧ (z_rT ld p).2.2 ≤ ld.length ∧ (z_rT ld p).2.1.length ≤ 2 * ((z_rT ld p).2.2 - p) := by
  have hN := z_rN_ok (ld := ld) (bits := 7) (p := p) (by decide)
  rw [z_rT] at h ⊢
  split at h
  · rename_i q
    exact absurd h q
  · rename_i q
    rw [if_neg q]
    have hN := hN (Classical.not_not.mp q)
    split at h
    · simp at h
    · rename_i q2
      rw [if_neg q2]
      split at h
      · simp at h
      · rename_i q3
        rw [if_neg q3]
        split at h
        · rename_i q4
          rw [if_pos q4]
          have := z_ln_sz ld (8 * ((z_rN ld 7 p).2.2 + (z_rN ld 7 p).2.1)) (8 * (z_rN ld 7 p).2.1) []
          simp only [List.length_nil] at this ⊢
          exact ⟨by omega, by omega, by omega⟩
        · rename_i q4
          rw [if_neg q4]
          simp only [List.length_take, List.length_drop]
          exact ⟨by omega, by omega, by omega⟩
theorem z_rT_ft (ld : List Nat) (p : Nat) : (z_rT ld p).1 ≤ 6 := by
  have := z_rN_ft ld 7 p
  rw [z_rT]
  split
  · simp only; omega
  · split
    · simp
    · split
      · simp
      · split
        · exact (z_ln_ok ld _ _ [] (by simp) (by simp)).2.2
        · simp
theorem z_rT_200 {ld : List Nat} {p : Nat} (h : (z_rT ld p).1 = 0) : (z_rT ld p).2.1.length ≤ 200 := by
  rw [z_rT] at h ⊢
  split at h
  · rename_i q
    exact absurd h q
  · rename_i q
    rw [if_neg q]
    split at h
    · simp at h
    · rename_i q2
      rw [if_neg q2]
      split at h
      · simp at h
      · rename_i q3
        rw [if_neg q3]
        split at h
        · rename_i q4
          rw [if_pos q4]
          exact (z_ln_ok ld _ _ [] (by simp) (by simp)).1
        · rename_i q4
          rw [if_neg q4]
          simp only [List.length_take, List.length_drop]
          omega
def z_kb (x : Nat) : Nat := if 64 ≤ x then 6 else 4
def z_sec (x : Nat) : Bool := decide (¬ 64 ≤ x ∧ 16 ≤ x)
def z_nmT (ld : List Nat) (M : List zF) (n p1 : Nat) : Nat × List Nat × Nat := if n = 0 then z_rT ld p1 else if n ≤ M.length then (0, (M.getD (n - 1) zf0).1, p1) else (2, [], p1)
def z_sT3 (x : Nat) (FL L : List zF) (lim : Nat) (nm : List Nat) (V : Nat × List Nat × Nat) : zS5 := if V.1 ≠ 0 then (V.1, V.2.2, FL, L, lim) else (0, V.2.2, FL ++ [(nm, V.2.1, z_sec x)], (if 64 ≤ x then z_put lim (nm, V.2.1, z_sec x) L else L), lim)
def z_sT2 (ld : List Nat) (x : Nat) (FL L : List zF) (lim : Nat) (N : Nat × List Nat × Nat) : zS5 := if N.1 ≠ 0 then (N.1, N.2.2, FL, L, lim) else z_sT3 x FL L lim N.2.1 (z_rT ld N.2.2)
def z_sT (ld : List Nat) (p x : Nat) (M FL L : List zF) (lim : Nat) : zS5 := if (z_rN ld (z_kb x) p).1 ≠ 0 then ((z_rN ld (z_kb x) p).1, (z_rN ld (z_kb x) p).2.2, FL, L, lim) else z_sT2 ld x FL L lim (z_nmT ld M (z_rN ld (z_kb x) p).2.1 (z_rN ld (z_kb x) p).2.2)
/-- the slots that a step may take -/
def z_ks (p : Nat) (z : zS5) : Nat := if z.1 = 0 then 2 * (z.2.1 - p) + 3 else 200
theorem z_Us.fr2 {h h' : zH} {u ai af at' al ax m : Nat} {ld : List Nat} {F : List zF} {ft p ft' p' : Nat} {FL L : List zF} {lim : Nat} (q : z_Us h u ai af at' al ax m ld F ft p FL L lim) (f : z_fr [14, 15] h h') (k : z_U h' u ai af at' al p' ft') (k2 : z_Lo h' al []) : z_Us h' u ai af at' al ax m ld F ft' p' FL L lim := by
  obtain ⟨q1, q2, q3, q4, q5, q6⟩ := q
  exact ⟨k, q2.fr f (by decide), k2, q4.fr f (by decide) (by decide), q5.fr f (by decide) (by decide), q6.fr f (by decide) (by decide)⟩
set_option maxRecDepth 100000 in
set_option maxHeartbeats 1000000 in
theorem c_readTexts {l : Launch} {D : va_G} {A : Nat → Prop} {sa sv : Nat} {h : zH} {u ai af at' al ax m p x lim : Nat} {ld : List Nat} {F FL L : List zF} (hU : z_Us h u ai af at' al ax m ld F 0 p FL L lim) (hl : ld.length ≤ 6000) (hp : p ≤ ld.length) (hfl : FL.length < 60) (hx : x < 256) : z_Met l D A sa sv yX5_readTexts wsX5_readTexts 6 131 [.ref u, .int (nI x)] h (z_p5 h u ai af at' al ax m ld F (z_sT ld p x (F ++ L) FL L lim)) 3 (z_ks p (z_sT ld p x (F ++ L) FL L lim)) := by
  obtain ⟨hu, hr, hL, hFL, hT, hF⟩ := id hU
  generalize hZ : z_sT ld p x (F ++ L) FL L lim = Z at *
  rw [z_sT] at hZ
  have hNf := z_rN_ft ld (z_kb x) p
  have hkb : z_kb x < 16 := by unfold z_kb; split <;> omega
  have hN := z_rN_ok (ld := ld) (bits := z_kb x) (p := p) hkb
  refine mX5_readTexts (Nat.le_of_ble_eq_true rfl) (fun G hG hsv => ?_)
  -- behind the value
  have fin : ∀ (hk : zH) (nm : List Nat) (V : Nat × List Nat × Nat) (rn : Nat) (r : Option Value) (cs sl : Nat) (lv : zL), Z = z_sT3 x FL L lim nm V → z_T0 hk rn nm → z_Us hk u ai af at' al ax m ld F V.1 V.2.2 FL L lim → z_fr zUc h hk → V.1 ≤ 6 → ((V.1 = 0 ∧ ∃ q, r = some (.ref q) ∧ z_T0 hk q V.2.1) ∨ (V.1 ≠ 0 ∧ r = some .null)) → cs ≤ 2 → (V.1 = 0 → sl + 3 ≤ z_ks p Z) → sl ≤ z_ks p Z → lv = [(4, .ref rn), (2, .int (z_bo (decide (64 ≤ x)))), (0, .ref u), (1, .int (nI x))] → G 66 lv (r.toList ++ []) hk cs sl := by
    intro hk nm V rn r cs sl lv e1 e2 e3 e4 e5 e6 e7 e8 e9 e10
    subst e10
    rw [z_sT3] at e1
    rcases e6 with ⟨v1, rv, rfl, v3⟩ | ⟨v1, rfl⟩
    · rw [if_neg (by simp [v1])] at e1
      rw [v1] at e3
      obtain ⟨q1, q2, q3, q4, q5, q6⟩ := id e3
      have q1' : hk u = some (14, .inr (5, [.ref ai, .ref af, .ref at', .ref al, .int (nI V.2.2), .int (nI 0)])) := q1
      have e8 := e8 v1
      refine hG.1 _ _ _ _ _ _ _ bX5_readTexts_66 ?_
      simp only [zs_iconst, zs_bipush, zs_sipush, zs_ldc, zs_getstatic, zs_iload_n, zs_iload, zs_lload_n, zs_aload_n, zs_aload, zs_istore_n, zs_istore, zs_astore_n, zs_astore, zs_iinc, zs_iadd, zs_isub, zs_imul, zs_iand, zs_ior, zs_ishl, zs_ishr, zs_idiv, zs_irem, zs_i2l, zs_l2i, zs_i2b, zs_i2c, zs_lor, zs_land, zs_lshl, zs_lshr, zs_lushr, zs_dup, zs_dup2, zs_pop, zs_aconst_null, zs_goto, zs_if_icmp, zs_ifCond, zs_ifnull, zs_ifnonnull, zs_tableswitch, zs_getfield, zs_putfield, zs_arraylength, zs_iaload, zs_baload, zs_aaload, zs_iastore, zs_bastore, zs_aastore, zs_newarray, zs_anewarray, zs_new, zs_invokespecial, zs_invokestatic, zs_invokevirtual, zs_checkcast, zs_iushr, zs_return_, zs_ireturn, zs_areturn, zw_0, zw_1, zh_lk0, zh_lk1, zh_i1, zh_i2, zh_l2, zh_li, zh_l1, zh_r1, zh_ri, zh_rii, zh_rir, zh_rv, zh_v1, zh_v2, zh_int, zh_lng, zh_rf, zh_rfn, zh_rfs, zh_rfsn, zh_nul, zh_nuln, zh_acp, zh_sm, zh_obj, zh_row, zh_rdx, zh_rdxn, zh_rrw, zh_len, zh_lenn, zh_ocs, zh_ocn, zh_b1, zh_b10, zh_b7, zh_eq, zh_ne, zh_lt, zh_ge, zh_gt, zh_le, zh_f0, zh_f1, zh_f2, zh_f2n, zh_s, zh_m0, zh_m1, zh_li0, zh_li1, zh_li2, zh_li3, zh_ab, zh_ai, zh_az, zh_tg, zh_g0, zh_gi, zh_gr, zh_gl, zh_gn, z_f0, z_f1, z_f2, z_f3, z_us, z_uu, List.getElem?_cons_zero, List.getElem?_cons_succ, List.set_cons_zero, List.set_cons_succ, List.length_cons, List.length_nil, List.nil_append, List.cons_append, Option.toList_some, Option.toList_none, Nat.reduceAdd, Nat.reduceEqDiff, Nat.reduceLT, Nat.reduceLeDiff, ↓reduceIte, Nat.succ_ne_self, reduceCtorEq, true_and, and_true, and_self, or_false, false_or, or_true, true_or, Nat.lt_irrefl, Nat.zero_lt_succ, Nat.le_refl, Nat.zero_le, Nat.add_zero, Nat.zero_add, Nat.reduceMul, Int.cast_ofNat_Int, Int.natCast_one, Int.natCast_zero, Int.reduceAdd, Int.reduceNeg, Int.reduceToNat, Int.zero_add, Int.toNat_one, Int.toNat_zero, zc_im13, zc_im8, zc_im5, zc_im1, zc_i0, zc_i1, zc_i2, zc_i3, zc_i4, zc_i5, zc_i13, zc_bm2, zc_b6, zc_b7, zc_b8, zc_b10, zc_b12, zc_b13, zc_b16, zc_b17, zc_b20, zc_b31, zc_b32, zc_b60, zc_b63, zc_b64, zc_b80, zc_b127, zc_s128, zc_s140, zc_s200, zc_s255, zc_s256, zc_s400, zc_s1023, zc_s1304, zc_s4096, zc_s6000, zc_s7936, not_true_eq_false, not_false_eq_true, forall_const, false_implies, zX_s, zc_10, nI_add, false_and, and_false, eX5_readTexts]
      -- the field itself, with its mark
      have mk : ∀ (q : Nat) (s : Bool) (lv : zL), s = z_sec x → hk q = none → lv = [(5, .ref rv), (4, .ref rn), (2, .int (z_bo (decide (64 ≤ x)))), (0, .ref u), (1, .int (nI x))] → G 97 lv [.int (z_bo s), .ref rv, .ref rn, .ref q, .ref q] (va_up hk q (some (0, .inr (0, z_df 0)))) (cs + 1) (sl + z_N 0) := by
        intro q s lv hs hq0 hlv
        subst hlv
        subst hs
        refine kX5_readTexts_97 (st := [.ref q]) hG (c_Field_init (t := 0) z_us) (fun r5 h5 hq5 => ?_) (by omega) (by show sl + 3 + 0 ≤ _; omega)
        obtain ⟨rfl, hh⟩ := hq5
        rw [z_uu] at hh
        rw [hh]
        have f5 : z_fr zUc hk (va_up hk q (some (0, .inr (0, [.ref rn, .ref rv, .int (z_bo (z_sec x))])))) := z_fr.rf.nw hq0
        have f5n : z_fr [] hk (va_up hk q (some (0, .inr (0, [.ref rn, .ref rv, .int (z_bo (z_sec x))])))) := z_fr.rf.nw hq0
        have hF0 : z_F0 (va_up hk q (some (0, .inr (0, [.ref rn, .ref rv, .int (z_bo (z_sec x))])))) q (nm, V.2.1, z_sec x) := ⟨rn, rv, z_us, e2.fr f5n (by decide), v3.fr f5n (by decide)⟩
        have u5 := f5n _ _ _ q1' (by decide)
        have w4 := q4.fr f5n (by decide) (by decide)
        obtain ⟨cf, g1, -⟩ := w4.ob
        refine hG.1 _ _ _ _ _ _ _ bX5_readTexts_100 ?_
        simp only [zs_iconst, zs_bipush, zs_sipush, zs_ldc, zs_getstatic, zs_iload_n, zs_iload, zs_lload_n, zs_aload_n, zs_aload, zs_istore_n, zs_istore, zs_astore_n, zs_astore, zs_iinc, zs_iadd, zs_isub, zs_imul, zs_iand, zs_ior, zs_ishl, zs_ishr, zs_idiv, zs_irem, zs_i2l, zs_l2i, zs_i2b, zs_i2c, zs_lor, zs_land, zs_lshl, zs_lshr, zs_lushr, zs_dup, zs_dup2, zs_pop, zs_aconst_null, zs_goto, zs_if_icmp, zs_ifCond, zs_ifnull, zs_ifnonnull, zs_tableswitch, zs_getfield, zs_putfield, zs_arraylength, zs_iaload, zs_baload, zs_aaload, zs_iastore, zs_bastore, zs_aastore, zs_newarray, zs_anewarray, zs_new, zs_invokespecial, zs_invokestatic, zs_invokevirtual, zs_checkcast, zs_iushr, zs_return_, zs_ireturn, zs_areturn, zw_0, zw_1, zh_lk0, zh_lk1, zh_i1, zh_i2, zh_l2, zh_li, zh_l1, zh_r1, zh_ri, zh_rii, zh_rir, zh_rv, zh_v1, zh_v2, zh_int, zh_lng, zh_rf, zh_rfn, zh_rfs, zh_rfsn, zh_nul, zh_nuln, zh_acp, zh_sm, zh_obj, zh_row, zh_rdx, zh_rdxn, zh_rrw, zh_len, zh_lenn, zh_ocs, zh_ocn, zh_b1, zh_b10, zh_b7, zh_eq, zh_ne, zh_lt, zh_ge, zh_gt, zh_le, zh_f0, zh_f1, zh_f2, zh_f2n, zh_s, zh_m0, zh_m1, zh_li0, zh_li1, zh_li2, zh_li3, zh_ab, zh_ai, zh_az, zh_tg, zh_g0, zh_gi, zh_gr, zh_gl, zh_gn, z_f0, z_f1, z_f2, z_f3, z_us, z_uu, List.getElem?_cons_zero, List.getElem?_cons_succ, List.set_cons_zero, List.set_cons_succ, List.length_cons, List.length_nil, List.nil_append, List.cons_append, Option.toList_some, Option.toList_none, Nat.reduceAdd, Nat.reduceEqDiff, Nat.reduceLT, Nat.reduceLeDiff, ↓reduceIte, Nat.succ_ne_self, reduceCtorEq, true_and, and_true, and_self, or_false, false_or, or_true, true_or, Nat.lt_irrefl, Nat.zero_lt_succ, Nat.le_refl, Nat.zero_le, Nat.add_zero, Nat.zero_add, Nat.reduceMul, Int.cast_ofNat_Int, Int.natCast_one, Int.natCast_zero, Int.reduceAdd, Int.reduceNeg, Int.reduceToNat, Int.zero_add, Int.toNat_one, Int.toNat_zero, zc_im13, zc_im8, zc_im5, zc_im1, zc_i0, zc_i1, zc_i2, zc_i3, zc_i4, zc_i5, zc_i13, zc_bm2, zc_b6, zc_b7, zc_b8, zc_b10, zc_b12, zc_b13, zc_b16, zc_b17, zc_b20, zc_b31, zc_b32, zc_b60, zc_b63, zc_b64, zc_b80, zc_b127, zc_s128, zc_s140, zc_s200, zc_s255, zc_s256, zc_s400, zc_s1023, zc_s1304, zc_s4096, zc_s6000, zc_s7936, not_true_eq_false, not_false_eq_true, forall_const, false_implies, zX_s, zc_10, nI_add, false_and, and_false, eX5_readTexts, u5]
        refine kX5_readTexts_108 (st := []) hG g1 (c_Fields_add (by decide) w4 hF0 hfl) (fun r6 h6 hq6 => ?_) (by omega) (by show sl + 3 + 0 + 0 ≤ _; omega)
        obtain ⟨rfl, y1, y2⟩ := hq6
        have hF6 := hF0.fr y2 (by decide)
        have u6 := y2 _ _ _ u5 (by decide)
        have w5 := (q5.fr f5n (by decide) (by decide)).fr y2 (by decide) (by decide)
        have w6 := (q6.fr f5n (by decide) (by decide)).fr y2 (by decide) (by decide)
        have w2 := (q2.fr f5n (by decide)).fr y2 (by decide)
        have w3 := (q3.fr f5n (by decide)).fr y2 (by decide)
        have fr6 : z_fr zUc h h6 := (e4.tr f5).tr (y2.mo (by decide))
        refine hG.1 _ _ _ _ _ _ _ bX5_readTexts_111 ?_
        simp only [zs_iconst, zs_bipush, zs_sipush, zs_ldc, zs_getstatic, zs_iload_n, zs_iload, zs_lload_n, zs_aload_n, zs_aload, zs_istore_n, zs_istore, zs_astore_n, zs_astore, zs_iinc, zs_iadd, zs_isub, zs_imul, zs_iand, zs_ior, zs_ishl, zs_ishr, zs_idiv, zs_irem, zs_i2l, zs_l2i, zs_i2b, zs_i2c, zs_lor, zs_land, zs_lshl, zs_lshr, zs_lushr, zs_dup, zs_dup2, zs_pop, zs_aconst_null, zs_goto, zs_if_icmp, zs_ifCond, zs_ifnull, zs_ifnonnull, zs_tableswitch, zs_getfield, zs_putfield, zs_arraylength, zs_iaload, zs_baload, zs_aaload, zs_iastore, zs_bastore, zs_aastore, zs_newarray, zs_anewarray, zs_new, zs_invokespecial, zs_invokestatic, zs_invokevirtual, zs_checkcast, zs_iushr, zs_return_, zs_ireturn, zs_areturn, zw_0, zw_1, zh_lk0, zh_lk1, zh_i1, zh_i2, zh_l2, zh_li, zh_l1, zh_r1, zh_ri, zh_rii, zh_rir, zh_rv, zh_v1, zh_v2, zh_int, zh_lng, zh_rf, zh_rfn, zh_rfs, zh_rfsn, zh_nul, zh_nuln, zh_acp, zh_sm, zh_obj, zh_row, zh_rdx, zh_rdxn, zh_rrw, zh_len, zh_lenn, zh_ocs, zh_ocn, zh_b1, zh_b10, zh_b7, zh_eq, zh_ne, zh_lt, zh_ge, zh_gt, zh_le, zh_f0, zh_f1, zh_f2, zh_f2n, zh_s, zh_m0, zh_m1, zh_li0, zh_li1, zh_li2, zh_li3, zh_ab, zh_ai, zh_az, zh_tg, zh_g0, zh_gi, zh_gr, zh_gl, zh_gn, z_f0, z_f1, z_f2, z_f3, z_us, z_uu, List.getElem?_cons_zero, List.getElem?_cons_succ, List.set_cons_zero, List.set_cons_succ, List.length_cons, List.length_nil, List.nil_append, List.cons_append, Option.toList_some, Option.toList_none, Nat.reduceAdd, Nat.reduceEqDiff, Nat.reduceLT, Nat.reduceLeDiff, ↓reduceIte, Nat.succ_ne_self, reduceCtorEq, true_and, and_true, and_self, or_false, false_or, or_true, true_or, Nat.lt_irrefl, Nat.zero_lt_succ, Nat.le_refl, Nat.zero_le, Nat.add_zero, Nat.zero_add, Nat.reduceMul, Int.cast_ofNat_Int, Int.natCast_one, Int.natCast_zero, Int.reduceAdd, Int.reduceNeg, Int.reduceToNat, Int.zero_add, Int.toNat_one, Int.toNat_zero, zc_im13, zc_im8, zc_im5, zc_im1, zc_i0, zc_i1, zc_i2, zc_i3, zc_i4, zc_i5, zc_i13, zc_bm2, zc_b6, zc_b7, zc_b8, zc_b10, zc_b12, zc_b13, zc_b16, zc_b17, zc_b20, zc_b31, zc_b32, zc_b60, zc_b63, zc_b64, zc_b80, zc_b127, zc_s128, zc_s140, zc_s200, zc_s255, zc_s256, zc_s400, zc_s1023, zc_s1304, zc_s4096, zc_s6000, zc_s7936, not_true_eq_false, not_false_eq_true, forall_const, false_implies, zX_s, zc_10, nI_add, false_and, and_false, eX5_readTexts, u6]
        by_cases hk64 : 64 ≤ x
        · rw [decide_eq_true hk64]
          refine ⟨fun c => absurd c (by decide), fun _ => ?_⟩
          obtain ⟨ct, t1, -⟩ := w5.ob
          refine kX5_readTexts_121 (st := []) hG t1 (c_Table_put (by decide) w5 hF6) (fun r7 h7 hq7 => ?_) (by omega) (by show sl + 3 + 0 + 0 + 0 ≤ _; omega)
          obtain ⟨rfl, a1, a2⟩ := hq7
          refine hG.1 _ _ _ _ _ _ _ bX5_readTexts_124 ?_
          simp only [zs_iconst, zs_bipush, zs_sipush, zs_ldc, zs_getstatic, zs_iload_n, zs_iload, zs_lload_n, zs_aload_n, zs_aload, zs_istore_n, zs_istore, zs_astore_n, zs_astore, zs_iinc, zs_iadd, zs_isub, zs_imul, zs_iand, zs_ior, zs_ishl, zs_ishr, zs_idiv, zs_irem, zs_i2l, zs_l2i, zs_i2b, zs_i2c, zs_lor, zs_land, zs_lshl, zs_lshr, zs_lushr, zs_dup, zs_dup2, zs_pop, zs_aconst_null, zs_goto, zs_if_icmp, zs_ifCond, zs_ifnull, zs_ifnonnull, zs_tableswitch, zs_getfield, zs_putfield, zs_arraylength, zs_iaload, zs_baload, zs_aaload, zs_iastore, zs_bastore, zs_aastore, zs_newarray, zs_anewarray, zs_new, zs_invokespecial, zs_invokestatic, zs_invokevirtual, zs_checkcast, zs_iushr, zs_return_, zs_ireturn, zs_areturn, zw_0, zw_1, zh_lk0, zh_lk1, zh_i1, zh_i2, zh_l2, zh_li, zh_l1, zh_r1, zh_ri, zh_rii, zh_rir, zh_rv, zh_v1, zh_v2, zh_int, zh_lng, zh_rf, zh_rfn, zh_rfs, zh_rfsn, zh_nul, zh_nuln, zh_acp, zh_sm, zh_obj, zh_row, zh_rdx, zh_rdxn, zh_rrw, zh_len, zh_lenn, zh_ocs, zh_ocn, zh_b1, zh_b10, zh_b7, zh_eq, zh_ne, zh_lt, zh_ge, zh_gt, zh_le, zh_f0, zh_f1, zh_f2, zh_f2n, zh_s, zh_m0, zh_m1, zh_li0, zh_li1, zh_li2, zh_li3, zh_ab, zh_ai, zh_az, zh_tg, zh_g0, zh_gi, zh_gr, zh_gl, zh_gn, z_f0, z_f1, z_f2, z_f3, z_us, z_uu, List.getElem?_cons_zero, List.getElem?_cons_succ, List.set_cons_zero, List.set_cons_succ, List.length_cons, List.length_nil, List.nil_append, List.cons_append, Option.toList_some, Option.toList_none, Nat.reduceAdd, Nat.reduceEqDiff, Nat.reduceLT, Nat.reduceLeDiff, ↓reduceIte, Nat.succ_ne_self, reduceCtorEq, true_and, and_true, and_self, or_false, false_or, or_true, true_or, Nat.lt_irrefl, Nat.zero_lt_succ, Nat.le_refl, Nat.zero_le, Nat.add_zero, Nat.zero_add, Nat.reduceMul, Int.cast_ofNat_Int, Int.natCast_one, Int.natCast_zero, Int.reduceAdd, Int.reduceNeg, Int.reduceToNat, Int.zero_add, Int.toNat_one, Int.toNat_zero, zc_im13, zc_im8, zc_im5, zc_im1, zc_i0, zc_i1, zc_i2, zc_i3, zc_i4, zc_i5, zc_i13, zc_bm2, zc_b6, zc_b7, zc_b8, zc_b10, zc_b12, zc_b13, zc_b16, zc_b17, zc_b20, zc_b31, zc_b32, zc_b60, zc_b63, zc_b64, zc_b80, zc_b127, zc_s128, zc_s140, zc_s200, zc_s255, zc_s256, zc_s400, zc_s1023, zc_s1304, zc_s4096, zc_s6000, zc_s7936, not_true_eq_false, not_false_eq_true, forall_const, false_implies, zX_s, zc_10, nI_add, false_and, and_false, eX5_readTexts]
          rw [if_pos hk64] at e1
          rw [e1] at *
          refine ⟨by omega, by show sl + 3 ≤ _; omega, rfl, ⟨a2 _ _ _ u6 (by decide), w2.fr a2 (by decide), w3.fr a2 (by decide), y1.fr a2 (by decide) (by decide), a1, w6.fr a2 (by decide) (by decide)⟩, fr6.tr (a2.mo (by decide))⟩
        · rw [decide_eq_false hk64]
          refine ⟨fun _ => ?_, fun c => absurd (by decide) c⟩
          refine hG.1 _ _ _ _ _ _ _ bX5_readTexts_124 ?_
          simp only [zs_iconst, zs_bipush, zs_sipush, zs_ldc, zs_getstatic, zs_iload_n, zs_iload, zs_lload_n, zs_aload_n, zs_aload, zs_istore_n, zs_istore, zs_astore_n, zs_astore, zs_iinc, zs_iadd, zs_isub, zs_imul, zs_iand, zs_ior, zs_ishl, zs_ishr, zs_idiv, zs_irem, zs_i2l, zs_l2i, zs_i2b, zs_i2c, zs_lor, zs_land, zs_lshl, zs_lshr, zs_lushr, zs_dup, zs_dup2, zs_pop, zs_aconst_null, zs_goto, zs_if_icmp, zs_ifCond, zs_ifnull, zs_ifnonnull, zs_tableswitch, zs_getfield, zs_putfield, zs_arraylength, zs_iaload, zs_baload, zs_aaload, zs_iastore, zs_bastore, zs_aastore, zs_newarray, zs_anewarray, zs_new, zs_invokespecial, zs_invokestatic, zs_invokevirtual, zs_checkcast, zs_iushr, zs_return_, zs_ireturn, zs_areturn, zw_0, zw_1, zh_lk0, zh_lk1, zh_i1, zh_i2, zh_l2, zh_li, zh_l1, zh_r1, zh_ri, zh_rii, zh_rir, zh_rv, zh_v1, zh_v2, zh_int, zh_lng, zh_rf, zh_rfn, zh_rfs, zh_rfsn, zh_nul, zh_nuln, zh_acp, zh_sm, zh_obj, zh_row, zh_rdx, zh_rdxn, zh_rrw, zh_len, zh_lenn, zh_ocs, zh_ocn, zh_b1, zh_b10, zh_b7, zh_eq, zh_ne, zh_lt, zh_ge, zh_gt, zh_le, zh_f0, zh_f1, zh_f2, zh_f2n, zh_s, zh_m0, zh_m1, zh_li0, zh_li1, zh_li2, zh_li3, zh_ab, zh_ai, zh_az, zh_tg, zh_g0, zh_gi, zh_gr, zh_gl, zh_gn, z_f0, z_f1, z_f2, z_f3, z_us, z_uu, List.getElem?_cons_zero, List.getElem?_cons_succ, List.set_cons_zero, List.set_cons_succ, List.length_cons, List.length_nil, List.nil_append, List.cons_append, Option.toList_some, Option.toList_none, Nat.reduceAdd, Nat.reduceEqDiff, Nat.reduceLT, Nat.reduceLeDiff, ↓reduceIte, Nat.succ_ne_self, reduceCtorEq, true_and, and_true, and_self, or_false, false_or, or_true, true_or, Nat.lt_irrefl, Nat.zero_lt_succ, Nat.le_refl, Nat.zero_le, Nat.add_zero, Nat.zero_add, Nat.reduceMul, Int.cast_ofNat_Int, Int.natCast_one, Int.natCast_zero, Int.reduceAdd, Int.reduceNeg, Int.reduceToNat, Int.zero_add, Int.toNat_one, Int.toNat_zero, zc_im13, zc_im8, zc_im5, zc_im1, zc_i0, zc_i1, zc_i2, zc_i3, zc_i4, zc_i5, zc_i13, zc_bm2, zc_b6, zc_b7, zc_b8, zc_b10, zc_b12, zc_b13, zc_b16, zc_b17, zc_b20, zc_b31, zc_b32, zc_b60, zc_b63, zc_b64, zc_b80, zc_b127, zc_s128, zc_s140, zc_s200, zc_s255, zc_s256, zc_s400, zc_s1023, zc_s1304, zc_s4096, zc_s6000, zc_s7936, not_true_eq_false, not_false_eq_true, forall_const, false_implies, zX_s, zc_10, nI_add, false_and, and_false, eX5_readTexts]
          rw [if_neg hk64] at e1
          rw [e1] at *
          exact ⟨by omega, by show sl + 3 ≤ _; omega, rfl, ⟨u6, w2, w3, y1, w5, w6⟩, fr6⟩
      refine hG.1 _ _ _ _ _ _ _ bX5_readTexts_74 ?_
      simp only [zs_iconst, zs_bipush, zs_sipush, zs_ldc, zs_getstatic, zs_iload_n, zs_iload, zs_lload_n, zs_aload_n, zs_aload, zs_istore_n, zs_istore, zs_astore_n, zs_astore, zs_iinc, zs_iadd, zs_isub, zs_imul, zs_iand, zs_ior, zs_ishl, zs_ishr, zs_idiv, zs_irem, zs_i2l, zs_l2i, zs_i2b, zs_i2c, zs_lor, zs_land, zs_lshl, zs_lshr, zs_lushr, zs_dup, zs_dup2, zs_pop, zs_aconst_null, zs_goto, zs_if_icmp, zs_ifCond, zs_ifnull, zs_ifnonnull, zs_tableswitch, zs_getfield, zs_putfield, zs_arraylength, zs_iaload, zs_baload, zs_aaload, zs_iastore, zs_bastore, zs_aastore, zs_newarray, zs_anewarray, zs_new, zs_invokespecial, zs_invokestatic, zs_invokevirtual, zs_checkcast, zs_iushr, zs_return_, zs_ireturn, zs_areturn, zw_0, zw_1, zh_lk0, zh_lk1, zh_i1, zh_i2, zh_l2, zh_li, zh_l1, zh_r1, zh_ri, zh_rii, zh_rir, zh_rv, zh_v1, zh_v2, zh_int, zh_lng, zh_rf, zh_rfn, zh_rfs, zh_rfsn, zh_nul, zh_nuln, zh_acp, zh_sm, zh_obj, zh_row, zh_rdx, zh_rdxn, zh_rrw, zh_len, zh_lenn, zh_ocs, zh_ocn, zh_b1, zh_b10, zh_b7, zh_eq, zh_ne, zh_lt, zh_ge, zh_gt, zh_le, zh_f0, zh_f1, zh_f2, zh_f2n, zh_s, zh_m0, zh_m1, zh_li0, zh_li1, zh_li2, zh_li3, zh_ab, zh_ai, zh_az, zh_tg, zh_g0, zh_gi, zh_gr, zh_gl, zh_gn, z_f0, z_f1, z_f2, z_f3, z_us, z_uu, List.getElem?_cons_zero, List.getElem?_cons_succ, List.set_cons_zero, List.set_cons_succ, List.length_cons, List.length_nil, List.nil_append, List.cons_append, Option.toList_some, Option.toList_none, Nat.reduceAdd, Nat.reduceEqDiff, Nat.reduceLT, Nat.reduceLeDiff, ↓reduceIte, Nat.succ_ne_self, reduceCtorEq, true_and, and_true, and_self, or_false, false_or, or_true, true_or, Nat.lt_irrefl, Nat.zero_lt_succ, Nat.le_refl, Nat.zero_le, Nat.add_zero, Nat.zero_add, Nat.reduceMul, Int.cast_ofNat_Int, Int.natCast_one, Int.natCast_zero, Int.reduceAdd, Int.reduceNeg, Int.reduceToNat, Int.zero_add, Int.toNat_one, Int.toNat_zero, zc_im13, zc_im8, zc_im5, zc_im1, zc_i0, zc_i1, zc_i2, zc_i3, zc_i4, zc_i5, zc_i13, zc_bm2, zc_b6, zc_b7, zc_b8, zc_b10, zc_b12, zc_b13, zc_b16, zc_b17, zc_b20, zc_b31, zc_b32, zc_b60, zc_b63, zc_b64, zc_b80, zc_b127, zc_s128, zc_s140, zc_s200, zc_s255, zc_s256, zc_s400, zc_s1023, zc_s1304, zc_s4096, zc_s6000, zc_s7936, not_true_eq_false, not_false_eq_true, forall_const, false_implies, zX_s, zc_10, nI_add, false_and, and_false, eX5_readTexts]
      refine ⟨by omega, by show sl + 3 ≤ _; omega, 0, fun q hq0 => ?_⟩
      have go96 : z_sec x = false → G 96 [(5, .ref rv), (4, .ref rn), (2, .int (z_bo (decide (64 ≤ x)))), (0, .ref u), (1, .int (nI x))] [.ref rv, .ref rn, .ref q, .ref q] (va_up hk q (some (0, .inr (0, z_df 0)))) (cs + 1) (sl + z_N 0) := by
        intro hs
        refine hG.1 _ _ _ _ _ _ _ bX5_readTexts_96 ?_
        simp only [zs_iconst, zs_bipush, zs_sipush, zs_ldc, zs_getstatic, zs_iload_n, zs_iload, zs_lload_n, zs_aload_n, zs_aload, zs_istore_n, zs_istore, zs_astore_n, zs_astore, zs_iinc, zs_iadd, zs_isub, zs_imul, zs_iand, zs_ior, zs_ishl, zs_ishr, zs_idiv, zs_irem, zs_i2l, zs_l2i, zs_i2b, zs_i2c, zs_lor, zs_land, zs_lshl, zs_lshr, zs_lushr, zs_dup, zs_dup2, zs_pop, zs_aconst_null, zs_goto, zs_if_icmp, zs_ifCond, zs_ifnull, zs_ifnonnull, zs_tableswitch, zs_getfield, zs_putfield, zs_arraylength, zs_iaload, zs_baload, zs_aaload, zs_iastore, zs_bastore, zs_aastore, zs_newarray, zs_anewarray, zs_new, zs_invokespecial, zs_invokestatic, zs_invokevirtual, zs_checkcast, zs_iushr, zs_return_, zs_ireturn, zs_areturn, zw_0, zw_1, zh_lk0, zh_lk1, zh_i1, zh_i2, zh_l2, zh_li, zh_l1, zh_r1, zh_ri, zh_rii, zh_rir, zh_rv, zh_v1, zh_v2, zh_int, zh_lng, zh_rf, zh_rfn, zh_rfs, zh_rfsn, zh_nul, zh_nuln, zh_acp, zh_sm, zh_obj, zh_row, zh_rdx, zh_rdxn, zh_rrw, zh_len, zh_lenn, zh_ocs, zh_ocn, zh_b1, zh_b10, zh_b7, zh_eq, zh_ne, zh_lt, zh_ge, zh_gt, zh_le, zh_f0, zh_f1, zh_f2, zh_f2n, zh_s, zh_m0, zh_m1, zh_li0, zh_li1, zh_li2, zh_li3, zh_ab, zh_ai, zh_az, zh_tg, zh_g0, zh_gi, zh_gr, zh_gl, zh_gn, z_f0, z_f1, z_f2, z_f3, z_us, z_uu, List.getElem?_cons_zero, List.getElem?_cons_succ, List.set_cons_zero, List.set_cons_succ, List.length_cons, List.length_nil, List.nil_append, List.cons_append, Option.toList_some, Option.toList_none, Nat.reduceAdd, Nat.reduceEqDiff, Nat.reduceLT, Nat.reduceLeDiff, ↓reduceIte, Nat.succ_ne_self, reduceCtorEq, true_and, and_true, and_self, or_false, false_or, or_true, true_or, Nat.lt_irrefl, Nat.zero_lt_succ, Nat.le_refl, Nat.zero_le, Nat.add_zero, Nat.zero_add, Nat.reduceMul, Int.cast_ofNat_Int, Int.natCast_one, Int.natCast_zero, Int.reduceAdd, Int.reduceNeg, Int.reduceToNat, Int.zero_add, Int.toNat_one, Int.toNat_zero, zc_im13, zc_im8, zc_im5, zc_im1, zc_i0, zc_i1, zc_i2, zc_i3, zc_i4, zc_i5, zc_i13, zc_bm2, zc_b6, zc_b7, zc_b8, zc_b10, zc_b12, zc_b13, zc_b16, zc_b17, zc_b20, zc_b31, zc_b32, zc_b60, zc_b63, zc_b64, zc_b80, zc_b127, zc_s128, zc_s140, zc_s200, zc_s255, zc_s256, zc_s400, zc_s1023, zc_s1304, zc_s4096, zc_s6000, zc_s7936, not_true_eq_false, not_false_eq_true, forall_const, false_implies, zX_s, zc_10, nI_add, false_and, and_false, eX5_readTexts]
        exact mk q false _ hs.symm hq0 rfl
      by_cases hk64 : 64 ≤ x
      · have hs : z_sec x = false := by simp [z_sec, hk64]
        rw [decide_eq_true hk64] at go96 ⊢
        exact ⟨fun _ => go96 hs, fun c => absurd (by decide) c⟩
      · rw [decide_eq_false hk64] at go96 ⊢
        refine ⟨fun c => absurd (by decide) c, fun _ => ⟨fun c => ?_, fun c => ?_⟩⟩
        · rw [nI_ltI (by omega) (by omega)] at c
          exact go96 (by simp [z_sec]; omega)
        · rw [nI_ltI (by omega) (by omega)] at c
          have hs : z_sec x = true := by simp [z_sec]; omega
          have := mk q true [(5, .ref rv), (4, .ref rn), (2, .int (z_bo (decide (64 ≤ x)))), (0, .ref u), (1, .int (nI x))] hs.symm hq0 rfl
          rw [decide_eq_false hk64] at this
          exact this
    · rw [if_pos v1] at e1
      refine hG.1 _ _ _ _ _ _ _ bX5_readTexts_66 ?_
      simp only [zs_iconst, zs_bipush, zs_sipush, zs_ldc, zs_getstatic, zs_iload_n, zs_iload, zs_lload_n, zs_aload_n, zs_aload, zs_istore_n, zs_istore, zs_astore_n, zs_astore, zs_iinc, zs_iadd, zs_isub, zs_imul, zs_iand, zs_ior, zs_ishl, zs_ishr, zs_idiv, zs_irem, zs_i2l, zs_l2i, zs_i2b, zs_i2c, zs_lor, zs_land, zs_lshl, zs_lshr, zs_lushr, zs_dup, zs_dup2, zs_pop, zs_aconst_null, zs_goto, zs_if_icmp, zs_ifCond, zs_ifnull, zs_ifnonnull, zs_tableswitch, zs_getfield, zs_putfield, zs_arraylength, zs_iaload, zs_baload, zs_aaload, zs_iastore, zs_bastore, zs_aastore, zs_newarray, zs_anewarray, zs_new, zs_invokespecial, zs_invokestatic, zs_invokevirtual, zs_checkcast, zs_iushr, zs_return_, zs_ireturn, zs_areturn, zw_0, zw_1, zh_lk0, zh_lk1, zh_i1, zh_i2, zh_l2, zh_li, zh_l1, zh_r1, zh_ri, zh_rii, zh_rir, zh_rv, zh_v1, zh_v2, zh_int, zh_lng, zh_rf, zh_rfn, zh_rfs, zh_rfsn, zh_nul, zh_nuln, zh_acp, zh_sm, zh_obj, zh_row, zh_rdx, zh_rdxn, zh_rrw, zh_len, zh_lenn, zh_ocs, zh_ocn, zh_b1, zh_b10, zh_b7, zh_eq, zh_ne, zh_lt, zh_ge, zh_gt, zh_le, zh_f0, zh_f1, zh_f2, zh_f2n, zh_s, zh_m0, zh_m1, zh_li0, zh_li1, zh_li2, zh_li3, zh_ab, zh_ai, zh_az, zh_tg, zh_g0, zh_gi, zh_gr, zh_gl, zh_gn, z_f0, z_f1, z_f2, z_f3, z_us, z_uu, List.getElem?_cons_zero, List.getElem?_cons_succ, List.set_cons_zero, List.set_cons_succ, List.length_cons, List.length_nil, List.nil_append, List.cons_append, Option.toList_some, Option.toList_none, Nat.reduceAdd, Nat.reduceEqDiff, Nat.reduceLT, Nat.reduceLeDiff, ↓reduceIte, Nat.succ_ne_self, reduceCtorEq, true_and, and_true, and_self, or_false, false_or, or_true, true_or, Nat.lt_irrefl, Nat.zero_lt_succ, Nat.le_refl, Nat.zero_le, Nat.add_zero, Nat.zero_add, Nat.reduceMul, Int.cast_ofNat_Int, Int.natCast_one, Int.natCast_zero, Int.reduceAdd, Int.reduceNeg, Int.reduceToNat, Int.zero_add, Int.toNat_one, Int.toNat_zero, zc_im13, zc_im8, zc_im5, zc_im1, zc_i0, zc_i1, zc_i2, zc_i3, zc_i4, zc_i5, zc_i13, zc_bm2, zc_b6, zc_b7, zc_b8, zc_b10, zc_b12, zc_b13, zc_b16, zc_b17, zc_b20, zc_b31, zc_b32, zc_b60, zc_b63, zc_b64, zc_b80, zc_b127, zc_s128, zc_s140, zc_s200, zc_s255, zc_s256, zc_s400, zc_s1023, zc_s1304, zc_s4096, zc_s6000, zc_s7936, not_true_eq_false, not_false_eq_true, forall_const, false_implies, zX_s, zc_10, nI_add, false_and, and_false, eX5_readTexts]
      rw [e1] at *
      exact ⟨by omega, e9, rfl, e3, e4⟩
  have mid : ∀ (hk : zH) (N2 : Nat × List Nat × Nat) (n : Nat) (r : Option Value) (cs sl : Nat), Z = z_sT2 ld x FL L lim N2 → z_Us hk u ai af at' al ax m ld F N2.1 N2.2.2 FL L lim → z_fr zUc h hk → N2.1 ≤ 6 → ((N2.1 = 0 ∧ (∃ q, r = some (.ref q) ∧ z_T0 hk q N2.2.1) ∧ N2.2.2 ≤ ld.length ∧ p ≤ N2.2.2 ∧ sl ≤ 2 * (N2.2.2 - p) ∧ sl ≤ 200) ∨ (N2.1 ≠ 0 ∧ r = some .null ∧ sl ≤ 200)) → cs ≤ 1 → G 51 [(3, .int (nI n)), (2, .int (z_bo (decide (64 ≤ x)))), (0, .ref u), (1, .int (nI x))] (r.toList ++ []) hk cs sl := by
    intro hk N2 n r cs sl e1 e2 e3 e4 e5 e6
    rw [z_sT2] at e1
    rcases e5 with ⟨v1, ⟨q, rfl, v3⟩, v4, v5, v6, v7⟩ | ⟨v1, rfl, v3⟩
    · rw [if_neg (by simp [v1])] at e1
      rw [v1] at e2
      obtain ⟨q1, q2, q3, q4, q5, q6⟩ := id e2
      have hV6 := z_rT_ft ld N2.2.2
      have hVo := z_rT_ok (ld := ld) (p := N2.2.2)
      have hV2 := z_rT_200 (ld := ld) (p := N2.2.2)
      have hks : (z_rT ld N2.2.2).1 = 0 → z_ks p Z = 2 * ((z_rT ld N2.2.2).2.2 - p) + 3 := by
        intro z
        rw [e1, z_sT3, if_neg (by simp [z]), z_ks, if_pos rfl]
      have hks2 : (z_rT ld N2.2.2).1 ≠ 0 → z_ks p Z = 200 := by
        intro z
        rw [e1, z_sT3, if_pos z, z_ks, if_neg z]
      have hc1 : z_c1 ((z_rT ld N2.2.2).1, (z_rT ld N2.2.2).2.1) ≤ 1 := by
        unfold z_c1
        split <;> omega
      have hct : sl + z_ct ((z_rT ld N2.2.2).1, (z_rT ld N2.2.2).2.1) ≤ z_ks p Z := by
        unfold z_ct
        by_cases z : (z_rT ld N2.2.2).1 = 0
        · have := hVo z
          rw [if_pos z, hks z]
          simp only
          omega
        · rw [if_neg z, hks2 z]
          omega
      have hct3 : (z_rT ld N2.2.2).1 = 0 → sl + z_ct ((z_rT ld N2.2.2).1, (z_rT ld N2.2.2).2.1) + 3 ≤ z_ks p Z := by
        intro z
        have := hVo z
        unfold z_ct
        rw [if_pos z, hks z]
        simp only
        omega
      refine hG.1 _ _ _ _ _ _ _ bX5_readTexts_51 ?_
      simp only [zs_iconst, zs_bipush, zs_sipush, zs_ldc, zs_getstatic, zs_iload_n, zs_iload, zs_lload_n, zs_aload_n, zs_aload, zs_istore_n, zs_istore, zs_astore_n, zs_astore, zs_iinc, zs_iadd, zs_isub, zs_imul, zs_iand, zs_ior, zs_ishl, zs_ishr, zs_idiv, zs_irem, zs_i2l, zs_l2i, zs_i2b, zs_i2c, zs_lor, zs_land, zs_lshl, zs_lshr, zs_lushr, zs_dup, zs_dup2, zs_pop, zs_aconst_null, zs_goto, zs_if_icmp, zs_ifCond, zs_ifnull, zs_ifnonnull, zs_tableswitch, zs_getfield, zs_putfield, zs_arraylength, zs_iaload, zs_baload, zs_aaload, zs_iastore, zs_bastore, zs_aastore, zs_newarray, zs_anewarray, zs_new, zs_invokespecial, zs_invokestatic, zs_invokevirtual, zs_checkcast, zs_iushr, zs_return_, zs_ireturn, zs_areturn, zw_0, zw_1, zh_lk0, zh_lk1, zh_i1, zh_i2, zh_l2, zh_li, zh_l1, zh_r1, zh_ri, zh_rii, zh_rir, zh_rv, zh_v1, zh_v2, zh_int, zh_lng, zh_rf, zh_rfn, zh_rfs, zh_rfsn, zh_nul, zh_nuln, zh_acp, zh_sm, zh_obj, zh_row, zh_rdx, zh_rdxn, zh_rrw, zh_len, zh_lenn, zh_ocs, zh_ocn, zh_b1, zh_b10, zh_b7, zh_eq, zh_ne, zh_lt, zh_ge, zh_gt, zh_le, zh_f0, zh_f1, zh_f2, zh_f2n, zh_s, zh_m0, zh_m1, zh_li0, zh_li1, zh_li2, zh_li3, zh_ab, zh_ai, zh_az, zh_tg, zh_g0, zh_gi, zh_gr, zh_gl, zh_gn, z_f0, z_f1, z_f2, z_f3, z_us, z_uu, List.getElem?_cons_zero, List.getElem?_cons_succ, List.set_cons_zero, List.set_cons_succ, List.length_cons, List.length_nil, List.nil_append, List.cons_append, Option.toList_some, Option.toList_none, Nat.reduceAdd, Nat.reduceEqDiff, Nat.reduceLT, Nat.reduceLeDiff, ↓reduceIte, Nat.succ_ne_self, reduceCtorEq, true_and, and_true, and_self, or_false, false_or, or_true, true_or, Nat.lt_irrefl, Nat.zero_lt_succ, Nat.le_refl, Nat.zero_le, Nat.add_zero, Nat.zero_add, Nat.reduceMul, Int.cast_ofNat_Int, Int.natCast_one, Int.natCast_zero, Int.reduceAdd, Int.reduceNeg, Int.reduceToNat, Int.zero_add, Int.toNat_one, Int.toNat_zero, zc_im13, zc_im8, zc_im5, zc_im1, zc_i0, zc_i1, zc_i2, zc_i3, zc_i4, zc_i5, zc_i13, zc_bm2, zc_b6, zc_b7, zc_b8, zc_b10, zc_b12, zc_b13, zc_b16, zc_b17, zc_b20, zc_b31, zc_b32, zc_b60, zc_b63, zc_b64, zc_b80, zc_b127, zc_s128, zc_s140, zc_s200, zc_s255, zc_s256, zc_s400, zc_s1023, zc_s1304, zc_s4096, zc_s6000, zc_s7936, not_true_eq_false, not_false_eq_true, forall_const, false_implies, zX_s, zc_10, nI_add, false_and, and_false, eX5_readTexts]
      refine hG.1 _ _ _ _ _ _ _ bX5_readTexts_62 ?_
      simp only [zs_iconst, zs_bipush, zs_sipush, zs_ldc, zs_getstatic, zs_iload_n, zs_iload, zs_lload_n, zs_aload_n, zs_aload, zs_istore_n, zs_istore, zs_astore_n, zs_astore, zs_iinc, zs_iadd, zs_isub, zs_imul, zs_iand, zs_ior, zs_ishl, zs_ishr, zs_idiv, zs_irem, zs_i2l, zs_l2i, zs_i2b, zs_i2c, zs_lor, zs_land, zs_lshl, zs_lshr, zs_lushr, zs_dup, zs_dup2, zs_pop, zs_aconst_null, zs_goto, zs_if_icmp, zs_ifCond, zs_ifnull, zs_ifnonnull, zs_tableswitch, zs_getfield, zs_putfield, zs_arraylength, zs_iaload, zs_baload, zs_aaload, zs_iastore, zs_bastore, zs_aastore, zs_newarray, zs_anewarray, zs_new, zs_invokespecial, zs_invokestatic, zs_invokevirtual, zs_checkcast, zs_iushr, zs_return_, zs_ireturn, zs_areturn, zw_0, zw_1, zh_lk0, zh_lk1, zh_i1, zh_i2, zh_l2, zh_li, zh_l1, zh_r1, zh_ri, zh_rii, zh_rir, zh_rv, zh_v1, zh_v2, zh_int, zh_lng, zh_rf, zh_rfn, zh_rfs, zh_rfsn, zh_nul, zh_nuln, zh_acp, zh_sm, zh_obj, zh_row, zh_rdx, zh_rdxn, zh_rrw, zh_len, zh_lenn, zh_ocs, zh_ocn, zh_b1, zh_b10, zh_b7, zh_eq, zh_ne, zh_lt, zh_ge, zh_gt, zh_le, zh_f0, zh_f1, zh_f2, zh_f2n, zh_s, zh_m0, zh_m1, zh_li0, zh_li1, zh_li2, zh_li3, zh_ab, zh_ai, zh_az, zh_tg, zh_g0, zh_gi, zh_gr, zh_gl, zh_gn, z_f0, z_f1, z_f2, z_f3, z_us, z_uu, List.getElem?_cons_zero, List.getElem?_cons_succ, List.set_cons_zero, List.set_cons_succ, List.length_cons, List.length_nil, List.nil_append, List.cons_append, Option.toList_some, Option.toList_none, Nat.reduceAdd, Nat.reduceEqDiff, Nat.reduceLT, Nat.reduceLeDiff, ↓reduceIte, Nat.succ_ne_self, reduceCtorEq, true_and, and_true, and_self, or_false, false_or, or_true, true_or, Nat.lt_irrefl, Nat.zero_lt_succ, Nat.le_refl, Nat.zero_le, Nat.add_zero, Nat.zero_add, Nat.reduceMul, Int.cast_ofNat_Int, Int.natCast_one, Int.natCast_zero, Int.reduceAdd, Int.reduceNeg, Int.reduceToNat, Int.zero_add, Int.toNat_one, Int.toNat_zero, zc_im13, zc_im8, zc_im5, zc_im1, zc_i0, zc_i1, zc_i2, zc_i3, zc_i4, zc_i5, zc_i13, zc_bm2, zc_b6, zc_b7, zc_b8, zc_b10, zc_b12, zc_b13, zc_b16, zc_b17, zc_b20, zc_b31, zc_b32, zc_b60, zc_b63, zc_b64, zc_b80, zc_b127, zc_s128, zc_s140, zc_s200, zc_s255, zc_s256, zc_s400, zc_s1023, zc_s1304, zc_s4096, zc_s6000, zc_s7936, not_true_eq_false, not_false_eq_true, forall_const, false_implies, zX_s, zc_10, nI_add, false_and, and_false, eX5_readTexts]
      refine kX5_readTexts_63 (st := []) hG q1 (c_readText q1 q2 hl v4 q3) (fun r5 h5 hq5 => ?_) (by omega) hct
      obtain ⟨w1, w2, w3, w4⟩ := hq5
      refine z_lvw hG [(4, .ref q), (2, .int (z_bo (decide (64 ≤ x)))), (0, .ref u), (1, .int (nI x))] (by simp) ?_
      exact fin h5 N2.2.1 (z_rT ld N2.2.2) q r5 _ _ _ e1 (v3.fr w3 (by decide)) (e2.fr2 w3 w2 w4) (e3.tr (w3.mo (by decide))) hV6 w1 (by omega) hct3 hct rfl
    · rw [if_pos v1] at e1
      have hks : z_ks p Z = 200 := by rw [e1, z_ks, if_neg v1]
      refine hG.1 _ _ _ _ _ _ _ bX5_readTexts_51 ?_
      simp only [zs_iconst, zs_bipush, zs_sipush, zs_ldc, zs_getstatic, zs_iload_n, zs_iload, zs_lload_n, zs_aload_n, zs_aload, zs_istore_n, zs_istore, zs_astore_n, zs_astore, zs_iinc, zs_iadd, zs_isub, zs_imul, zs_iand, zs_ior, zs_ishl, zs_ishr, zs_idiv, zs_irem, zs_i2l, zs_l2i, zs_i2b, zs_i2c, zs_lor, zs_land, zs_lshl, zs_lshr, zs_lushr, zs_dup, zs_dup2, zs_pop, zs_aconst_null, zs_goto, zs_if_icmp, zs_ifCond, zs_ifnull, zs_ifnonnull, zs_tableswitch, zs_getfield, zs_putfield, zs_arraylength, zs_iaload, zs_baload, zs_aaload, zs_iastore, zs_bastore, zs_aastore, zs_newarray, zs_anewarray, zs_new, zs_invokespecial, zs_invokestatic, zs_invokevirtual, zs_checkcast, zs_iushr, zs_return_, zs_ireturn, zs_areturn, zw_0, zw_1, zh_lk0, zh_lk1, zh_i1, zh_i2, zh_l2, zh_li, zh_l1, zh_r1, zh_ri, zh_rii, zh_rir, zh_rv, zh_v1, zh_v2, zh_int, zh_lng, zh_rf, zh_rfn, zh_rfs, zh_rfsn, zh_nul, zh_nuln, zh_acp, zh_sm, zh_obj, zh_row, zh_rdx, zh_rdxn, zh_rrw, zh_len, zh_lenn, zh_ocs, zh_ocn, zh_b1, zh_b10, zh_b7, zh_eq, zh_ne, zh_lt, zh_ge, zh_gt, zh_le, zh_f0, zh_f1, zh_f2, zh_f2n, zh_s, zh_m0, zh_m1, zh_li0, zh_li1, zh_li2, zh_li3, zh_ab, zh_ai, zh_az, zh_tg, zh_g0, zh_gi, zh_gr, zh_gl, zh_gn, z_f0, z_f1, z_f2, z_f3, z_us, z_uu, List.getElem?_cons_zero, List.getElem?_cons_succ, List.set_cons_zero, List.set_cons_succ, List.length_cons, List.length_nil, List.nil_append, List.cons_append, Option.toList_some, Option.toList_none, Nat.reduceAdd, Nat.reduceEqDiff, Nat.reduceLT, Nat.reduceLeDiff, ↓reduceIte, Nat.succ_ne_self, reduceCtorEq, true_and, and_true, and_self, or_false, false_or, or_true, true_or, Nat.lt_irrefl, Nat.zero_lt_succ, Nat.le_refl, Nat.zero_le, Nat.add_zero, Nat.zero_add, Nat.reduceMul, Int.cast_ofNat_Int, Int.natCast_one, Int.natCast_zero, Int.reduceAdd, Int.reduceNeg, Int.reduceToNat, Int.zero_add, Int.toNat_one, Int.toNat_zero, zc_im13, zc_im8, zc_im5, zc_im1, zc_i0, zc_i1, zc_i2, zc_i3, zc_i4, zc_i5, zc_i13, zc_bm2, zc_b6, zc_b7, zc_b8, zc_b10, zc_b12, zc_b13, zc_b16, zc_b17, zc_b20, zc_b31, zc_b32, zc_b60, zc_b63, zc_b64, zc_b80, zc_b127, zc_s128, zc_s140, zc_s200, zc_s255, zc_s256, zc_s400, zc_s1023, zc_s1304, zc_s4096, zc_s6000, zc_s7936, not_true_eq_false, not_false_eq_true, forall_const, false_implies, zX_s, zc_10, nI_add, false_and, and_false, eX5_readTexts]
      refine hG.1 _ _ _ _ _ _ _ bX5_readTexts_66 ?_
      simp only [zs_iconst, zs_bipush, zs_sipush, zs_ldc, zs_getstatic, zs_iload_n, zs_iload, zs_lload_n, zs_aload_n, zs_aload, zs_istore_n, zs_istore, zs_astore_n, zs_astore, zs_iinc, zs_iadd, zs_isub, zs_imul, zs_iand, zs_ior, zs_ishl, zs_ishr, zs_idiv, zs_irem, zs_i2l, zs_l2i, zs_i2b, zs_i2c, zs_lor, zs_land, zs_lshl, zs_lshr, zs_lushr, zs_dup, zs_dup2, zs_pop, zs_aconst_null, zs_goto, zs_if_icmp, zs_ifCond, zs_ifnull, zs_ifnonnull, zs_tableswitch, zs_getfield, zs_putfield, zs_arraylength, zs_iaload, zs_baload, zs_aaload, zs_iastore, zs_bastore, zs_aastore, zs_newarray, zs_anewarray, zs_new, zs_invokespecial, zs_invokestatic, zs_invokevirtual, zs_checkcast, zs_iushr, zs_return_, zs_ireturn, zs_areturn, zw_0, zw_1, zh_lk0, zh_lk1, zh_i1, zh_i2, zh_l2, zh_li, zh_l1, zh_r1, zh_ri, zh_rii, zh_rir, zh_rv, zh_v1, zh_v2, zh_int, zh_lng, zh_rf, zh_rfn, zh_rfs, zh_rfsn, zh_nul, zh_nuln, zh_acp, zh_sm, zh_obj, zh_row, zh_rdx, zh_rdxn, zh_rrw, zh_len, zh_lenn, zh_ocs, zh_ocn, zh_b1, zh_b10, zh_b7, zh_eq, zh_ne, zh_lt, zh_ge, zh_gt, zh_le, zh_f0, zh_f1, zh_f2, zh_f2n, zh_s, zh_m0, zh_m1, zh_li0, zh_li1, zh_li2, zh_li3, zh_ab, zh_ai, zh_az, zh_tg, zh_g0, zh_gi, zh_gr, zh_gl, zh_gn, z_f0, z_f1, z_f2, z_f3, z_us, z_uu, List.getElem?_cons_zero, List.getElem?_cons_succ, List.set_cons_zero, List.set_cons_succ, List.length_cons, List.length_nil, List.nil_append, List.cons_append, Option.toList_some, Option.toList_none, Nat.reduceAdd, Nat.reduceEqDiff, Nat.reduceLT, Nat.reduceLeDiff, ↓reduceIte, Nat.succ_ne_self, reduceCtorEq, true_and, and_true, and_self, or_false, false_or, or_true, true_or, Nat.lt_irrefl, Nat.zero_lt_succ, Nat.le_refl, Nat.zero_le, Nat.add_zero, Nat.zero_add, Nat.reduceMul, Int.cast_ofNat_Int, Int.natCast_one, Int.natCast_zero, Int.reduceAdd, Int.reduceNeg, Int.reduceToNat, Int.zero_add, Int.toNat_one, Int.toNat_zero, zc_im13, zc_im8, zc_im5, zc_im1, zc_i0, zc_i1, zc_i2, zc_i3, zc_i4, zc_i5, zc_i13, zc_bm2, zc_b6, zc_b7, zc_b8, zc_b10, zc_b12, zc_b13, zc_b16, zc_b17, zc_b20, zc_b31, zc_b32, zc_b60, zc_b63, zc_b64, zc_b80, zc_b127, zc_s128, zc_s140, zc_s200, zc_s255, zc_s256, zc_s400, zc_s1023, zc_s1304, zc_s4096, zc_s6000, zc_s7936, not_true_eq_false, not_false_eq_true, forall_const, false_implies, zX_s, zc_10, nI_add, false_and, and_false, eX5_readTexts]
      rw [e1] at hks ⊢
      exact ⟨by omega, by omega, rfl, e2, e3⟩
  -- the number
  have num : ∀ lv, lv = [(2, .int (z_bo (decide (64 ≤ x)))), (0, .ref u), (1, .int (nI x))] → G 23 lv [.int (nI (z_kb x)), .ref u] h 0 0 := by
    intro lv hlv
    subst hlv
    refine kX5_readTexts_23 (st := []) hG hu (c_readNumber hu hr hl (by omega) hkb) (fun r3 hk hq => ?_) (by omega) (by omega)
    obtain ⟨rfl, k1, k2⟩ := hq
    generalize z_rN ld (z_kb x) p = N at *
    obtain ⟨ft, n, p1⟩ := N
    simp only at hZ hN hNf k1 ⊢
    have k1' : hk u = some (14, .inr (5, [.ref ai, .ref af, .ref at', .ref al, .int (nI p1), .int (nI ft)])) := k1
    have hUk := hU.fr14 k2 k1
    have k2' : z_fr zUc h hk := k2.mo (by decide)
    refine hG.1 _ _ _ _ _ _ _ bX5_readTexts_26 ?_
    simp only [zs_iconst, zs_bipush, zs_sipush, zs_ldc, zs_getstatic, zs_iload_n, zs_iload, zs_lload_n, zs_aload_n, zs_aload, zs_istore_n, zs_istore, zs_astore_n, zs_astore, zs_iinc, zs_iadd, zs_isub, zs_imul, zs_iand, zs_ior, zs_ishl, zs_ishr, zs_idiv, zs_irem, zs_i2l, zs_l2i, zs_i2b, zs_i2c, zs_lor, zs_land, zs_lshl, zs_lshr, zs_lushr, zs_dup, zs_dup2, zs_pop, zs_aconst_null, zs_goto, zs_if_icmp, zs_ifCond, zs_ifnull, zs_ifnonnull, zs_tableswitch, zs_getfield, zs_putfield, zs_arraylength, zs_iaload, zs_baload, zs_aaload, zs_iastore, zs_bastore, zs_aastore, zs_newarray, zs_anewarray, zs_new, zs_invokespecial, zs_invokestatic, zs_invokevirtual, zs_checkcast, zs_iushr, zs_return_, zs_ireturn, zs_areturn, zw_0, zw_1, zh_lk0, zh_lk1, zh_i1, zh_i2, zh_l2, zh_li, zh_l1, zh_r1, zh_ri, zh_rii, zh_rir, zh_rv, zh_v1, zh_v2, zh_int, zh_lng, zh_rf, zh_rfn, zh_rfs, zh_rfsn, zh_nul, zh_nuln, zh_acp, zh_sm, zh_obj, zh_row, zh_rdx, zh_rdxn, zh_rrw, zh_len, zh_lenn, zh_ocs, zh_ocn, zh_b1, zh_b10, zh_b7, zh_eq, zh_ne, zh_lt, zh_ge, zh_gt, zh_le, zh_f0, zh_f1, zh_f2, zh_f2n, zh_s, zh_m0, zh_m1, zh_li0, zh_li1, zh_li2, zh_li3, zh_ab, zh_ai, zh_az, zh_tg, zh_g0, zh_gi, zh_gr, zh_gl, zh_gn, z_f0, z_f1, z_f2, z_f3, z_us, z_uu, List.getElem?_cons_zero, List.getElem?_cons_succ, List.set_cons_zero, List.set_cons_succ, List.length_cons, List.length_nil, List.nil_append, List.cons_append, Option.toList_some, Option.toList_none, Nat.reduceAdd, Nat.reduceEqDiff, Nat.reduceLT, Nat.reduceLeDiff, ↓reduceIte, Nat.succ_ne_self, reduceCtorEq, true_and, and_true, and_self, or_false, false_or, or_true, true_or, Nat.lt_irrefl, Nat.zero_lt_succ, Nat.le_refl, Nat.zero_le, Nat.add_zero, Nat.zero_add, Nat.reduceMul, Int.cast_ofNat_Int, Int.natCast_one, Int.natCast_zero, Int.reduceAdd, Int.reduceNeg, Int.reduceToNat, Int.zero_add, Int.toNat_one, Int.toNat_zero, zc_im13, zc_im8, zc_im5, zc_im1, zc_i0, zc_i1, zc_i2, zc_i3, zc_i4, zc_i5, zc_i13, zc_bm2, zc_b6, zc_b7, zc_b8, zc_b10, zc_b12, zc_b13, zc_b16, zc_b17, zc_b20, zc_b31, zc_b32, zc_b60, zc_b63, zc_b64, zc_b80, zc_b127, zc_s128, zc_s140, zc_s200, zc_s255, zc_s256, zc_s400, zc_s1023, zc_s1304, zc_s4096, zc_s6000, zc_s7936, not_true_eq_false, not_false_eq_true, forall_const, false_implies, zX_s, zc_10, nI_add, false_and, and_false, eX5_readTexts, k1']
    refine ⟨fun c => ?_, fun c => ?_⟩
    · have hft : ft = 0 := z_nI0 (by omega) c
      subst hft
      rw [if_neg (by simp)] at hZ
      obtain ⟨N1, N2, N3⟩ := hN rfl
      obtain ⟨q1, q2, q3, q4, q5, q6⟩ := id hUk
      refine hG.1 _ _ _ _ _ _ _ bX5_readTexts_35 ?_
      simp only [zs_iconst, zs_bipush, zs_sipush, zs_ldc, zs_getstatic, zs_iload_n, zs_iload, zs_lload_n, zs_aload_n, zs_aload, zs_istore_n, zs_istore, zs_astore_n, zs_astore, zs_iinc, zs_iadd, zs_isub, zs_imul, zs_iand, zs_ior, zs_ishl, zs_ishr, zs_idiv, zs_irem, zs_i2l, zs_l2i, zs_i2b, zs_i2c, zs_lor, zs_land, zs_lshl, zs_lshr, zs_lushr, zs_dup, zs_dup2, zs_pop, zs_aconst_null, zs_goto, zs_if_icmp, zs_ifCond, zs_ifnull, zs_ifnonnull, zs_tableswitch, zs_getfield, zs_putfield, zs_arraylength, zs_iaload, zs_baload, zs_aaload, zs_iastore, zs_bastore, zs_aastore, zs_newarray, zs_anewarray, zs_new, zs_invokespecial, zs_invokestatic, zs_invokevirtual, zs_checkcast, zs_iushr, zs_return_, zs_ireturn, zs_areturn, zw_0, zw_1, zh_lk0, zh_lk1, zh_i1, zh_i2, zh_l2, zh_li, zh_l1, zh_r1, zh_ri, zh_rii, zh_rir, zh_rv, zh_v1, zh_v2, zh_int, zh_lng, zh_rf, zh_rfn, zh_rfs, zh_rfsn, zh_nul, zh_nuln, zh_acp, zh_sm, zh_obj, zh_row, zh_rdx, zh_rdxn, zh_rrw, zh_len, zh_lenn, zh_ocs, zh_ocn, zh_b1, zh_b10, zh_b7, zh_eq, zh_ne, zh_lt, zh_ge, zh_gt, zh_le, zh_f0, zh_f1, zh_f2, zh_f2n, zh_s, zh_m0, zh_m1, zh_li0, zh_li1, zh_li2, zh_li3, zh_ab, zh_ai, zh_az, zh_tg, zh_g0, zh_gi, zh_gr, zh_gl, zh_gn, z_f0, z_f1, z_f2, z_f3, z_us, z_uu, List.getElem?_cons_zero, List.getElem?_cons_succ, List.set_cons_zero, List.set_cons_succ, List.length_cons, List.length_nil, List.nil_append, List.cons_append, Option.toList_some, Option.toList_none, Nat.reduceAdd, Nat.reduceEqDiff, Nat.reduceLT, Nat.reduceLeDiff, ↓reduceIte, Nat.succ_ne_self, reduceCtorEq, true_and, and_true, and_self, or_false, false_or, or_true, true_or, Nat.lt_irrefl, Nat.zero_lt_succ, Nat.le_refl, Nat.zero_le, Nat.add_zero, Nat.zero_add, Nat.reduceMul, Int.cast_ofNat_Int, Int.natCast_one, Int.natCast_zero, Int.reduceAdd, Int.reduceNeg, Int.reduceToNat, Int.zero_add, Int.toNat_one, Int.toNat_zero, zc_im13, zc_im8, zc_im5, zc_im1, zc_i0, zc_i1, zc_i2, zc_i3, zc_i4, zc_i5, zc_i13, zc_bm2, zc_b6, zc_b7, zc_b8, zc_b10, zc_b12, zc_b13, zc_b16, zc_b17, zc_b20, zc_b31, zc_b32, zc_b60, zc_b63, zc_b64, zc_b80, zc_b127, zc_s128, zc_s140, zc_s200, zc_s255, zc_s256, zc_s400, zc_s1023, zc_s1304, zc_s4096, zc_s6000, zc_s7936, not_true_eq_false, not_false_eq_true, forall_const, false_implies, zX_s, zc_10, nI_add, false_and, and_false, eX5_readTexts]
      refine ⟨fun c2 => ?_, fun c2 => ?_⟩
      · have hn0 : n ≠ 0 := fun z => c2 (by rw [z]; decide)
        refine hG.1 _ _ _ _ _ _ _ bX5_readTexts_46 ?_
        simp only [zs_iconst, zs_bipush, zs_sipush, zs_ldc, zs_getstatic, zs_iload_n, zs_iload, zs_lload_n, zs_aload_n, zs_aload, zs_istore_n, zs_istore, zs_astore_n, zs_astore, zs_iinc, zs_iadd, zs_isub, zs_imul, zs_iand, zs_ior, zs_ishl, zs_ishr, zs_idiv, zs_irem, zs_i2l, zs_l2i, zs_i2b, zs_i2c, zs_lor, zs_land, zs_lshl, zs_lshr, zs_lushr, zs_dup, zs_dup2, zs_pop, zs_aconst_null, zs_goto, zs_if_icmp, zs_ifCond, zs_ifnull, zs_ifnonnull, zs_tableswitch, zs_getfield, zs_putfield, zs_arraylength, zs_iaload, zs_baload, zs_aaload, zs_iastore, zs_bastore, zs_aastore, zs_newarray, zs_anewarray, zs_new, zs_invokespecial, zs_invokestatic, zs_invokevirtual, zs_checkcast, zs_iushr, zs_return_, zs_ireturn, zs_areturn, zw_0, zw_1, zh_lk0, zh_lk1, zh_i1, zh_i2, zh_l2, zh_li, zh_l1, zh_r1, zh_ri, zh_rii, zh_rir, zh_rv, zh_v1, zh_v2, zh_int, zh_lng, zh_rf, zh_rfn, zh_rfs, zh_rfsn, zh_nul, zh_nuln, zh_acp, zh_sm, zh_obj, zh_row, zh_rdx, zh_rdxn, zh_rrw, zh_len, zh_lenn, zh_ocs, zh_ocn, zh_b1, zh_b10, zh_b7, zh_eq, zh_ne, zh_lt, zh_ge, zh_gt, zh_le, zh_f0, zh_f1, zh_f2, zh_f2n, zh_s, zh_m0, zh_m1, zh_li0, zh_li1, zh_li2, zh_li3, zh_ab, zh_ai, zh_az, zh_tg, zh_g0, zh_gi, zh_gr, zh_gl, zh_gn, z_f0, z_f1, z_f2, z_f3, z_us, z_uu, List.getElem?_cons_zero, List.getElem?_cons_succ, List.set_cons_zero, List.set_cons_succ, List.length_cons, List.length_nil, List.nil_append, List.cons_append, Option.toList_some, Option.toList_none, Nat.reduceAdd, Nat.reduceEqDiff, Nat.reduceLT, Nat.reduceLeDiff, ↓reduceIte, Nat.succ_ne_self, reduceCtorEq, true_and, and_true, and_self, or_false, false_or, or_true, true_or, Nat.lt_irrefl, Nat.zero_lt_succ, Nat.le_refl, Nat.zero_le, Nat.add_zero, Nat.zero_add, Nat.reduceMul, Int.cast_ofNat_Int, Int.natCast_one, Int.natCast_zero, Int.reduceAdd, Int.reduceNeg, Int.reduceToNat, Int.zero_add, Int.toNat_one, Int.toNat_zero, zc_im13, zc_im8, zc_im5, zc_im1, zc_i0, zc_i1, zc_i2, zc_i3, zc_i4, zc_i5, zc_i13, zc_bm2, zc_b6, zc_b7, zc_b8, zc_b10, zc_b12, zc_b13, zc_b16, zc_b17, zc_b20, zc_b31, zc_b32, zc_b60, zc_b63, zc_b64, zc_b80, zc_b127, zc_s128, zc_s140, zc_s200, zc_s255, zc_s256, zc_s400, zc_s1023, zc_s1304, zc_s4096, zc_s6000, zc_s7936, not_true_eq_false, not_false_eq_true, forall_const, false_implies, zX_s, zc_10, nI_add, false_and, and_false, eX5_readTexts]
        refine kX5_readTexts_48 (st := []) hG q1 (c_nameAt q1 q5 q6 (by omega)) (fun r5 h5 hq5 => ?_) (by omega) (by omega)
        rcases hq5 with ⟨q, e1, e2, rfl, e4, hh⟩ | ⟨e1, rfl, e3, e4⟩
        · rw [hh]
          refine mid hk (0, ((F ++ L).getD (n - 1) zf0).1, p1) n _ _ _ ?_ hUk k2' (by simp) (Or.inl ⟨rfl, ⟨q, rfl, e4⟩, N2, by simp only; omega, by simp only; omega, by omega⟩) (by omega)
          rw [← hZ, z_nmT, if_neg hn0, if_pos e2]
        · refine mid h5 (2, [], p1) n _ _ _ ?_ (hUk.fr14 e4 e3) (k2'.tr (e4.mo (by decide))) (by simp) (Or.inr ⟨by simp, rfl, by omega⟩) (by omega)
          rw [← hZ, z_nmT, if_neg hn0, if_neg (by omega)]
      · have hn0 : n = 0 := z_nI0 (by omega) (Classical.not_not.mp c2)
        have hV6 := z_rT_ft ld p1
        have hVo := z_rT_ok (ld := ld) (p := p1)
        have hV2 := z_rT_200 (ld := ld) (p := p1)
        have hnm : z_nmT ld (F ++ L) n p1 = z_rT ld p1 := by rw [z_nmT, if_pos hn0]
        rw [hnm] at hZ
        have hc1 : z_c1 ((z_rT ld p1).1, (z_rT ld p1).2.1) ≤ 1 := by
          unfold z_c1
          split <;> omega
        have hks : 200 ≤ z_ks p Z ∨ (z_rT ld p1).1 = 0 := by
          by_cases z : (z_rT ld p1).1 = 0
          · exact Or.inr z
          · rw [← hZ, z_sT2, if_pos z, z_ks, if_neg z]
            exact Or.inl (Nat.le_refl _)
        have hct0 : (z_rT ld p1).1 ≠ 0 → z_ct ((z_rT ld p1).1, (z_rT ld p1).2.1) = 0 := fun z => by unfold z_ct; rw [if_neg z]
        have hct1 : (z_rT ld p1).1 = 0 → z_ct ((z_rT ld p1).1, (z_rT ld p1).2.1) = (z_rT ld p1).2.1.length := fun z => by unfold z_ct; rw [if_pos z]
        have hbud : z_ct ((z_rT ld p1).1, (z_rT ld p1).2.1) ≤ z_ks p Z := by
          by_cases z : (z_rT ld p1).1 = 0
          · rw [hct1 z]
            have h1 := hVo z
            have h2 := hV2 z
            rw [← hZ, z_sT2, if_neg (by simp [z]), z_sT3]
            by_cases z2 : (z_rT ld (z_rT ld p1).2.2).1 = 0
            · have h3 := z_rT_ok z2
              rw [if_neg (by simp [z2]), z_ks, if_pos rfl]
              simp only
              omega
            · rw [if_pos z2, z_ks, if_neg z2]
              exact h2
          · rw [hct0 z]
            exact Nat.zero_le _
        refine kX5_readTexts_40 (st := []) hG q1 (c_readText q1 q2 hl N2 q3) (fun r5 h5 hq5 => ?_) (by omega) (by omega)
        obtain ⟨w1, w2, w3, w4⟩ := hq5
        have go : ∀ st, st = r5.toList ++ [] → G 43 [(3, .int (nI n)), (2, .int (z_bo (decide (64 ≤ x)))), (0, .ref u), (1, .int (nI x))] st h5 (0 + 0 + z_c1 ((z_rT ld p1).1, (z_rT ld p1).2.1)) (0 + 0 + z_ct ((z_rT ld p1).1, (z_rT ld p1).2.1)) := by
          intro st hst
          subst hst
          have fin2 := mid h5 (z_rT ld p1) n r5 (0 + 0 + z_c1 ((z_rT ld p1).1, (z_rT ld p1).2.1)) (0 + 0 + z_ct ((z_rT ld p1).1, (z_rT ld p1).2.1)) hZ.symm (hUk.fr2 w3 w2 w4) (k2'.tr (w3.mo (by decide))) hV6 (by
            rcases w1 with ⟨a1, a2⟩ | ⟨a1, a2⟩
            · have h1 := hVo a1
              have h2 := hV2 a1
              have h3 := hct1 a1
              exact Or.inl ⟨a1, a2, h1.2.1, by omega, by omega, by omega⟩
            · have h3 := hct0 a1
              exact Or.inr ⟨a1, a2, by omega⟩) (by omega)
          rcases w1 with ⟨a1, q, rfl, a3⟩ | ⟨a1, rfl⟩
          · refine hG.1 _ _ _ _ _ _ _ bX5_readTexts_43 ?_
            simp only [zs_iconst, zs_bipush, zs_sipush, zs_ldc, zs_getstatic, zs_iload_n, zs_iload, zs_lload_n, zs_aload_n, zs_aload, zs_istore_n, zs_istore, zs_astore_n, zs_astore, zs_iinc, zs_iadd, zs_isub, zs_imul, zs_iand, zs_ior, zs_ishl, zs_ishr, zs_idiv, zs_irem, zs_i2l, zs_l2i, zs_i2b, zs_i2c, zs_lor, zs_land, zs_lshl, zs_lshr, zs_lushr, zs_dup, zs_dup2, zs_pop, zs_aconst_null, zs_goto, zs_if_icmp, zs_ifCond, zs_ifnull, zs_ifnonnull, zs_tableswitch, zs_getfield, zs_putfield, zs_arraylength, zs_iaload, zs_baload, zs_aaload, zs_iastore, zs_bastore, zs_aastore, zs_newarray, zs_anewarray, zs_new, zs_invokespecial, zs_invokestatic, zs_invokevirtual, zs_checkcast, zs_iushr, zs_return_, zs_ireturn, zs_areturn, zw_0, zw_1, zh_lk0, zh_lk1, zh_i1, zh_i2, zh_l2, zh_li, zh_l1, zh_r1, zh_ri, zh_rii, zh_rir, zh_rv, zh_v1, zh_v2, zh_int, zh_lng, zh_rf, zh_rfn, zh_rfs, zh_rfsn, zh_nul, zh_nuln, zh_acp, zh_sm, zh_obj, zh_row, zh_rdx, zh_rdxn, zh_rrw, zh_len, zh_lenn, zh_ocs, zh_ocn, zh_b1, zh_b10, zh_b7, zh_eq, zh_ne, zh_lt, zh_ge, zh_gt, zh_le, zh_f0, zh_f1, zh_f2, zh_f2n, zh_s, zh_m0, zh_m1, zh_li0, zh_li1, zh_li2, zh_li3, zh_ab, zh_ai, zh_az, zh_tg, zh_g0, zh_gi, zh_gr, zh_gl, zh_gn, z_f0, z_f1, z_f2, z_f3, z_us, z_uu, List.getElem?_cons_zero, List.getElem?_cons_succ, List.set_cons_zero, List.set_cons_succ, List.length_cons, List.length_nil, List.nil_append, List.cons_append, Option.toList_some, Option.toList_none, Nat.reduceAdd, Nat.reduceEqDiff, Nat.reduceLT, Nat.reduceLeDiff, ↓reduceIte, Nat.succ_ne_self, reduceCtorEq, true_and, and_true, and_self, or_false, false_or, or_true, true_or, Nat.lt_irrefl, Nat.zero_lt_succ, Nat.le_refl, Nat.zero_le, Nat.add_zero, Nat.zero_add, Nat.reduceMul, Int.cast_ofNat_Int, Int.natCast_one, Int.natCast_zero, Int.reduceAdd, Int.reduceNeg, Int.reduceToNat, Int.zero_add, Int.toNat_one, Int.toNat_zero, zc_im13, zc_im8, zc_im5, zc_im1, zc_i0, zc_i1, zc_i2, zc_i3, zc_i4, zc_i5, zc_i13, zc_bm2, zc_b6, zc_b7, zc_b8, zc_b10, zc_b12, zc_b13, zc_b16, zc_b17, zc_b20, zc_b31, zc_b32, zc_b60, zc_b63, zc_b64, zc_b80, zc_b127, zc_s128, zc_s140, zc_s200, zc_s255, zc_s256, zc_s400, zc_s1023, zc_s1304, zc_s4096, zc_s6000, zc_s7936, not_true_eq_false, not_false_eq_true, forall_const, false_implies, zX_s, zc_10, nI_add, false_and, and_false, eX5_readTexts]
            simpa using fin2
          · refine hG.1 _ _ _ _ _ _ _ bX5_readTexts_43 ?_
            simp only [zs_iconst, zs_bipush, zs_sipush, zs_ldc, zs_getstatic, zs_iload_n, zs_iload, zs_lload_n, zs_aload_n, zs_aload, zs_istore_n, zs_istore, zs_astore_n, zs_astore, zs_iinc, zs_iadd, zs_isub, zs_imul, zs_iand, zs_ior, zs_ishl, zs_ishr, zs_idiv, zs_irem, zs_i2l, zs_l2i, zs_i2b, zs_i2c, zs_lor, zs_land, zs_lshl, zs_lshr, zs_lushr, zs_dup, zs_dup2, zs_pop, zs_aconst_null, zs_goto, zs_if_icmp, zs_ifCond, zs_ifnull, zs_ifnonnull, zs_tableswitch, zs_getfield, zs_putfield, zs_arraylength, zs_iaload, zs_baload, zs_aaload, zs_iastore, zs_bastore, zs_aastore, zs_newarray, zs_anewarray, zs_new, zs_invokespecial, zs_invokestatic, zs_invokevirtual, zs_checkcast, zs_iushr, zs_return_, zs_ireturn, zs_areturn, zw_0, zw_1, zh_lk0, zh_lk1, zh_i1, zh_i2, zh_l2, zh_li, zh_l1, zh_r1, zh_ri, zh_rii, zh_rir, zh_rv, zh_v1, zh_v2, zh_int, zh_lng, zh_rf, zh_rfn, zh_rfs, zh_rfsn, zh_nul, zh_nuln, zh_acp, zh_sm, zh_obj, zh_row, zh_rdx, zh_rdxn, zh_rrw, zh_len, zh_lenn, zh_ocs, zh_ocn, zh_b1, zh_b10, zh_b7, zh_eq, zh_ne, zh_lt, zh_ge, zh_gt, zh_le, zh_f0, zh_f1, zh_f2, zh_f2n, zh_s, zh_m0, zh_m1, zh_li0, zh_li1, zh_li2, zh_li3, zh_ab, zh_ai, zh_az, zh_tg, zh_g0, zh_gi, zh_gr, zh_gl, zh_gn, z_f0, z_f1, z_f2, z_f3, z_us, z_uu, List.getElem?_cons_zero, List.getElem?_cons_succ, List.set_cons_zero, List.set_cons_succ, List.length_cons, List.length_nil, List.nil_append, List.cons_append, Option.toList_some, Option.toList_none, Nat.reduceAdd, Nat.reduceEqDiff, Nat.reduceLT, Nat.reduceLeDiff, ↓reduceIte, Nat.succ_ne_self, reduceCtorEq, true_and, and_true, and_self, or_false, false_or, or_true, true_or, Nat.lt_irrefl, Nat.zero_lt_succ, Nat.le_refl, Nat.zero_le, Nat.add_zero, Nat.zero_add, Nat.reduceMul, Int.cast_ofNat_Int, Int.natCast_one, Int.natCast_zero, Int.reduceAdd, Int.reduceNeg, Int.reduceToNat, Int.zero_add, Int.toNat_one, Int.toNat_zero, zc_im13, zc_im8, zc_im5, zc_im1, zc_i0, zc_i1, zc_i2, zc_i3, zc_i4, zc_i5, zc_i13, zc_bm2, zc_b6, zc_b7, zc_b8, zc_b10, zc_b12, zc_b13, zc_b16, zc_b17, zc_b20, zc_b31, zc_b32, zc_b60, zc_b63, zc_b64, zc_b80, zc_b127, zc_s128, zc_s140, zc_s200, zc_s255, zc_s256, zc_s400, zc_s1023, zc_s1304, zc_s4096, zc_s6000, zc_s7936, not_true_eq_false, not_false_eq_true, forall_const, false_implies, zX_s, zc_10, nI_add, false_and, and_false, eX5_readTexts]
            simpa using fin2
        exact go _ rfl
    · have hft : ft ≠ 0 := fun z => c (by rw [z]; decide)
      rw [if_pos hft] at hZ
      rw [← hZ]
      exact ⟨rfl, hUk, k2'⟩
  have k11 : ∀ lv, lv = [(0, .ref u), (1, .int (nI x))] → G 11 lv [.int (z_bo (decide (64 ≤ x)))] h 0 0 := by
    intro lv hlv
    subst hlv
    refine hG.1 _ _ _ _ _ _ _ bX5_readTexts_11 ?_
    simp only [zs_iconst, zs_bipush, zs_sipush, zs_ldc, zs_getstatic, zs_iload_n, zs_iload, zs_lload_n, zs_aload_n, zs_aload, zs_istore_n, zs_istore, zs_astore_n, zs_astore, zs_iinc, zs_iadd, zs_isub, zs_imul, zs_iand, zs_ior, zs_ishl, zs_ishr, zs_idiv, zs_irem, zs_i2l, zs_l2i, zs_i2b, zs_i2c, zs_lor, zs_land, zs_lshl, zs_lshr, zs_lushr, zs_dup, zs_dup2, zs_pop, zs_aconst_null, zs_goto, zs_if_icmp, zs_ifCond, zs_ifnull, zs_ifnonnull, zs_tableswitch, zs_getfield, zs_putfield, zs_arraylength, zs_iaload, zs_baload, zs_aaload, zs_iastore, zs_bastore, zs_aastore, zs_newarray, zs_anewarray, zs_new, zs_invokespecial, zs_invokestatic, zs_invokevirtual, zs_checkcast, zs_iushr, zs_return_, zs_ireturn, zs_areturn, zw_0, zw_1, zh_lk0, zh_lk1, zh_i1, zh_i2, zh_l2, zh_li, zh_l1, zh_r1, zh_ri, zh_rii, zh_rir, zh_rv, zh_v1, zh_v2, zh_int, zh_lng, zh_rf, zh_rfn, zh_rfs, zh_rfsn, zh_nul, zh_nuln, zh_acp, zh_sm, zh_obj, zh_row, zh_rdx, zh_rdxn, zh_rrw, zh_len, zh_lenn, zh_ocs, zh_ocn, zh_b1, zh_b10, zh_b7, zh_eq, zh_ne, zh_lt, zh_ge, zh_gt, zh_le, zh_f0, zh_f1, zh_f2, zh_f2n, zh_s, zh_m0, zh_m1, zh_li0, zh_li1, zh_li2, zh_li3, zh_ab, zh_ai, zh_az, zh_tg, zh_g0, zh_gi, zh_gr, zh_gl, zh_gn, z_f0, z_f1, z_f2, z_f3, z_us, z_uu, List.getElem?_cons_zero, List.getElem?_cons_succ, List.set_cons_zero, List.set_cons_succ, List.length_cons, List.length_nil, List.nil_append, List.cons_append, Option.toList_some, Option.toList_none, Nat.reduceAdd, Nat.reduceEqDiff, Nat.reduceLT, Nat.reduceLeDiff, ↓reduceIte, Nat.succ_ne_self, reduceCtorEq, true_and, and_true, and_self, or_false, false_or, or_true, true_or, Nat.lt_irrefl, Nat.zero_lt_succ, Nat.le_refl, Nat.zero_le, Nat.add_zero, Nat.zero_add, Nat.reduceMul, Int.cast_ofNat_Int, Int.natCast_one, Int.natCast_zero, Int.reduceAdd, Int.reduceNeg, Int.reduceToNat, Int.zero_add, Int.toNat_one, Int.toNat_zero, zc_im13, zc_im8, zc_im5, zc_im1, zc_i0, zc_i1, zc_i2, zc_i3, zc_i4, zc_i5, zc_i13, zc_bm2, zc_b6, zc_b7, zc_b8, zc_b10, zc_b12, zc_b13, zc_b16, zc_b17, zc_b20, zc_b31, zc_b32, zc_b60, zc_b63, zc_b64, zc_b80, zc_b127, zc_s128, zc_s140, zc_s200, zc_s255, zc_s256, zc_s400, zc_s1023, zc_s1304, zc_s4096, zc_s6000, zc_s7936, not_true_eq_false, not_false_eq_true, forall_const, false_implies, zX_s, zc_10, nI_add, false_and, and_false, eX5_readTexts]
    by_cases hk64 : 64 ≤ x
    · rw [decide_eq_true hk64] at num ⊢
      refine ⟨fun c => absurd c (by decide), fun _ => ?_⟩
      have : z_kb x = 6 := by rw [z_kb, if_pos hk64]
      rw [this] at num
      exact num _ rfl
    · rw [decide_eq_false hk64] at num ⊢
      refine ⟨fun _ => ?_, fun c => absurd (by decide) c⟩
      have : z_kb x = 4 := by rw [z_kb, if_neg hk64]
      rw [this] at num
      refine hG.1 _ _ _ _ _ _ _ bX5_readTexts_22 ?_
      simp only [zs_iconst, zs_bipush, zs_sipush, zs_ldc, zs_getstatic, zs_iload_n, zs_iload, zs_lload_n, zs_aload_n, zs_aload, zs_istore_n, zs_istore, zs_astore_n, zs_astore, zs_iinc, zs_iadd, zs_isub, zs_imul, zs_iand, zs_ior, zs_ishl, zs_ishr, zs_idiv, zs_irem, zs_i2l, zs_l2i, zs_i2b, zs_i2c, zs_lor, zs_land, zs_lshl, zs_lshr, zs_lushr, zs_dup, zs_dup2, zs_pop, zs_aconst_null, zs_goto, zs_if_icmp, zs_ifCond, zs_ifnull, zs_ifnonnull, zs_tableswitch, zs_getfield, zs_putfield, zs_arraylength, zs_iaload, zs_baload, zs_aaload, zs_iastore, zs_bastore, zs_aastore, zs_newarray, zs_anewarray, zs_new, zs_invokespecial, zs_invokestatic, zs_invokevirtual, zs_checkcast, zs_iushr, zs_return_, zs_ireturn, zs_areturn, zw_0, zw_1, zh_lk0, zh_lk1, zh_i1, zh_i2, zh_l2, zh_li, zh_l1, zh_r1, zh_ri, zh_rii, zh_rir, zh_rv, zh_v1, zh_v2, zh_int, zh_lng, zh_rf, zh_rfn, zh_rfs, zh_rfsn, zh_nul, zh_nuln, zh_acp, zh_sm, zh_obj, zh_row, zh_rdx, zh_rdxn, zh_rrw, zh_len, zh_lenn, zh_ocs, zh_ocn, zh_b1, zh_b10, zh_b7, zh_eq, zh_ne, zh_lt, zh_ge, zh_gt, zh_le, zh_f0, zh_f1, zh_f2, zh_f2n, zh_s, zh_m0, zh_m1, zh_li0, zh_li1, zh_li2, zh_li3, zh_ab, zh_ai, zh_az, zh_tg, zh_g0, zh_gi, zh_gr, zh_gl, zh_gn, z_f0, z_f1, z_f2, z_f3, z_us, z_uu, List.getElem?_cons_zero, List.getElem?_cons_succ, List.set_cons_zero, List.set_cons_succ, List.length_cons, List.length_nil, List.nil_append, List.cons_append, Option.toList_some, Option.toList_none, Nat.reduceAdd, Nat.reduceEqDiff, Nat.reduceLT, Nat.reduceLeDiff, ↓reduceIte, Nat.succ_ne_self, reduceCtorEq, true_and, and_true, and_self, or_false, false_or, or_true, true_or, Nat.lt_irrefl, Nat.zero_lt_succ, Nat.le_refl, Nat.zero_le, Nat.add_zero, Nat.zero_add, Nat.reduceMul, Int.cast_ofNat_Int, Int.natCast_one, Int.natCast_zero, Int.reduceAdd, Int.reduceNeg, Int.reduceToNat, Int.zero_add, Int.toNat_one, Int.toNat_zero, zc_im13, zc_im8, zc_im5, zc_im1, zc_i0, zc_i1, zc_i2, zc_i3, zc_i4, zc_i5, zc_i13, zc_bm2, zc_b6, zc_b7, zc_b8, zc_b10, zc_b12, zc_b13, zc_b16, zc_b17, zc_b20, zc_b31, zc_b32, zc_b60, zc_b63, zc_b64, zc_b80, zc_b127, zc_s128, zc_s140, zc_s200, zc_s255, zc_s256, zc_s400, zc_s1023, zc_s1304, zc_s4096, zc_s6000, zc_s7936, not_true_eq_false, not_false_eq_true, forall_const, false_implies, zX_s, zc_10, nI_add, false_and, and_false, eX5_readTexts]
      exact num _ rfl
  refine hG.1 _ _ _ _ _ _ _ bX5_readTexts_0 ?_
  simp only [zs_iconst, zs_bipush, zs_sipush, zs_ldc, zs_getstatic, zs_iload_n, zs_iload, zs_lload_n, zs_aload_n, zs_aload, zs_istore_n, zs_istore, zs_astore_n, zs_astore, zs_iinc, zs_iadd, zs_isub, zs_imul, zs_iand, zs_ior, zs_ishl, zs_ishr, zs_idiv, zs_irem, zs_i2l, zs_l2i, zs_i2b, zs_i2c, zs_lor, zs_land, zs_lshl, zs_lshr, zs_lushr, zs_dup, zs_dup2, zs_pop, zs_aconst_null, zs_goto, zs_if_icmp, zs_ifCond, zs_ifnull, zs_ifnonnull, zs_tableswitch, zs_getfield, zs_putfield, zs_arraylength, zs_iaload, zs_baload, zs_aaload, zs_iastore, zs_bastore, zs_aastore, zs_newarray, zs_anewarray, zs_new, zs_invokespecial, zs_invokestatic, zs_invokevirtual, zs_checkcast, zs_iushr, zs_return_, zs_ireturn, zs_areturn, zw_0, zw_1, zh_lk0, zh_lk1, zh_i1, zh_i2, zh_l2, zh_li, zh_l1, zh_r1, zh_ri, zh_rii, zh_rir, zh_rv, zh_v1, zh_v2, zh_int, zh_lng, zh_rf, zh_rfn, zh_rfs, zh_rfsn, zh_nul, zh_nuln, zh_acp, zh_sm, zh_obj, zh_row, zh_rdx, zh_rdxn, zh_rrw, zh_len, zh_lenn, zh_ocs, zh_ocn, zh_b1, zh_b10, zh_b7, zh_eq, zh_ne, zh_lt, zh_ge, zh_gt, zh_le, zh_f0, zh_f1, zh_f2, zh_f2n, zh_s, zh_m0, zh_m1, zh_li0, zh_li1, zh_li2, zh_li3, zh_ab, zh_ai, zh_az, zh_tg, zh_g0, zh_gi, zh_gr, zh_gl, zh_gn, z_f0, z_f1, z_f2, z_f3, z_us, z_uu, List.getElem?_cons_zero, List.getElem?_cons_succ, List.set_cons_zero, List.set_cons_succ, List.length_cons, List.length_nil, List.nil_append, List.cons_append, Option.toList_some, Option.toList_none, Nat.reduceAdd, Nat.reduceEqDiff, Nat.reduceLT, Nat.reduceLeDiff, ↓reduceIte, Nat.succ_ne_self, reduceCtorEq, true_and, and_true, and_self, or_false, false_or, or_true, true_or, Nat.lt_irrefl, Nat.zero_lt_succ, Nat.le_refl, Nat.zero_le, Nat.add_zero, Nat.zero_add, Nat.reduceMul, Int.cast_ofNat_Int, Int.natCast_one, Int.natCast_zero, Int.reduceAdd, Int.reduceNeg, Int.reduceToNat, Int.zero_add, Int.toNat_one, Int.toNat_zero, zc_im13, zc_im8, zc_im5, zc_im1, zc_i0, zc_i1, zc_i2, zc_i3, zc_i4, zc_i5, zc_i13, zc_bm2, zc_b6, zc_b7, zc_b8, zc_b10, zc_b12, zc_b13, zc_b16, zc_b17, zc_b20, zc_b31, zc_b32, zc_b60, zc_b63, zc_b64, zc_b80, zc_b127, zc_s128, zc_s140, zc_s200, zc_s255, zc_s256, zc_s400, zc_s1023, zc_s1304, zc_s4096, zc_s6000, zc_s7936, not_true_eq_false, not_false_eq_true, forall_const, false_implies, zX_s, zc_10, nI_add, false_and, and_false, eX5_readTexts]
  refine ⟨fun c => ?_, fun c => ?_⟩
  · rw [nI_ltI (by omega) (by omega)] at c
    rw [decide_eq_false (by omega)] at k11
    refine hG.1 _ _ _ _ _ _ _ bX5_readTexts_10 ?_
    simp only [zs_iconst, zs_bipush, zs_sipush, zs_ldc, zs_getstatic, zs_iload_n, zs_iload, zs_lload_n, zs_aload_n, zs_aload, zs_istore_n, zs_istore, zs_astore_n, zs_astore, zs_iinc, zs_iadd, zs_isub, zs_imul, zs_iand, zs_ior, zs_ishl, zs_ishr, zs_idiv, zs_irem, zs_i2l, zs_l2i, zs_i2b, zs_i2c, zs_lor, zs_land, zs_lshl, zs_lshr, zs_lushr, zs_dup, zs_dup2, zs_pop, zs_aconst_null, zs_goto, zs_if_icmp, zs_ifCond, zs_ifnull, zs_ifnonnull, zs_tableswitch, zs_getfield, zs_putfield, zs_arraylength, zs_iaload, zs_baload, zs_aaload, zs_iastore, zs_bastore, zs_aastore, zs_newarray, zs_anewarray, zs_new, zs_invokespecial, zs_invokestatic, zs_invokevirtual, zs_checkcast, zs_iushr, zs_return_, zs_ireturn, zs_areturn, zw_0, zw_1, zh_lk0, zh_lk1, zh_i1, zh_i2, zh_l2, zh_li, zh_l1, zh_r1, zh_ri, zh_rii, zh_rir, zh_rv, zh_v1, zh_v2, zh_int, zh_lng, zh_rf, zh_rfn, zh_rfs, zh_rfsn, zh_nul, zh_nuln, zh_acp, zh_sm, zh_obj, zh_row, zh_rdx, zh_rdxn, zh_rrw, zh_len, zh_lenn, zh_ocs, zh_ocn, zh_b1, zh_b10, zh_b7, zh_eq, zh_ne, zh_lt, zh_ge, zh_gt, zh_le, zh_f0, zh_f1, zh_f2, zh_f2n, zh_s, zh_m0, zh_m1, zh_li0, zh_li1, zh_li2, zh_li3, zh_ab, zh_ai, zh_az, zh_tg, zh_g0, zh_gi, zh_gr, zh_gl, zh_gn, z_f0, z_f1, z_f2, z_f3, z_us, z_uu, List.getElem?_cons_zero, List.getElem?_cons_succ, List.set_cons_zero, List.set_cons_succ, List.length_cons, List.length_nil, List.nil_append, List.cons_append, Option.toList_some, Option.toList_none, Nat.reduceAdd, Nat.reduceEqDiff, Nat.reduceLT, Nat.reduceLeDiff, ↓reduceIte, Nat.succ_ne_self, reduceCtorEq, true_and, and_true, and_self, or_false, false_or, or_true, true_or, Nat.lt_irrefl, Nat.zero_lt_succ, Nat.le_refl, Nat.zero_le, Nat.add_zero, Nat.zero_add, Nat.reduceMul, Int.cast_ofNat_Int, Int.natCast_one, Int.natCast_zero, Int.reduceAdd, Int.reduceNeg, Int.reduceToNat, Int.zero_add, Int.toNat_one, Int.toNat_zero, zc_im13, zc_im8, zc_im5, zc_im1, zc_i0, zc_i1, zc_i2, zc_i3, zc_i4, zc_i5, zc_i13, zc_bm2, zc_b6, zc_b7, zc_b8, zc_b10, zc_b12, zc_b13, zc_b16, zc_b17, zc_b20, zc_b31, zc_b32, zc_b60, zc_b63, zc_b64, zc_b80, zc_b127, zc_s128, zc_s140, zc_s200, zc_s255, zc_s256, zc_s400, zc_s1023, zc_s1304, zc_s4096, zc_s6000, zc_s7936, not_true_eq_false, not_false_eq_true, forall_const, false_implies, zX_s, zc_10, nI_add, false_and, and_false, eX5_readTexts]
    exact k11 _ rfl
  · rw [nI_ltI (by omega) (by omega)] at c
    rw [decide_eq_true (by omega)] at k11
    exact k11 _ rfl
