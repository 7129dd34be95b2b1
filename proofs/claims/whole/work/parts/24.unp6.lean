/-! UNPACKER: blocks -/
def z_st (ld : List Nat) (F : List zF) (s : zS5) : zS5 := if 32 ≤ ld.getD s.2.1 0 ∧ ld.getD s.2.1 0 < 64 then z_sL ld s.2.1 s.2.2.1 s.2.2.2.1 s.2.2.2.2 else if 60 ≤ s.2.2.1.length then (7, s.2.1, s.2.2.1, s.2.2.2.1, s.2.2.2.2) else if 128 ≤ ld.getD s.2.1 0 then z_sW ld s.2.1 (F ++ s.2.2.2.1) s.2.2.1 s.2.2.2.1 s.2.2.2.2 else z_sT ld s.2.1 (ld.getD s.2.1 0) (F ++ s.2.2.2.1) s.2.2.1 s.2.2.2.1 s.2.2.2.2
def z_run (ld : List Nat) (F : List zF) : Nat → zS5 → zS5
  | 0, s => s
  | n + 1, s => if s.1 ≠ 0 ∨ ld.length ≤ s.2.1 then s else z_run ld F n (z_st ld F s)
/-- what a step leaves well: its place went on, one field more at the most -/
def z_so (ld : List Nat) (p n : Nat) (z : zS5) : Prop := z.1 ≤ 7 ∧ (z.1 = 0 → p < z.2.1 ∧ z.2.1 ≤ ld.length ∧ z.2.2.1.length ≤ n)
theorem z_sL_ok (ld : List Nat) (p : Nat) (FL L : List zF) (lim : Nat) : z_so ld p FL.length (z_sL ld p FL L lim) := by
  have h1 := z_rN_ft ld 5 p
  have h2 := z_rN_ok (ld := ld) (bits := 5) (p := p) (by decide)
  unfold z_sL z_so
  split
  · rename_i q
    exact ⟨by simp only; omega, fun z => absurd z q⟩
  · rename_i q
    split
    · simp
    · exact ⟨by simp, fun _ => ⟨(h2 (Classical.not_not.mp q)).1, (h2 (Classical.not_not.mp q)).2.1, Nat.le_refl _⟩⟩
theorem z_sW_ok (ld : List Nat) (p : Nat) (M FL L : List zF) (lim : Nat) : z_so ld p (FL.length + 1) (z_sW ld p M FL L lim) := by
  have h1 := z_rN_ft ld 7 p
  have h2 := z_rN_ok (ld := ld) (bits := 7) (p := p) (by decide)
  unfold z_sW z_so
  split
  · rename_i q
    exact ⟨by simp only; omega, fun z => absurd z q⟩
  · rename_i q
    split
    · simp
    · exact ⟨by simp, fun _ => ⟨(h2 (Classical.not_not.mp q)).1, (h2 (Classical.not_not.mp q)).2.1, by simp⟩⟩
theorem z_sT_ok (ld : List Nat) (p x : Nat) (M FL L : List zF) (lim : Nat) : z_so ld p (FL.length + 1) (z_sT ld p x M FL L lim) := by
  have hkb : z_kb x < 16 := by unfold z_kb; split <;> omega
  have h1 := z_rN_ft ld (z_kb x) p
  have h2 := z_rN_ok (ld := ld) (bits := z_kb x) (p := p) hkb
  unfold z_sT z_so
  split
  · rename_i q
    exact ⟨by simp only; omega, fun z => absurd z q⟩
  · rename_i q
    have h3 := h2 (Classical.not_not.mp q)
    generalize z_rN ld (z_kb x) p = N at *
    have hm : (z_nmT ld M N.2.1 N.2.2).1 ≤ 7 ∧ ((z_nmT ld M N.2.1 N.2.2).1 = 0 → N.2.2 ≤ (z_nmT ld M N.2.1 N.2.2).2.2 ∧ (z_nmT ld M N.2.1 N.2.2).2.2 ≤ ld.length) := by
      unfold z_nmT
      split
      · have a1 := z_rT_ft ld N.2.2
        exact ⟨by omega, fun z => ⟨by have := (z_rT_ok z).1; omega, (z_rT_ok z).2.1⟩⟩
      · split
        · exact ⟨by simp, fun _ => ⟨Nat.le_refl _, h3.2.1⟩⟩
        · simp
    generalize z_nmT ld M N.2.1 N.2.2 = W at *
    unfold z_sT2
    split
    · rename_i q2
      exact ⟨hm.1, fun z => absurd z q2⟩
    · rename_i q2
      have h4 := hm.2 (Classical.not_not.mp q2)
      have a1 := z_rT_ft ld W.2.2
      have a2 := z_rT_ok (ld := ld) (p := W.2.2)
      generalize z_rT ld W.2.2 = V at *
      unfold z_sT3
      split
      · rename_i q3
        exact ⟨by simp only; omega, fun z => absurd z q3⟩
      · rename_i q3
        have a3 := a2 (Classical.not_not.mp q3)
        exact ⟨by simp, fun _ => ⟨by simp only; omega, a3.2.1, by simp⟩⟩
theorem z_rR_pl (ld : List Nat) : ∀ (n i p v : Nat), p ≤ ld.length → (z_rR ld n i p v).2.2 ≤ ld.length
  | 0, i, p, v, h => by rw [z_rR]; exact h
  | n + 1, i, p, v, h => by
    rw [z_rR]
    split
    · exact h
    · split
      · simp only; omega
      · exact z_rR_pl ld n (i + 1) (p + 1) _ (by omega)
theorem z_rN_pl {ld : List Nat} {bits p : Nat} (h : p ≤ ld.length) : (z_rN ld bits p).2.2 ≤ ld.length := by
  rw [z_rN]
  split
  · exact h
  · split
    · simp only; omega
    · exact z_rR_pl _ _ _ _ _ (by omega)
theorem z_rT_pl {ld : List Nat} {p : Nat} (h : p ≤ ld.length) : (z_rT ld p).2.2 ≤ ld.length := by
  have := z_rN_pl (bits := 7) h
  rw [z_rT]
  split
  · exact this
  · split
    · exact this
    · split
      · exact this
      · split
        · simp only; omega
        · simp only; omega
theorem z_sL_pl {ld : List Nat} {p : Nat} {FL L : List zF} {lim : Nat} (h : p ≤ ld.length) : (z_sL ld p FL L lim).2.1 ≤ ld.length := by
  have := z_rN_pl (bits := 5) h
  rw [z_sL]
  split
  · exact this
  · split <;> exact this
theorem z_sW_pl {ld : List Nat} {p : Nat} {M FL L : List zF} {lim : Nat} (h : p ≤ ld.length) : (z_sW ld p M FL L lim).2.1 ≤ ld.length := by
  have := z_rN_pl (bits := 7) h
  rw [z_sW]
  split
  · exact this
  · split <;> exact this
theorem z_sT_pl {ld : List Nat} {p x : Nat} {M FL L : List zF} {lim : Nat} (h : p ≤ ld.length) : (z_sT ld p x M FL L lim).2.1 ≤ ld.length := by
  have h1 := z_rN_pl (bits := z_kb x) h
  rw [z_sT]
  split
  · exact h1
  · generalize z_rN ld (z_kb x) p = N at *
    have h2 : (z_nmT ld M N.2.1 N.2.2).2.2 ≤ ld.length := by
      unfold z_nmT
      split
      · exact z_rT_pl h1
      · split <;> exact h1
    rw [z_sT2]
    split
    · exact h2
    · have h3 := z_rT_pl h2
      rw [z_sT3]
      split <;> exact h3
theorem z_sL_FL (ld : List Nat) (p : Nat) (FL L : List zF) (lim : Nat) : (z_sL ld p FL L lim).2.2.1 = FL := by
  rw [z_sL]
  split
  · rfl
  · split <;> rfl
theorem z_sW_FL (ld : List Nat) (p : Nat) (M FL L : List zF) (lim : Nat) : (z_sW ld p M FL L lim).2.2.1.length ≤ FL.length + 1 ∧ ((z_sW ld p M FL L lim).1 = 0 → (z_sW ld p M FL L lim).2.2.1.length = FL.length + 1) := by
  rw [z_sW]
  split
  · rename_i q
    exact ⟨by simp, fun z => absurd z q⟩
  · split <;> simp
theorem z_sT_FL (ld : List Nat) (p x : Nat) (M FL L : List zF) (lim : Nat) : (z_sT ld p x M FL L lim).2.2.1.length ≤ FL.length + 1 ∧ ((z_sT ld p x M FL L lim).1 = 0 → (z_sT ld p x M FL L lim).2.2.1.length = FL.length + 1) := by
  rw [z_sT]
  split
  · rename_i q
    exact ⟨by simp, fun z => absurd z q⟩
  · rw [z_sT2]
    split
    · rename_i q
      exact ⟨by simp, fun z => absurd z q⟩
    · rw [z_sT3]
      split
      · rename_i q
        exact ⟨by simp, fun z => absurd z q⟩
      · simp
set_option maxRecDepth 100000 in
set_option maxHeartbeats 1000000 in
theorem c_readBlock {l : Launch} {D : va_G} {A : Nat → Prop} {sa sv : Nat} {h : zH} {u ai af at' al ax m p0 ft0 lim1 a2 ax2 lim0 : Nat} {ld : List Nat} {F FL1 L1 L0 : List zF} (hU : z_Us h u ai af at' al ax m ld F ft0 p0 FL1 L1 lim1) (hT2 : z_Tb h 8 a2 ax2 L0 lim0) (hl : ld.length ≤ 6000) : z_Met l D A sa sv yX5_readBlock wsX5_readBlock 7 157 [.ref u, .ref a2] h (fun r h' => r = some (.int (nI (z_run ld F 6000 (0, 0, [], L0, lim0)).1)) ∧ z_Us h' u ai af at' al ax m ld F (z_run ld F 6000 (0, 0, [], L0, lim0)).1 (z_run ld F 6000 (0, 0, [], L0, lim0)).2.1 (z_run ld F 6000 (0, 0, [], L0, lim0)).2.2.1 (z_run ld F 6000 (0, 0, [], L0, lim0)).2.2.2.1 (z_run ld F 6000 (0, 0, [], L0, lim0)).2.2.2.2 ∧ z_fr zUc h h') 400 12400 := by
  obtain ⟨hu, hr, hL, hFL, hT, hF⟩ := id hU
  have hu1 : h u = some (14, .inr (5, [.ref ai, .ref af, .ref at', .ref al, .int (nI p0), .int (nI ft0)])) := hu
  generalize hR : z_run ld F 6000 (0, 0, [], L0, lim0) = R at *
  refine mX5_readBlock (Nat.le_of_ble_eq_true rfl) (fun G hG hsv => ?_)
  have loop : ∀ (n i : Nat) (s : zS5) (hk : zH) (cs sl : Nat) (lv : zL), n + i = 6000 → R = z_run ld F n s → z_Us hk u ai af at' al ax m ld F s.1 s.2.1 s.2.2.1 s.2.2.2.1 s.2.2.2.2 → z_fr zUc h hk → s.1 ≤ 7 → s.2.2.1.length ≤ 60 → (s.1 = 0 → cs ≤ 3 * s.2.2.1.length ∧ sl ≤ 2 * s.2.1 + 3 * s.2.2.1.length ∧ s.2.1 ≤ ld.length) → cs ≤ 190 → sl ≤ 12390 → s.2.1 ≤ 20000 → lv = [(2, .int (nI i)), (0, .ref u)] → G 27 lv [] hk cs sl := by
    intro n
    induction n with
    | zero =>
      intro i s hk cs sl lv e1 e2 e3 e4 e5 e6 e7 e8 e9 e9' e10
      subst e10
      have hi : i = 6000 := by omega
      subst hi
      obtain ⟨q1, q2, q3, q4, q5, q6⟩ := id e3
      have q1' : hk u = some (14, .inr (5, [.ref ai, .ref af, .ref at', .ref al, .int (nI s.2.1), .int (nI s.1)])) := q1
      rw [z_run] at e2
      refine hG.1 _ _ _ _ _ _ _ bX5_readBlock_27 ?_
      simp only [zs_iconst, zs_bipush, zs_sipush, zs_ldc, zs_getstatic, zs_iload_n, zs_iload, zs_lload_n, zs_aload_n, zs_aload, zs_istore_n, zs_istore, zs_astore_n, zs_astore, zs_iinc, zs_iadd, zs_isub, zs_imul, zs_iand, zs_ior, zs_ishl, zs_ishr, zs_idiv, zs_irem, zs_i2l, zs_l2i, zs_i2b, zs_i2c, zs_lor, zs_land, zs_lshl, zs_lshr, zs_lushr, zs_dup, zs_dup2, zs_pop, zs_aconst_null, zs_goto, zs_if_icmp, zs_ifCond, zs_ifnull, zs_ifnonnull, zs_tableswitch, zs_getfield, zs_putfield, zs_arraylength, zs_iaload, zs_baload, zs_aaload, zs_iastore, zs_bastore, zs_aastore, zs_newarray, zs_anewarray, zs_new, zs_invokespecial, zs_invokestatic, zs_invokevirtual, zs_checkcast, zs_iushr, zs_return_, zs_ireturn, zs_areturn, zw_0, zw_1, zh_lk0, zh_lk1, zh_i1, zh_i2, zh_l2, zh_li, zh_l1, zh_r1, zh_ri, zh_rii, zh_rir, zh_rv, zh_v1, zh_v2, zh_int, zh_lng, zh_rf, zh_rfn, zh_rfs, zh_rfsn, zh_nul, zh_nuln, zh_acp, zh_sm, zh_obj, zh_row, zh_rdx, zh_rdxn, zh_rrw, zh_len, zh_lenn, zh_ocs, zh_ocn, zh_b1, zh_b10, zh_b7, zh_eq, zh_ne, zh_lt, zh_ge, zh_gt, zh_le, zh_f0, zh_f1, zh_f2, zh_f2n, zh_s, zh_m0, zh_m1, zh_li0, zh_li1, zh_li2, zh_li3, zh_ab, zh_ai, zh_az, zh_tg, zh_g0, zh_gi, zh_gr, zh_gl, zh_gn, z_f0, z_f1, z_f2, z_f3, z_us, z_uu, List.getElem?_cons_zero, List.getElem?_cons_succ, List.set_cons_zero, List.set_cons_succ, List.length_cons, List.length_nil, List.nil_append, List.cons_append, Option.toList_some, Option.toList_none, Nat.reduceAdd, Nat.reduceEqDiff, Nat.reduceLT, Nat.reduceLeDiff, ↓reduceIte, Nat.succ_ne_self, reduceCtorEq, true_and, and_true, and_self, or_false, false_or, or_true, true_or, Nat.lt_irrefl, Nat.zero_lt_succ, Nat.le_refl, Nat.zero_le, Nat.add_zero, Nat.zero_add, Nat.reduceMul, Int.cast_ofNat_Int, Int.natCast_one, Int.natCast_zero, Int.reduceAdd, Int.reduceNeg, Int.reduceToNat, Int.zero_add, Int.toNat_one, Int.toNat_zero, zc_im13, zc_im8, zc_im5, zc_im1, zc_i0, zc_i1, zc_i2, zc_i3, zc_i4, zc_i5, zc_i13, zc_bm2, zc_b6, zc_b7, zc_b8, zc_b10, zc_b12, zc_b13, zc_b16, zc_b17, zc_b20, zc_b31, zc_b32, zc_b60, zc_b63, zc_b64, zc_b80, zc_b127, zc_s128, zc_s140, zc_s200, zc_s255, zc_s256, zc_s400, zc_s1023, zc_s1304, zc_s4096, zc_s6000, zc_s7936, not_true_eq_false, not_false_eq_true, forall_const, false_implies, zX_s, zc_10, nI_add, false_and, and_false, eX5_readBlock]
      refine ⟨fun _ => ?_, fun c => absurd (nI_le (Nat.le_refl _) (by omega)) c⟩
      refine hG.1 _ _ _ _ _ _ _ bX5_readBlock_130 ?_
      simp only [zs_iconst, zs_bipush, zs_sipush, zs_ldc, zs_getstatic, zs_iload_n, zs_iload, zs_lload_n, zs_aload_n, zs_aload, zs_istore_n, zs_istore, zs_astore_n, zs_astore, zs_iinc, zs_iadd, zs_isub, zs_imul, zs_iand, zs_ior, zs_ishl, zs_ishr, zs_idiv, zs_irem, zs_i2l, zs_l2i, zs_i2b, zs_i2c, zs_lor, zs_land, zs_lshl, zs_lshr, zs_lushr, zs_dup, zs_dup2, zs_pop, zs_aconst_null, zs_goto, zs_if_icmp, zs_ifCond, zs_ifnull, zs_ifnonnull, zs_tableswitch, zs_getfield, zs_putfield, zs_arraylength, zs_iaload, zs_baload, zs_aaload, zs_iastore, zs_bastore, zs_aastore, zs_newarray, zs_anewarray, zs_new, zs_invokespecial, zs_invokestatic, zs_invokevirtual, zs_checkcast, zs_iushr, zs_return_, zs_ireturn, zs_areturn, zw_0, zw_1, zh_lk0, zh_lk1, zh_i1, zh_i2, zh_l2, zh_li, zh_l1, zh_r1, zh_ri, zh_rii, zh_rir, zh_rv, zh_v1, zh_v2, zh_int, zh_lng, zh_rf, zh_rfn, zh_rfs, zh_rfsn, zh_nul, zh_nuln, zh_acp, zh_sm, zh_obj, zh_row, zh_rdx, zh_rdxn, zh_rrw, zh_len, zh_lenn, zh_ocs, zh_ocn, zh_b1, zh_b10, zh_b7, zh_eq, zh_ne, zh_lt, zh_ge, zh_gt, zh_le, zh_f0, zh_f1, zh_f2, zh_f2n, zh_s, zh_m0, zh_m1, zh_li0, zh_li1, zh_li2, zh_li3, zh_ab, zh_ai, zh_az, zh_tg, zh_g0, zh_gi, zh_gr, zh_gl, zh_gn, z_f0, z_f1, z_f2, z_f3, z_us, z_uu, List.getElem?_cons_zero, List.getElem?_cons_succ, List.set_cons_zero, List.set_cons_succ, List.length_cons, List.length_nil, List.nil_append, List.cons_append, Option.toList_some, Option.toList_none, Nat.reduceAdd, Nat.reduceEqDiff, Nat.reduceLT, Nat.reduceLeDiff, ↓reduceIte, Nat.succ_ne_self, reduceCtorEq, true_and, and_true, and_self, or_false, false_or, or_true, true_or, Nat.lt_irrefl, Nat.zero_lt_succ, Nat.le_refl, Nat.zero_le, Nat.add_zero, Nat.zero_add, Nat.reduceMul, Int.cast_ofNat_Int, Int.natCast_one, Int.natCast_zero, Int.reduceAdd, Int.reduceNeg, Int.reduceToNat, Int.zero_add, Int.toNat_one, Int.toNat_zero, zc_im13, zc_im8, zc_im5, zc_im1, zc_i0, zc_i1, zc_i2, zc_i3, zc_i4, zc_i5, zc_i13, zc_bm2, zc_b6, zc_b7, zc_b8, zc_b10, zc_b12, zc_b13, zc_b16, zc_b17, zc_b20, zc_b31, zc_b32, zc_b60, zc_b63, zc_b64, zc_b80, zc_b127, zc_s128, zc_s140, zc_s200, zc_s255, zc_s256, zc_s400, zc_s1023, zc_s1304, zc_s4096, zc_s6000, zc_s7936, not_true_eq_false, not_false_eq_true, forall_const, false_implies, zX_s, zc_10, nI_add, false_and, and_false, eX5_readBlock, q1']
      rw [e2]
      exact ⟨by omega, by omega, rfl, e3, e4⟩
    | succ n ih =>
      intro i s hk cs sl lv e1 e2 e3 e4 e5 e6 e7 e8 e9 e9' e10
      subst e10
      obtain ⟨q1, q2, q3, q4, q5, q6⟩ := id e3
      have q1' : hk u = some (14, .inr (5, [.ref ai, .ref af, .ref at', .ref al, .int (nI s.2.1), .int (nI s.1)])) := q1
      obtain ⟨cr, br, r1⟩ := q2.sz hl
      rw [z_run] at e2
      have out : (s.1 ≠ 0 ∨ ld.length ≤ s.2.1) → G 130 [(2, .int (nI i)), (0, .ref u)] [] hk cs sl := by
        intro hq
        rw [if_pos hq] at e2
        refine hG.1 _ _ _ _ _ _ _ bX5_readBlock_130 ?_
        simp only [zs_iconst, zs_bipush, zs_sipush, zs_ldc, zs_getstatic, zs_iload_n, zs_iload, zs_lload_n, zs_aload_n, zs_aload, zs_istore_n, zs_istore, zs_astore_n, zs_astore, zs_iinc, zs_iadd, zs_isub, zs_imul, zs_iand, zs_ior, zs_ishl, zs_ishr, zs_idiv, zs_irem, zs_i2l, zs_l2i, zs_i2b, zs_i2c, zs_lor, zs_land, zs_lshl, zs_lshr, zs_lushr, zs_dup, zs_dup2, zs_pop, zs_aconst_null, zs_goto, zs_if_icmp, zs_ifCond, zs_ifnull, zs_ifnonnull, zs_tableswitch, zs_getfield, zs_putfield, zs_arraylength, zs_iaload, zs_baload, zs_aaload, zs_iastore, zs_bastore, zs_aastore, zs_newarray, zs_anewarray, zs_new, zs_invokespecial, zs_invokestatic, zs_invokevirtual, zs_checkcast, zs_iushr, zs_return_, zs_ireturn, zs_areturn, zw_0, zw_1, zh_lk0, zh_lk1, zh_i1, zh_i2, zh_l2, zh_li, zh_l1, zh_r1, zh_ri, zh_rii, zh_rir, zh_rv, zh_v1, zh_v2, zh_int, zh_lng, zh_rf, zh_rfn, zh_rfs, zh_rfsn, zh_nul, zh_nuln, zh_acp, zh_sm, zh_obj, zh_row, zh_rdx, zh_rdxn, zh_rrw, zh_len, zh_lenn, zh_ocs, zh_ocn, zh_b1, zh_b10, zh_b7, zh_eq, zh_ne, zh_lt, zh_ge, zh_gt, zh_le, zh_f0, zh_f1, zh_f2, zh_f2n, zh_s, zh_m0, zh_m1, zh_li0, zh_li1, zh_li2, zh_li3, zh_ab, zh_ai, zh_az, zh_tg, zh_g0, zh_gi, zh_gr, zh_gl, zh_gn, z_f0, z_f1, z_f2, z_f3, z_us, z_uu, List.getElem?_cons_zero, List.getElem?_cons_succ, List.set_cons_zero, List.set_cons_succ, List.length_cons, List.length_nil, List.nil_append, List.cons_append, Option.toList_some, Option.toList_none, Nat.reduceAdd, Nat.reduceEqDiff, Nat.reduceLT, Nat.reduceLeDiff, ↓reduceIte, Nat.succ_ne_self, reduceCtorEq, true_and, and_true, and_self, or_false, false_or, or_true, true_or, Nat.lt_irrefl, Nat.zero_lt_succ, Nat.le_refl, Nat.zero_le, Nat.add_zero, Nat.zero_add, Nat.reduceMul, Int.cast_ofNat_Int, Int.natCast_one, Int.natCast_zero, Int.reduceAdd, Int.reduceNeg, Int.reduceToNat, Int.zero_add, Int.toNat_one, Int.toNat_zero, zc_im13, zc_im8, zc_im5, zc_im1, zc_i0, zc_i1, zc_i2, zc_i3, zc_i4, zc_i5, zc_i13, zc_bm2, zc_b6, zc_b7, zc_b8, zc_b10, zc_b12, zc_b13, zc_b16, zc_b17, zc_b20, zc_b31, zc_b32, zc_b60, zc_b63, zc_b64, zc_b80, zc_b127, zc_s128, zc_s140, zc_s200, zc_s255, zc_s256, zc_s400, zc_s1023, zc_s1304, zc_s4096, zc_s6000, zc_s7936, not_true_eq_false, not_false_eq_true, forall_const, false_implies, zX_s, zc_10, nI_add, false_and, and_false, eX5_readBlock, q1']
        rw [e2]
        exact ⟨by omega, by omega, rfl, e3, e4⟩
      refine hG.1 _ _ _ _ _ _ _ bX5_readBlock_27 ?_
      simp only [zs_iconst, zs_bipush, zs_sipush, zs_ldc, zs_getstatic, zs_iload_n, zs_iload, zs_lload_n, zs_aload_n, zs_aload, zs_istore_n, zs_istore, zs_astore_n, zs_astore, zs_iinc, zs_iadd, zs_isub, zs_imul, zs_iand, zs_ior, zs_ishl, zs_ishr, zs_idiv, zs_irem, zs_i2l, zs_l2i, zs_i2b, zs_i2c, zs_lor, zs_land, zs_lshl, zs_lshr, zs_lushr, zs_dup, zs_dup2, zs_pop, zs_aconst_null, zs_goto, zs_if_icmp, zs_ifCond, zs_ifnull, zs_ifnonnull, zs_tableswitch, zs_getfield, zs_putfield, zs_arraylength, zs_iaload, zs_baload, zs_aaload, zs_iastore, zs_bastore, zs_aastore, zs_newarray, zs_anewarray, zs_new, zs_invokespecial, zs_invokestatic, zs_invokevirtual, zs_checkcast, zs_iushr, zs_return_, zs_ireturn, zs_areturn, zw_0, zw_1, zh_lk0, zh_lk1, zh_i1, zh_i2, zh_l2, zh_li, zh_l1, zh_r1, zh_ri, zh_rii, zh_rir, zh_rv, zh_v1, zh_v2, zh_int, zh_lng, zh_rf, zh_rfn, zh_rfs, zh_rfsn, zh_nul, zh_nuln, zh_acp, zh_sm, zh_obj, zh_row, zh_rdx, zh_rdxn, zh_rrw, zh_len, zh_lenn, zh_ocs, zh_ocn, zh_b1, zh_b10, zh_b7, zh_eq, zh_ne, zh_lt, zh_ge, zh_gt, zh_le, zh_f0, zh_f1, zh_f2, zh_f2n, zh_s, zh_m0, zh_m1, zh_li0, zh_li1, zh_li2, zh_li3, zh_ab, zh_ai, zh_az, zh_tg, zh_g0, zh_gi, zh_gr, zh_gl, zh_gn, z_f0, z_f1, z_f2, z_f3, z_us, z_uu, List.getElem?_cons_zero, List.getElem?_cons_succ, List.set_cons_zero, List.set_cons_succ, List.length_cons, List.length_nil, List.nil_append, List.cons_append, Option.toList_some, Option.toList_none, Nat.reduceAdd, Nat.reduceEqDiff, Nat.reduceLT, Nat.reduceLeDiff, ↓reduceIte, Nat.succ_ne_self, reduceCtorEq, true_and, and_true, and_self, or_false, false_or, or_true, true_or, Nat.lt_irrefl, Nat.zero_lt_succ, Nat.le_refl, Nat.zero_le, Nat.add_zero, Nat.zero_add, Nat.reduceMul, Int.cast_ofNat_Int, Int.natCast_one, Int.natCast_zero, Int.reduceAdd, Int.reduceNeg, Int.reduceToNat, Int.zero_add, Int.toNat_one, Int.toNat_zero, zc_im13, zc_im8, zc_im5, zc_im1, zc_i0, zc_i1, zc_i2, zc_i3, zc_i4, zc_i5, zc_i13, zc_bm2, zc_b6, zc_b7, zc_b8, zc_b10, zc_b12, zc_b13, zc_b16, zc_b17, zc_b20, zc_b31, zc_b32, zc_b60, zc_b63, zc_b64, zc_b80, zc_b127, zc_s128, zc_s140, zc_s200, zc_s255, zc_s256, zc_s400, zc_s1023, zc_s1304, zc_s4096, zc_s6000, zc_s7936, not_true_eq_false, not_false_eq_true, forall_const, false_implies, zX_s, zc_10, nI_add, false_and, and_false, eX5_readBlock, q1', r1]
      refine ⟨fun c => absurd c (nI_ge (by omega) (by omega)), fun _ => ⟨fun c => ?_, fun c => ⟨fun c2 => ?_, fun c2 => ?_⟩⟩⟩
      · rw [nI_leI (by omega) (by omega)] at c
        exact out (Or.inr c)
      · exact out (Or.inl (fun z => c2 (by rw [z]; decide)))
      · rw [nI_leI (by omega) (by omega)] at c
        have hs0 : s.1 = 0 := z_nI0 (by omega) (Classical.not_not.mp c2)
        rw [if_neg (by omega)] at e2
        obtain ⟨f1, f2, f3⟩ := e7 hs0
        obtain ⟨sf, sp, sFL, sL, slim⟩ := s
        simp only at *
        subst hs0
        have hx := hr.by8 _ (z_gdm (show sp < ld.length by omega))
        refine kX5_readBlock_63 (st := []) hG r1 (c_Row_at q2 hl) (fun r5 h5 hq5 => ?_) (by omega) (by omega)
        obtain ⟨rfl, hh⟩ := hq5
        rw [hh, z_at_nI (by omega) (by omega)]
        generalize hX : ld.getD sp 0 = x at *
        have hst : z_st ld F (0, sp, sFL, sL, slim) = if 32 ≤ x ∧ x < 64 then z_sL ld sp sFL sL slim else if 60 ≤ sFL.length then (7, sp, sFL, sL, slim) else if 128 ≤ x then z_sW ld sp (F ++ sL) sFL sL slim else z_sT ld sp x (F ++ sL) sFL sL slim := by rw [z_st]; simp only [hX]
        -- on
        have on : ∀ (z : zS5) (h6 : zH) (cs6 sl6 : Nat), z_st ld F (0, sp, sFL, sL, slim) = z → z_Us h6 u ai af at' al ax m ld F z.1 z.2.1 z.2.2.1 z.2.2.2.1 z.2.2.2.2 → z_fr zUc h h6 → z.1 ≤ 7 → z.2.2.1.length ≤ 60 → (z.1 = 0 → cs6 ≤ 3 * z.2.2.1.length ∧ sl6 ≤ 2 * z.2.1 + 3 * z.2.2.1.length ∧ z.2.1 ≤ ld.length) → cs6 ≤ 190 → sl6 ≤ 12390 → z.2.1 ≤ 20000 → G 124 [(3, .int (nI x)), (2, .int (nI i)), (0, .ref u)] [] h6 cs6 sl6 := by
          intro z h6 cs6 sl6 g1 g2 g3 g4 g5 g6 g7 g8 g9
          rw [g1] at e2
          refine hG.1 _ _ _ _ _ _ _ bX5_readBlock_124 ?_
          simp only [zs_iconst, zs_bipush, zs_sipush, zs_ldc, zs_getstatic, zs_iload_n, zs_iload, zs_lload_n, zs_aload_n, zs_aload, zs_istore_n, zs_istore, zs_astore_n, zs_astore, zs_iinc, zs_iadd, zs_isub, zs_imul, zs_iand, zs_ior, zs_ishl, zs_ishr, zs_idiv, zs_irem, zs_i2l, zs_l2i, zs_i2b, zs_i2c, zs_lor, zs_land, zs_lshl, zs_lshr, zs_lushr, zs_dup, zs_dup2, zs_pop, zs_aconst_null, zs_goto, zs_if_icmp, zs_ifCond, zs_ifnull, zs_ifnonnull, zs_tableswitch, zs_getfield, zs_putfield, zs_arraylength, zs_iaload, zs_baload, zs_aaload, zs_iastore, zs_bastore, zs_aastore, zs_newarray, zs_anewarray, zs_new, zs_invokespecial, zs_invokestatic, zs_invokevirtual, zs_checkcast, zs_iushr, zs_return_, zs_ireturn, zs_areturn, zw_0, zw_1, zh_lk0, zh_lk1, zh_i1, zh_i2, zh_l2, zh_li, zh_l1, zh_r1, zh_ri, zh_rii, zh_rir, zh_rv, zh_v1, zh_v2, zh_int, zh_lng, zh_rf, zh_rfn, zh_rfs, zh_rfsn, zh_nul, zh_nuln, zh_acp, zh_sm, zh_obj, zh_row, zh_rdx, zh_rdxn, zh_rrw, zh_len, zh_lenn, zh_ocs, zh_ocn, zh_b1, zh_b10, zh_b7, zh_eq, zh_ne, zh_lt, zh_ge, zh_gt, zh_le, zh_f0, zh_f1, zh_f2, zh_f2n, zh_s, zh_m0, zh_m1, zh_li0, zh_li1, zh_li2, zh_li3, zh_ab, zh_ai, zh_az, zh_tg, zh_g0, zh_gi, zh_gr, zh_gl, zh_gn, z_f0, z_f1, z_f2, z_f3, z_us, z_uu, List.getElem?_cons_zero, List.getElem?_cons_succ, List.set_cons_zero, List.set_cons_succ, List.length_cons, List.length_nil, List.nil_append, List.cons_append, Option.toList_some, Option.toList_none, Nat.reduceAdd, Nat.reduceEqDiff, Nat.reduceLT, Nat.reduceLeDiff, ↓reduceIte, Nat.succ_ne_self, reduceCtorEq, true_and, and_true, and_self, or_false, false_or, or_true, true_or, Nat.lt_irrefl, Nat.zero_lt_succ, Nat.le_refl, Nat.zero_le, Nat.add_zero, Nat.zero_add, Nat.reduceMul, Int.cast_ofNat_Int, Int.natCast_one, Int.natCast_zero, Int.reduceAdd, Int.reduceNeg, Int.reduceToNat, Int.zero_add, Int.toNat_one, Int.toNat_zero, zc_im13, zc_im8, zc_im5, zc_im1, zc_i0, zc_i1, zc_i2, zc_i3, zc_i4, zc_i5, zc_i13, zc_bm2, zc_b6, zc_b7, zc_b8, zc_b10, zc_b12, zc_b13, zc_b16, zc_b17, zc_b20, zc_b31, zc_b32, zc_b60, zc_b63, zc_b64, zc_b80, zc_b127, zc_s128, zc_s140, zc_s200, zc_s255, zc_s256, zc_s400, zc_s1023, zc_s1304, zc_s4096, zc_s6000, zc_s7936, not_true_eq_false, not_false_eq_true, forall_const, false_implies, zX_s, zc_10, nI_add, false_and, and_false, eX5_readBlock]
          refine z_lvw hG [(2, .int (nI (i + 1))), (0, .ref u)] (by simp) ?_
          exact ih (i + 1) z h6 cs6 sl6 _ (by omega) e2 g2 g3 g4 g5 g6 g7 g8 g9 rfl
        have go86 : ¬ (32 ≤ x ∧ x < 64) → G 86 [(3, .int (nI x)), (2, .int (nI i)), (0, .ref u)] [] hk cs sl := by
          intro hnl
          rw [if_neg hnl] at hst
          obtain ⟨cf, g1, g2, g3⟩ := q4.ob
          refine hG.1 _ _ _ _ _ _ _ bX5_readBlock_86 ?_
          simp only [zs_iconst, zs_bipush, zs_sipush, zs_ldc, zs_getstatic, zs_iload_n, zs_iload, zs_lload_n, zs_aload_n, zs_aload, zs_istore_n, zs_istore, zs_astore_n, zs_astore, zs_iinc, zs_iadd, zs_isub, zs_imul, zs_iand, zs_ior, zs_ishl, zs_ishr, zs_idiv, zs_irem, zs_i2l, zs_l2i, zs_i2b, zs_i2c, zs_lor, zs_land, zs_lshl, zs_lshr, zs_lushr, zs_dup, zs_dup2, zs_pop, zs_aconst_null, zs_goto, zs_if_icmp, zs_ifCond, zs_ifnull, zs_ifnonnull, zs_tableswitch, zs_getfield, zs_putfield, zs_arraylength, zs_iaload, zs_baload, zs_aaload, zs_iastore, zs_bastore, zs_aastore, zs_newarray, zs_anewarray, zs_new, zs_invokespecial, zs_invokestatic, zs_invokevirtual, zs_checkcast, zs_iushr, zs_return_, zs_ireturn, zs_areturn, zw_0, zw_1, zh_lk0, zh_lk1, zh_i1, zh_i2, zh_l2, zh_li, zh_l1, zh_r1, zh_ri, zh_rii, zh_rir, zh_rv, zh_v1, zh_v2, zh_int, zh_lng, zh_rf, zh_rfn, zh_rfs, zh_rfsn, zh_nul, zh_nuln, zh_acp, zh_sm, zh_obj, zh_row, zh_rdx, zh_rdxn, zh_rrw, zh_len, zh_lenn, zh_ocs, zh_ocn, zh_b1, zh_b10, zh_b7, zh_eq, zh_ne, zh_lt, zh_ge, zh_gt, zh_le, zh_f0, zh_f1, zh_f2, zh_f2n, zh_s, zh_m0, zh_m1, zh_li0, zh_li1, zh_li2, zh_li3, zh_ab, zh_ai, zh_az, zh_tg, zh_g0, zh_gi, zh_gr, zh_gl, zh_gn, z_f0, z_f1, z_f2, z_f3, z_us, z_uu, List.getElem?_cons_zero, List.getElem?_cons_succ, List.set_cons_zero, List.set_cons_succ, List.length_cons, List.length_nil, List.nil_append, List.cons_append, Option.toList_some, Option.toList_none, Nat.reduceAdd, Nat.reduceEqDiff, Nat.reduceLT, Nat.reduceLeDiff, ↓reduceIte, Nat.succ_ne_self, reduceCtorEq, true_and, and_true, and_self, or_false, false_or, or_true, true_or, Nat.lt_irrefl, Nat.zero_lt_succ, Nat.le_refl, Nat.zero_le, Nat.add_zero, Nat.zero_add, Nat.reduceMul, Int.cast_ofNat_Int, Int.natCast_one, Int.natCast_zero, Int.reduceAdd, Int.reduceNeg, Int.reduceToNat, Int.zero_add, Int.toNat_one, Int.toNat_zero, zc_im13, zc_im8, zc_im5, zc_im1, zc_i0, zc_i1, zc_i2, zc_i3, zc_i4, zc_i5, zc_i13, zc_bm2, zc_b6, zc_b7, zc_b8, zc_b10, zc_b12, zc_b13, zc_b16, zc_b17, zc_b20, zc_b31, zc_b32, zc_b60, zc_b63, zc_b64, zc_b80, zc_b127, zc_s128, zc_s140, zc_s200, zc_s255, zc_s256, zc_s400, zc_s1023, zc_s1304, zc_s4096, zc_s6000, zc_s7936, not_true_eq_false, not_false_eq_true, forall_const, false_implies, zX_s, zc_10, nI_add, false_and, and_false, eX5_readBlock, q1']
          refine kX5_readBlock_90 (st := []) hG g1 (c_Fields_isFull q4) (fun r6 h6 hq6 => ?_) (by omega) (by omega)
          obtain ⟨rfl, hh6⟩ := hq6
          rw [hh6]
          refine hG.1 _ _ _ _ _ _ _ bX5_readBlock_93 ?_
          simp only [zs_iconst, zs_bipush, zs_sipush, zs_ldc, zs_getstatic, zs_iload_n, zs_iload, zs_lload_n, zs_aload_n, zs_aload, zs_istore_n, zs_istore, zs_astore_n, zs_astore, zs_iinc, zs_iadd, zs_isub, zs_imul, zs_iand, zs_ior, zs_ishl, zs_ishr, zs_idiv, zs_irem, zs_i2l, zs_l2i, zs_i2b, zs_i2c, zs_lor, zs_land, zs_lshl, zs_lshr, zs_lushr, zs_dup, zs_dup2, zs_pop, zs_aconst_null, zs_goto, zs_if_icmp, zs_ifCond, zs_ifnull, zs_ifnonnull, zs_tableswitch, zs_getfield, zs_putfield, zs_arraylength, zs_iaload, zs_baload, zs_aaload, zs_iastore, zs_bastore, zs_aastore, zs_newarray, zs_anewarray, zs_new, zs_invokespecial, zs_invokestatic, zs_invokevirtual, zs_checkcast, zs_iushr, zs_return_, zs_ireturn, zs_areturn, zw_0, zw_1, zh_lk0, zh_lk1, zh_i1, zh_i2, zh_l2, zh_li, zh_l1, zh_r1, zh_ri, zh_rii, zh_rir, zh_rv, zh_v1, zh_v2, zh_int, zh_lng, zh_rf, zh_rfn, zh_rfs, zh_rfsn, zh_nul, zh_nuln, zh_acp, zh_sm, zh_obj, zh_row, zh_rdx, zh_rdxn, zh_rrw, zh_len, zh_lenn, zh_ocs, zh_ocn, zh_b1, zh_b10, zh_b7, zh_eq, zh_ne, zh_lt, zh_ge, zh_gt, zh_le, zh_f0, zh_f1, zh_f2, zh_f2n, zh_s, zh_m0, zh_m1, zh_li0, zh_li1, zh_li2, zh_li3, zh_ab, zh_ai, zh_az, zh_tg, zh_g0, zh_gi, zh_gr, zh_gl, zh_gn, z_f0, z_f1, z_f2, z_f3, z_us, z_uu, List.getElem?_cons_zero, List.getElem?_cons_succ, List.set_cons_zero, List.set_cons_succ, List.length_cons, List.length_nil, List.nil_append, List.cons_append, Option.toList_some, Option.toList_none, Nat.reduceAdd, Nat.reduceEqDiff, Nat.reduceLT, Nat.reduceLeDiff, ↓reduceIte, Nat.succ_ne_self, reduceCtorEq, true_and, and_true, and_self, or_false, false_or, or_true, true_or, Nat.lt_irrefl, Nat.zero_lt_succ, Nat.le_refl, Nat.zero_le, Nat.add_zero, Nat.zero_add, Nat.reduceMul, Int.cast_ofNat_Int, Int.natCast_one, Int.natCast_zero, Int.reduceAdd, Int.reduceNeg, Int.reduceToNat, Int.zero_add, Int.toNat_one, Int.toNat_zero, zc_im13, zc_im8, zc_im5, zc_im1, zc_i0, zc_i1, zc_i2, zc_i3, zc_i4, zc_i5, zc_i13, zc_bm2, zc_b6, zc_b7, zc_b8, zc_b10, zc_b12, zc_b13, zc_b16, zc_b17, zc_b20, zc_b31, zc_b32, zc_b60, zc_b63, zc_b64, zc_b80, zc_b127, zc_s128, zc_s140, zc_s200, zc_s255, zc_s256, zc_s400, zc_s1023, zc_s1304, zc_s4096, zc_s6000, zc_s7936, not_true_eq_false, not_false_eq_true, forall_const, false_implies, zX_s, zc_10, nI_add, false_and, and_false, eX5_readBlock, q1']
          by_cases hfull : 60 ≤ sFL.length
          · rw [if_pos hfull] at hst
            rw [decide_eq_true hfull]
            refine ⟨fun c9 => absurd c9 (by decide), fun _ => ?_⟩
            have hfr : z_fr [14] hk (va_up hk u (some (14, .inr (5, [.ref ai, .ref af, .ref at', .ref al, .int (nI sp), .int (nI 7)])))) := z_fr.rf.up q1' (by decide)
            exact on (7, sp, sFL, sL, slim) _ _ _ hst (e3.fr14 hfr z_us) (e4.tr (hfr.mo (by decide))) (by simp) e6 (fun z => absurd z (by simp)) (by omega) (by omega) (by simp only; omega)
          · rw [if_neg hfull] at hst
            rw [decide_eq_false hfull]
            refine ⟨fun _ => ?_, fun c9 => absurd (by decide) c9⟩
            refine hG.1 _ _ _ _ _ _ _ bX5_readBlock_105 ?_
            simp only [zs_iconst, zs_bipush, zs_sipush, zs_ldc, zs_getstatic, zs_iload_n, zs_iload, zs_lload_n, zs_aload_n, zs_aload, zs_istore_n, zs_istore, zs_astore_n, zs_astore, zs_iinc, zs_iadd, zs_isub, zs_imul, zs_iand, zs_ior, zs_ishl, zs_ishr, zs_idiv, zs_irem, zs_i2l, zs_l2i, zs_i2b, zs_i2c, zs_lor, zs_land, zs_lshl, zs_lshr, zs_lushr, zs_dup, zs_dup2, zs_pop, zs_aconst_null, zs_goto, zs_if_icmp, zs_ifCond, zs_ifnull, zs_ifnonnull, zs_tableswitch, zs_getfield, zs_putfield, zs_arraylength, zs_iaload, zs_baload, zs_aaload, zs_iastore, zs_bastore, zs_aastore, zs_newarray, zs_anewarray, zs_new, zs_invokespecial, zs_invokestatic, zs_invokevirtual, zs_checkcast, zs_iushr, zs_return_, zs_ireturn, zs_areturn, zw_0, zw_1, zh_lk0, zh_lk1, zh_i1, zh_i2, zh_l2, zh_li, zh_l1, zh_r1, zh_ri, zh_rii, zh_rir, zh_rv, zh_v1, zh_v2, zh_int, zh_lng, zh_rf, zh_rfn, zh_rfs, zh_rfsn, zh_nul, zh_nuln, zh_acp, zh_sm, zh_obj, zh_row, zh_rdx, zh_rdxn, zh_rrw, zh_len, zh_lenn, zh_ocs, zh_ocn, zh_b1, zh_b10, zh_b7, zh_eq, zh_ne, zh_lt, zh_ge, zh_gt, zh_le, zh_f0, zh_f1, zh_f2, zh_f2n, zh_s, zh_m0, zh_m1, zh_li0, zh_li1, zh_li2, zh_li3, zh_ab, zh_ai, zh_az, zh_tg, zh_g0, zh_gi, zh_gr, zh_gl, zh_gn, z_f0, z_f1, z_f2, z_f3, z_us, z_uu, List.getElem?_cons_zero, List.getElem?_cons_succ, List.set_cons_zero, List.set_cons_succ, List.length_cons, List.length_nil, List.nil_append, List.cons_append, Option.toList_some, Option.toList_none, Nat.reduceAdd, Nat.reduceEqDiff, Nat.reduceLT, Nat.reduceLeDiff, ↓reduceIte, Nat.succ_ne_self, reduceCtorEq, true_and, and_true, and_self, or_false, false_or, or_true, true_or, Nat.lt_irrefl, Nat.zero_lt_succ, Nat.le_refl, Nat.zero_le, Nat.add_zero, Nat.zero_add, Nat.reduceMul, Int.cast_ofNat_Int, Int.natCast_one, Int.natCast_zero, Int.reduceAdd, Int.reduceNeg, Int.reduceToNat, Int.zero_add, Int.toNat_one, Int.toNat_zero, zc_im13, zc_im8, zc_im5, zc_im1, zc_i0, zc_i1, zc_i2, zc_i3, zc_i4, zc_i5, zc_i13, zc_bm2, zc_b6, zc_b7, zc_b8, zc_b10, zc_b12, zc_b13, zc_b16, zc_b17, zc_b20, zc_b31, zc_b32, zc_b60, zc_b63, zc_b64, zc_b80, zc_b127, zc_s128, zc_s140, zc_s200, zc_s255, zc_s256, zc_s400, zc_s1023, zc_s1304, zc_s4096, zc_s6000, zc_s7936, not_true_eq_false, not_false_eq_true, forall_const, false_implies, zX_s, zc_10, nI_add, false_and, and_false, eX5_readBlock]
            refine ⟨fun c9 => ?_, fun c9 => ?_⟩
            · rw [nI_ltI (by omega) (by omega)] at c9
              rw [if_neg (by omega)] at hst
              have o1 := z_sT_ok ld sp x (F ++ sL) sFL sL slim
              have o2 := z_sT_pl (x := x) (M := F ++ sL) (FL := sFL) (L := sL) (lim := slim) f3
              have o3 := z_sT_FL ld sp x (F ++ sL) sFL sL slim
              have hks : z_ks sp (z_sT ld sp x (F ++ sL) sFL sL slim) ≤ 12003 := by
                unfold z_ks
                split <;> omega
              have hks0 : (z_sT ld sp x (F ++ sL) sFL sL slim).1 = 0 → z_ks sp (z_sT ld sp x (F ++ sL) sFL sL slim) = 2 * ((z_sT ld sp x (F ++ sL) sFL sL slim).2.1 - sp) + 3 := fun z => by unfold z_ks; rw [if_pos z]
              have hks1 : (z_sT ld sp x (F ++ sL) sFL sL slim).1 ≠ 0 → z_ks sp (z_sT ld sp x (F ++ sL) sFL sL slim) = 200 := fun z => by unfold z_ks; rw [if_neg z]
              have hbud : sl + z_ks sp (z_sT ld sp x (F ++ sL) sFL sL slim) ≤ 12390 := by
                by_cases z : (z_sT ld sp x (F ++ sL) sFL sL slim).1 = 0
                · rw [hks0 z]
                  omega
                · rw [hks1 z]
                  omega
              refine hG.1 _ _ _ _ _ _ _ bX5_readBlock_119 ?_
              simp only [zs_iconst, zs_bipush, zs_sipush, zs_ldc, zs_getstatic, zs_iload_n, zs_iload, zs_lload_n, zs_aload_n, zs_aload, zs_istore_n, zs_istore, zs_astore_n, zs_astore, zs_iinc, zs_iadd, zs_isub, zs_imul, zs_iand, zs_ior, zs_ishl, zs_ishr, zs_idiv, zs_irem, zs_i2l, zs_l2i, zs_i2b, zs_i2c, zs_lor, zs_land, zs_lshl, zs_lshr, zs_lushr, zs_dup, zs_dup2, zs_pop, zs_aconst_null, zs_goto, zs_if_icmp, zs_ifCond, zs_ifnull, zs_ifnonnull, zs_tableswitch, zs_getfield, zs_putfield, zs_arraylength, zs_iaload, zs_baload, zs_aaload, zs_iastore, zs_bastore, zs_aastore, zs_newarray, zs_anewarray, zs_new, zs_invokespecial, zs_invokestatic, zs_invokevirtual, zs_checkcast, zs_iushr, zs_return_, zs_ireturn, zs_areturn, zw_0, zw_1, zh_lk0, zh_lk1, zh_i1, zh_i2, zh_l2, zh_li, zh_l1, zh_r1, zh_ri, zh_rii, zh_rir, zh_rv, zh_v1, zh_v2, zh_int, zh_lng, zh_rf, zh_rfn, zh_rfs, zh_rfsn, zh_nul, zh_nuln, zh_acp, zh_sm, zh_obj, zh_row, zh_rdx, zh_rdxn, zh_rrw, zh_len, zh_lenn, zh_ocs, zh_ocn, zh_b1, zh_b10, zh_b7, zh_eq, zh_ne, zh_lt, zh_ge, zh_gt, zh_le, zh_f0, zh_f1, zh_f2, zh_f2n, zh_s, zh_m0, zh_m1, zh_li0, zh_li1, zh_li2, zh_li3, zh_ab, zh_ai, zh_az, zh_tg, zh_g0, zh_gi, zh_gr, zh_gl, zh_gn, z_f0, z_f1, z_f2, z_f3, z_us, z_uu, List.getElem?_cons_zero, List.getElem?_cons_succ, List.set_cons_zero, List.set_cons_succ, List.length_cons, List.length_nil, List.nil_append, List.cons_append, Option.toList_some, Option.toList_none, Nat.reduceAdd, Nat.reduceEqDiff, Nat.reduceLT, Nat.reduceLeDiff, ↓reduceIte, Nat.succ_ne_self, reduceCtorEq, true_and, and_true, and_self, or_false, false_or, or_true, true_or, Nat.lt_irrefl, Nat.zero_lt_succ, Nat.le_refl, Nat.zero_le, Nat.add_zero, Nat.zero_add, Nat.reduceMul, Int.cast_ofNat_Int, Int.natCast_one, Int.natCast_zero, Int.reduceAdd, Int.reduceNeg, Int.reduceToNat, Int.zero_add, Int.toNat_one, Int.toNat_zero, zc_im13, zc_im8, zc_im5, zc_im1, zc_i0, zc_i1, zc_i2, zc_i3, zc_i4, zc_i5, zc_i13, zc_bm2, zc_b6, zc_b7, zc_b8, zc_b10, zc_b12, zc_b13, zc_b16, zc_b17, zc_b20, zc_b31, zc_b32, zc_b60, zc_b63, zc_b64, zc_b80, zc_b127, zc_s128, zc_s140, zc_s200, zc_s255, zc_s256, zc_s400, zc_s1023, zc_s1304, zc_s4096, zc_s6000, zc_s7936, not_true_eq_false, not_false_eq_true, forall_const, false_implies, zX_s, zc_10, nI_add, false_and, and_false, eX5_readBlock]
              refine kX5_readBlock_121 (st := []) hG q1' (c_readTexts e3 hl f3 (by omega) hx) (fun r7 h7 hq7 => ?_) (by omega) (by omega)
              obtain ⟨rfl, w1, w2⟩ := hq7
              refine on _ h7 _ _ hst w1 (e4.tr w2) o1.1 (by omega) (fun z => ?_) (by omega) (by omega) (by omega)
              have a1 := o3.2 z
              have a2 := o1.2 z
              have a3 := hks0 z
              exact ⟨by omega, by omega, by omega⟩
            · rw [nI_ltI (by omega) (by omega)] at c9
              rw [if_pos (by omega)] at hst
              have o1 := z_sW_ok ld sp (F ++ sL) sFL sL slim
              have o2 := z_sW_pl (M := F ++ sL) (FL := sFL) (L := sL) (lim := slim) f3
              have o3 := z_sW_FL ld sp (F ++ sL) sFL sL slim
              refine kX5_readBlock_113 (st := []) hG q1' (c_readWhole e3 hl f3 (by omega)) (fun r7 h7 hq7 => ?_) (by omega) (by omega)
              obtain ⟨rfl, w1, w2⟩ := hq7
              refine hG.1 _ _ _ _ _ _ _ bX5_readBlock_116 ?_
              simp only [zs_iconst, zs_bipush, zs_sipush, zs_ldc, zs_getstatic, zs_iload_n, zs_iload, zs_lload_n, zs_aload_n, zs_aload, zs_istore_n, zs_istore, zs_astore_n, zs_astore, zs_iinc, zs_iadd, zs_isub, zs_imul, zs_iand, zs_ior, zs_ishl, zs_ishr, zs_idiv, zs_irem, zs_i2l, zs_l2i, zs_i2b, zs_i2c, zs_lor, zs_land, zs_lshl, zs_lshr, zs_lushr, zs_dup, zs_dup2, zs_pop, zs_aconst_null, zs_goto, zs_if_icmp, zs_ifCond, zs_ifnull, zs_ifnonnull, zs_tableswitch, zs_getfield, zs_putfield, zs_arraylength, zs_iaload, zs_baload, zs_aaload, zs_iastore, zs_bastore, zs_aastore, zs_newarray, zs_anewarray, zs_new, zs_invokespecial, zs_invokestatic, zs_invokevirtual, zs_checkcast, zs_iushr, zs_return_, zs_ireturn, zs_areturn, zw_0, zw_1, zh_lk0, zh_lk1, zh_i1, zh_i2, zh_l2, zh_li, zh_l1, zh_r1, zh_ri, zh_rii, zh_rir, zh_rv, zh_v1, zh_v2, zh_int, zh_lng, zh_rf, zh_rfn, zh_rfs, zh_rfsn, zh_nul, zh_nuln, zh_acp, zh_sm, zh_obj, zh_row, zh_rdx, zh_rdxn, zh_rrw, zh_len, zh_lenn, zh_ocs, zh_ocn, zh_b1, zh_b10, zh_b7, zh_eq, zh_ne, zh_lt, zh_ge, zh_gt, zh_le, zh_f0, zh_f1, zh_f2, zh_f2n, zh_s, zh_m0, zh_m1, zh_li0, zh_li1, zh_li2, zh_li3, zh_ab, zh_ai, zh_az, zh_tg, zh_g0, zh_gi, zh_gr, zh_gl, zh_gn, z_f0, z_f1, z_f2, z_f3, z_us, z_uu, List.getElem?_cons_zero, List.getElem?_cons_succ, List.set_cons_zero, List.set_cons_succ, List.length_cons, List.length_nil, List.nil_append, List.cons_append, Option.toList_some, Option.toList_none, Nat.reduceAdd, Nat.reduceEqDiff, Nat.reduceLT, Nat.reduceLeDiff, ↓reduceIte, Nat.succ_ne_self, reduceCtorEq, true_and, and_true, and_self, or_false, false_or, or_true, true_or, Nat.lt_irrefl, Nat.zero_lt_succ, Nat.le_refl, Nat.zero_le, Nat.add_zero, Nat.zero_add, Nat.reduceMul, Int.cast_ofNat_Int, Int.natCast_one, Int.natCast_zero, Int.reduceAdd, Int.reduceNeg, Int.reduceToNat, Int.zero_add, Int.toNat_one, Int.toNat_zero, zc_im13, zc_im8, zc_im5, zc_im1, zc_i0, zc_i1, zc_i2, zc_i3, zc_i4, zc_i5, zc_i13, zc_bm2, zc_b6, zc_b7, zc_b8, zc_b10, zc_b12, zc_b13, zc_b16, zc_b17, zc_b20, zc_b31, zc_b32, zc_b60, zc_b63, zc_b64, zc_b80, zc_b127, zc_s128, zc_s140, zc_s200, zc_s255, zc_s256, zc_s400, zc_s1023, zc_s1304, zc_s4096, zc_s6000, zc_s7936, not_true_eq_false, not_false_eq_true, forall_const, false_implies, zX_s, zc_10, nI_add, false_and, and_false, eX5_readBlock]
              refine on _ h7 _ _ hst w1 (e4.tr w2) o1.1 (by omega) (fun z => ?_) (by omega) (by omega) (by omega)
              have a1 := o3.2 z
              have a2 := o1.2 z
              exact ⟨by omega, by omega, by omega⟩
        refine hG.1 _ _ _ _ _ _ _ bX5_readBlock_66 ?_
        simp only [zs_iconst, zs_bipush, zs_sipush, zs_ldc, zs_getstatic, zs_iload_n, zs_iload, zs_lload_n, zs_aload_n, zs_aload, zs_istore_n, zs_istore, zs_astore_n, zs_astore, zs_iinc, zs_iadd, zs_isub, zs_imul, zs_iand, zs_ior, zs_ishl, zs_ishr, zs_idiv, zs_irem, zs_i2l, zs_l2i, zs_i2b, zs_i2c, zs_lor, zs_land, zs_lshl, zs_lshr, zs_lushr, zs_dup, zs_dup2, zs_pop, zs_aconst_null, zs_goto, zs_if_icmp, zs_ifCond, zs_ifnull, zs_ifnonnull, zs_tableswitch, zs_getfield, zs_putfield, zs_arraylength, zs_iaload, zs_baload, zs_aaload, zs_iastore, zs_bastore, zs_aastore, zs_newarray, zs_anewarray, zs_new, zs_invokespecial, zs_invokestatic, zs_invokevirtual, zs_checkcast, zs_iushr, zs_return_, zs_ireturn, zs_areturn, zw_0, zw_1, zh_lk0, zh_lk1, zh_i1, zh_i2, zh_l2, zh_li, zh_l1, zh_r1, zh_ri, zh_rii, zh_rir, zh_rv, zh_v1, zh_v2, zh_int, zh_lng, zh_rf, zh_rfn, zh_rfs, zh_rfsn, zh_nul, zh_nuln, zh_acp, zh_sm, zh_obj, zh_row, zh_rdx, zh_rdxn, zh_rrw, zh_len, zh_lenn, zh_ocs, zh_ocn, zh_b1, zh_b10, zh_b7, zh_eq, zh_ne, zh_lt, zh_ge, zh_gt, zh_le, zh_f0, zh_f1, zh_f2, zh_f2n, zh_s, zh_m0, zh_m1, zh_li0, zh_li1, zh_li2, zh_li3, zh_ab, zh_ai, zh_az, zh_tg, zh_g0, zh_gi, zh_gr, zh_gl, zh_gn, z_f0, z_f1, z_f2, z_f3, z_us, z_uu, List.getElem?_cons_zero, List.getElem?_cons_succ, List.set_cons_zero, List.set_cons_succ, List.length_cons, List.length_nil, List.nil_append, List.cons_append, Option.toList_some, Option.toList_none, Nat.reduceAdd, Nat.reduceEqDiff, Nat.reduceLT, Nat.reduceLeDiff, ↓reduceIte, Nat.succ_ne_self, reduceCtorEq, true_and, and_true, and_self, or_false, false_or, or_true, true_or, Nat.lt_irrefl, Nat.zero_lt_succ, Nat.le_refl, Nat.zero_le, Nat.add_zero, Nat.zero_add, Nat.reduceMul, Int.cast_ofNat_Int, Int.natCast_one, Int.natCast_zero, Int.reduceAdd, Int.reduceNeg, Int.reduceToNat, Int.zero_add, Int.toNat_one, Int.toNat_zero, zc_im13, zc_im8, zc_im5, zc_im1, zc_i0, zc_i1, zc_i2, zc_i3, zc_i4, zc_i5, zc_i13, zc_bm2, zc_b6, zc_b7, zc_b8, zc_b10, zc_b12, zc_b13, zc_b16, zc_b17, zc_b20, zc_b31, zc_b32, zc_b60, zc_b63, zc_b64, zc_b80, zc_b127, zc_s128, zc_s140, zc_s200, zc_s255, zc_s256, zc_s400, zc_s1023, zc_s1304, zc_s4096, zc_s6000, zc_s7936, not_true_eq_false, not_false_eq_true, forall_const, false_implies, zX_s, zc_10, nI_add, false_and, and_false, eX5_readBlock]
        refine ⟨fun c3 => ?_, fun c3 => ⟨fun c4 => ?_, fun c4 => ?_⟩⟩
        · rw [nI_ltI (by omega) (by omega)] at c3
          exact go86 (by omega)
        · rw [nI_leI (by omega) (by omega)] at c4
          exact go86 (by omega)
        · rw [nI_ltI (by omega) (by omega)] at c3
          rw [nI_leI (by omega) (by omega)] at c4
          rw [if_pos (by omega)] at hst
          have o1 := z_sL_ok ld sp sFL sL slim
          have o2 := z_sL_pl (FL := sFL) (L := sL) (lim := slim) f3
          have o3 := z_sL_FL ld sp sFL sL slim
          refine kX5_readBlock_80 (st := []) hG q1' (c_readLimit e3 hl f3) (fun r7 h7 hq7 => ?_) (by omega) (by omega)
          obtain ⟨rfl, w1, w2⟩ := hq7
          refine hG.1 _ _ _ _ _ _ _ bX5_readBlock_83 ?_
          simp only [zs_iconst, zs_bipush, zs_sipush, zs_ldc, zs_getstatic, zs_iload_n, zs_iload, zs_lload_n, zs_aload_n, zs_aload, zs_istore_n, zs_istore, zs_astore_n, zs_astore, zs_iinc, zs_iadd, zs_isub, zs_imul, zs_iand, zs_ior, zs_ishl, zs_ishr, zs_idiv, zs_irem, zs_i2l, zs_l2i, zs_i2b, zs_i2c, zs_lor, zs_land, zs_lshl, zs_lshr, zs_lushr, zs_dup, zs_dup2, zs_pop, zs_aconst_null, zs_goto, zs_if_icmp, zs_ifCond, zs_ifnull, zs_ifnonnull, zs_tableswitch, zs_getfield, zs_putfield, zs_arraylength, zs_iaload, zs_baload, zs_aaload, zs_iastore, zs_bastore, zs_aastore, zs_newarray, zs_anewarray, zs_new, zs_invokespecial, zs_invokestatic, zs_invokevirtual, zs_checkcast, zs_iushr, zs_return_, zs_ireturn, zs_areturn, zw_0, zw_1, zh_lk0, zh_lk1, zh_i1, zh_i2, zh_l2, zh_li, zh_l1, zh_r1, zh_ri, zh_rii, zh_rir, zh_rv, zh_v1, zh_v2, zh_int, zh_lng, zh_rf, zh_rfn, zh_rfs, zh_rfsn, zh_nul, zh_nuln, zh_acp, zh_sm, zh_obj, zh_row, zh_rdx, zh_rdxn, zh_rrw, zh_len, zh_lenn, zh_ocs, zh_ocn, zh_b1, zh_b10, zh_b7, zh_eq, zh_ne, zh_lt, zh_ge, zh_gt, zh_le, zh_f0, zh_f1, zh_f2, zh_f2n, zh_s, zh_m0, zh_m1, zh_li0, zh_li1, zh_li2, zh_li3, zh_ab, zh_ai, zh_az, zh_tg, zh_g0, zh_gi, zh_gr, zh_gl, zh_gn, z_f0, z_f1, z_f2, z_f3, z_us, z_uu, List.getElem?_cons_zero, List.getElem?_cons_succ, List.set_cons_zero, List.set_cons_succ, List.length_cons, List.length_nil, List.nil_append, List.cons_append, Option.toList_some, Option.toList_none, Nat.reduceAdd, Nat.reduceEqDiff, Nat.reduceLT, Nat.reduceLeDiff, ↓reduceIte, Nat.succ_ne_self, reduceCtorEq, true_and, and_true, and_self, or_false, false_or, or_true, true_or, Nat.lt_irrefl, Nat.zero_lt_succ, Nat.le_refl, Nat.zero_le, Nat.add_zero, Nat.zero_add, Nat.reduceMul, Int.cast_ofNat_Int, Int.natCast_one, Int.natCast_zero, Int.reduceAdd, Int.reduceNeg, Int.reduceToNat, Int.zero_add, Int.toNat_one, Int.toNat_zero, zc_im13, zc_im8, zc_im5, zc_im1, zc_i0, zc_i1, zc_i2, zc_i3, zc_i4, zc_i5, zc_i13, zc_bm2, zc_b6, zc_b7, zc_b8, zc_b10, zc_b12, zc_b13, zc_b16, zc_b17, zc_b20, zc_b31, zc_b32, zc_b60, zc_b63, zc_b64, zc_b80, zc_b127, zc_s128, zc_s140, zc_s200, zc_s255, zc_s256, zc_s400, zc_s1023, zc_s1304, zc_s4096, zc_s6000, zc_s7936, not_true_eq_false, not_false_eq_true, forall_const, false_implies, zX_s, zc_10, nI_add, false_and, and_false, eX5_readBlock]
          refine on _ h7 _ _ hst w1 (e4.tr w2) o1.1 (by rw [o3]; exact e6) (fun z => ?_) (by omega) (by omega) (by omega)
          have a2 := o1.2 z
          rw [o3]
          exact ⟨by omega, by omega, by omega⟩
  refine hG.1 _ _ _ _ _ _ _ bX5_readBlock_0 ?_
  simp only [zs_iconst, zs_bipush, zs_sipush, zs_ldc, zs_getstatic, zs_iload_n, zs_iload, zs_lload_n, zs_aload_n, zs_aload, zs_istore_n, zs_istore, zs_astore_n, zs_astore, zs_iinc, zs_iadd, zs_isub, zs_imul, zs_iand, zs_ior, zs_ishl, zs_ishr, zs_idiv, zs_irem, zs_i2l, zs_l2i, zs_i2b, zs_i2c, zs_lor, zs_land, zs_lshl, zs_lshr, zs_lushr, zs_dup, zs_dup2, zs_pop, zs_aconst_null, zs_goto, zs_if_icmp, zs_ifCond, zs_ifnull, zs_ifnonnull, zs_tableswitch, zs_getfield, zs_putfield, zs_arraylength, zs_iaload, zs_baload, zs_aaload, zs_iastore, zs_bastore, zs_aastore, zs_newarray, zs_anewarray, zs_new, zs_invokespecial, zs_invokestatic, zs_invokevirtual, zs_checkcast, zs_iushr, zs_return_, zs_ireturn, zs_areturn, zw_0, zw_1, zh_lk0, zh_lk1, zh_i1, zh_i2, zh_l2, zh_li, zh_l1, zh_r1, zh_ri, zh_rii, zh_rir, zh_rv, zh_v1, zh_v2, zh_int, zh_lng, zh_rf, zh_rfn, zh_rfs, zh_rfsn, zh_nul, zh_nuln, zh_acp, zh_sm, zh_obj, zh_row, zh_rdx, zh_rdxn, zh_rrw, zh_len, zh_lenn, zh_ocs, zh_ocn, zh_b1, zh_b10, zh_b7, zh_eq, zh_ne, zh_lt, zh_ge, zh_gt, zh_le, zh_f0, zh_f1, zh_f2, zh_f2n, zh_s, zh_m0, zh_m1, zh_li0, zh_li1, zh_li2, zh_li3, zh_ab, zh_ai, zh_az, zh_tg, zh_g0, zh_gi, zh_gr, zh_gl, zh_gn, z_f0, z_f1, z_f2, z_f3, z_us, z_uu, List.getElem?_cons_zero, List.getElem?_cons_succ, List.set_cons_zero, List.set_cons_succ, List.length_cons, List.length_nil, List.nil_append, List.cons_append, Option.toList_some, Option.toList_none, Nat.reduceAdd, Nat.reduceEqDiff, Nat.reduceLT, Nat.reduceLeDiff, ↓reduceIte, Nat.succ_ne_self, reduceCtorEq, true_and, and_true, and_self, or_false, false_or, or_true, true_or, Nat.lt_irrefl, Nat.zero_lt_succ, Nat.le_refl, Nat.zero_le, Nat.add_zero, Nat.zero_add, Nat.reduceMul, Int.cast_ofNat_Int, Int.natCast_one, Int.natCast_zero, Int.reduceAdd, Int.reduceNeg, Int.reduceToNat, Int.zero_add, Int.toNat_one, Int.toNat_zero, zc_im13, zc_im8, zc_im5, zc_im1, zc_i0, zc_i1, zc_i2, zc_i3, zc_i4, zc_i5, zc_i13, zc_bm2, zc_b6, zc_b7, zc_b8, zc_b10, zc_b12, zc_b13, zc_b16, zc_b17, zc_b20, zc_b31, zc_b32, zc_b60, zc_b63, zc_b64, zc_b80, zc_b127, zc_s128, zc_s140, zc_s200, zc_s255, zc_s256, zc_s400, zc_s1023, zc_s1304, zc_s4096, zc_s6000, zc_s7936, not_true_eq_false, not_false_eq_true, forall_const, false_implies, zX_s, zc_10, nI_add, false_and, and_false, eX5_readBlock, hu1]
  have hfr0 : z_fr [14] h (va_up h u (some (14, .inr (5, [.ref ai, .ref af, .ref at', .ref al, .int (nI 0), .int (nI 0)])))) := z_fr.rf.up hu1 (by decide)
  have U0 := hU.fr14 hfr0 (z_us : z_U (va_up h u (some (14, .inr (5, [.ref ai, .ref af, .ref at', .ref al, .int (nI 0), .int (nI 0)])))) u ai af at' al 0 0)
  obtain ⟨q1, q2, q3, q4, q5, q6⟩ := U0
  obtain ⟨cf, g1, g2, g3⟩ := q4.ob
  refine kX5_readBlock_14 (st := []) hG g1 (c_Fields_clear q4) (fun r7 h7 hq7 => ?_) (by omega) (by omega)
  obtain ⟨rfl, w1, w2⟩ := hq7
  have u7 : h7 u = some (14, .inr (5, [.ref ai, .ref af, .ref at', .ref al, .int (nI 0), .int (nI 0)])) := w2 _ _ _ q1 (by decide)
  have t7 := q5.fr w2 (by decide) (by decide)
  obtain ⟨ct, t1, -⟩ := t7.ob
  have hT7 := (hT2.fr hfr0 (by decide) (by decide)).fr w2 (by decide) (by decide)
  refine hG.1 _ _ _ _ _ _ _ bX5_readBlock_17 ?_
  simp only [zs_iconst, zs_bipush, zs_sipush, zs_ldc, zs_getstatic, zs_iload_n, zs_iload, zs_lload_n, zs_aload_n, zs_aload, zs_istore_n, zs_istore, zs_astore_n, zs_astore, zs_iinc, zs_iadd, zs_isub, zs_imul, zs_iand, zs_ior, zs_ishl, zs_ishr, zs_idiv, zs_irem, zs_i2l, zs_l2i, zs_i2b, zs_i2c, zs_lor, zs_land, zs_lshl, zs_lshr, zs_lushr, zs_dup, zs_dup2, zs_pop, zs_aconst_null, zs_goto, zs_if_icmp, zs_ifCond, zs_ifnull, zs_ifnonnull, zs_tableswitch, zs_getfield, zs_putfield, zs_arraylength, zs_iaload, zs_baload, zs_aaload, zs_iastore, zs_bastore, zs_aastore, zs_newarray, zs_anewarray, zs_new, zs_invokespecial, zs_invokestatic, zs_invokevirtual, zs_checkcast, zs_iushr, zs_return_, zs_ireturn, zs_areturn, zw_0, zw_1, zh_lk0, zh_lk1, zh_i1, zh_i2, zh_l2, zh_li, zh_l1, zh_r1, zh_ri, zh_rii, zh_rir, zh_rv, zh_v1, zh_v2, zh_int, zh_lng, zh_rf, zh_rfn, zh_rfs, zh_rfsn, zh_nul, zh_nuln, zh_acp, zh_sm, zh_obj, zh_row, zh_rdx, zh_rdxn, zh_rrw, zh_len, zh_lenn, zh_ocs, zh_ocn, zh_b1, zh_b10, zh_b7, zh_eq, zh_ne, zh_lt, zh_ge, zh_gt, zh_le, zh_f0, zh_f1, zh_f2, zh_f2n, zh_s, zh_m0, zh_m1, zh_li0, zh_li1, zh_li2, zh_li3, zh_ab, zh_ai, zh_az, zh_tg, zh_g0, zh_gi, zh_gr, zh_gl, zh_gn, z_f0, z_f1, z_f2, z_f3, z_us, z_uu, List.getElem?_cons_zero, List.getElem?_cons_succ, List.set_cons_zero, List.set_cons_succ, List.length_cons, List.length_nil, List.nil_append, List.cons_append, Option.toList_some, Option.toList_none, Nat.reduceAdd, Nat.reduceEqDiff, Nat.reduceLT, Nat.reduceLeDiff, ↓reduceIte, Nat.succ_ne_self, reduceCtorEq, true_and, and_true, and_self, or_false, false_or, or_true, true_or, Nat.lt_irrefl, Nat.zero_lt_succ, Nat.le_refl, Nat.zero_le, Nat.add_zero, Nat.zero_add, Nat.reduceMul, Int.cast_ofNat_Int, Int.natCast_one, Int.natCast_zero, Int.reduceAdd, Int.reduceNeg, Int.reduceToNat, Int.zero_add, Int.toNat_one, Int.toNat_zero, zc_im13, zc_im8, zc_im5, zc_im1, zc_i0, zc_i1, zc_i2, zc_i3, zc_i4, zc_i5, zc_i13, zc_bm2, zc_b6, zc_b7, zc_b8, zc_b10, zc_b12, zc_b13, zc_b16, zc_b17, zc_b20, zc_b31, zc_b32, zc_b60, zc_b63, zc_b64, zc_b80, zc_b127, zc_s128, zc_s140, zc_s200, zc_s255, zc_s256, zc_s400, zc_s1023, zc_s1304, zc_s4096, zc_s6000, zc_s7936, not_true_eq_false, not_false_eq_true, forall_const, false_implies, zX_s, zc_10, nI_add, false_and, and_false, eX5_readBlock, u7]
  refine kX5_readBlock_22 (st := []) hG t1 (c_Table_become (by decide) (by decide) t7 hT7) (fun r8 h8 hq8 => ?_) (by omega) (by omega)
  obtain ⟨rfl, y1, y2⟩ := hq8
  refine hG.1 _ _ _ _ _ _ _ bX5_readBlock_25 ?_
  simp only [zs_iconst, zs_bipush, zs_sipush, zs_ldc, zs_getstatic, zs_iload_n, zs_iload, zs_lload_n, zs_aload_n, zs_aload, zs_istore_n, zs_istore, zs_astore_n, zs_astore, zs_iinc, zs_iadd, zs_isub, zs_imul, zs_iand, zs_ior, zs_ishl, zs_ishr, zs_idiv, zs_irem, zs_i2l, zs_l2i, zs_i2b, zs_i2c, zs_lor, zs_land, zs_lshl, zs_lshr, zs_lushr, zs_dup, zs_dup2, zs_pop, zs_aconst_null, zs_goto, zs_if_icmp, zs_ifCond, zs_ifnull, zs_ifnonnull, zs_tableswitch, zs_getfield, zs_putfield, zs_arraylength, zs_iaload, zs_baload, zs_aaload, zs_iastore, zs_bastore, zs_aastore, zs_newarray, zs_anewarray, zs_new, zs_invokespecial, zs_invokestatic, zs_invokevirtual, zs_checkcast, zs_iushr, zs_return_, zs_ireturn, zs_areturn, zw_0, zw_1, zh_lk0, zh_lk1, zh_i1, zh_i2, zh_l2, zh_li, zh_l1, zh_r1, zh_ri, zh_rii, zh_rir, zh_rv, zh_v1, zh_v2, zh_int, zh_lng, zh_rf, zh_rfn, zh_rfs, zh_rfsn, zh_nul, zh_nuln, zh_acp, zh_sm, zh_obj, zh_row, zh_rdx, zh_rdxn, zh_rrw, zh_len, zh_lenn, zh_ocs, zh_ocn, zh_b1, zh_b10, zh_b7, zh_eq, zh_ne, zh_lt, zh_ge, zh_gt, zh_le, zh_f0, zh_f1, zh_f2, zh_f2n, zh_s, zh_m0, zh_m1, zh_li0, zh_li1, zh_li2, zh_li3, zh_ab, zh_ai, zh_az, zh_tg, zh_g0, zh_gi, zh_gr, zh_gl, zh_gn, z_f0, z_f1, z_f2, z_f3, z_us, z_uu, List.getElem?_cons_zero, List.getElem?_cons_succ, List.set_cons_zero, List.set_cons_succ, List.length_cons, List.length_nil, List.nil_append, List.cons_append, Option.toList_some, Option.toList_none, Nat.reduceAdd, Nat.reduceEqDiff, Nat.reduceLT, Nat.reduceLeDiff, ↓reduceIte, Nat.succ_ne_self, reduceCtorEq, true_and, and_true, and_self, or_false, false_or, or_true, true_or, Nat.lt_irrefl, Nat.zero_lt_succ, Nat.le_refl, Nat.zero_le, Nat.add_zero, Nat.zero_add, Nat.reduceMul, Int.cast_ofNat_Int, Int.natCast_one, Int.natCast_zero, Int.reduceAdd, Int.reduceNeg, Int.reduceToNat, Int.zero_add, Int.toNat_one, Int.toNat_zero, zc_im13, zc_im8, zc_im5, zc_im1, zc_i0, zc_i1, zc_i2, zc_i3, zc_i4, zc_i5, zc_i13, zc_bm2, zc_b6, zc_b7, zc_b8, zc_b10, zc_b12, zc_b13, zc_b16, zc_b17, zc_b20, zc_b31, zc_b32, zc_b60, zc_b63, zc_b64, zc_b80, zc_b127, zc_s128, zc_s140, zc_s200, zc_s255, zc_s256, zc_s400, zc_s1023, zc_s1304, zc_s4096, zc_s6000, zc_s7936, not_true_eq_false, not_false_eq_true, forall_const, false_implies, zX_s, zc_10, nI_add, false_and, and_false, eX5_readBlock]
  refine z_lvw hG [(2, .int (nI 0)), (0, .ref u)] (by simp) ?_
  refine loop 6000 0 (0, 0, [], L0, lim0) h8 _ _ _ rfl hR.symm ⟨y2 _ _ _ u7 (by decide), (q2.fr w2 (by decide)).fr y2 (by decide), (q3.fr w2 (by decide)).fr y2 (by decide), w1.fr y2 (by decide) (by decide), y1, (q6.fr w2 (by decide) (by decide)).fr y2 (by decide) (by decide)⟩ ((hfr0.mo (by decide)).tr ((w2.mo (by decide)).tr (y2.mo (by decide)))) (by simp) (by simp) (fun _ => ⟨by simp, by simp, by simp⟩) (by omega) (by omega) (by simp) rfl
