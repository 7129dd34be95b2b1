/-! THE LAW: its body -/
theorem z_frN {h0 : zH} {y : Nat} {bd : Nat → Nat} {v : Nat → Int32} {g : Nat → Nat → Int32} {c : zC} (hy : h0 y = some (30, c)) (hN : ∀ k ∈ zix, h0 (bd k) = none) : z_fr [30] h0 (z_mh h0 y bd v g) := by
  intro a t x ha ht
  have e0 : a ≠ y := by
    intro e
    rw [e, hy] at ha
    have : 30 = t := congrArg Prod.fst (Option.some.inj ha)
    exact ht (this ▸ List.mem_singleton.mpr rfl)
  have ek : ∀ k ∈ zix, a ≠ bd k := fun k hk e => by
    rw [e, hN k hk] at ha
    cases ha
  unfold z_mh
  rw [if_neg e0, if_neg (ek 1 (by decide)), if_neg (ek 2 (by decide)), if_neg (ek 3 (by decide)), if_neg (ek 8 (by decide)), if_neg (ek 10 (by decide)), if_neg (ek 12 (by decide)), if_neg (ek 13 (by decide)), if_neg (ek 14 (by decide)), if_neg (ek 15 (by decide)), if_neg (ek 18 (by decide)), if_neg (ek 20 (by decide)), if_neg (ek 24 (by decide))]
  exact ha
theorem z_In.up {h : zH} {x y : Nat} {bd : Nat → Nat} {cs sl j : Nat} (p : z_In h x y bd cs sl j) : z_In h x y bd cs sl (j + 1) := by
  obtain ⟨ad, v, g, ty, nm, F, FL, LP, lp, LQ, lq, bl, ld, bg, to, le, fp, np, nu, mT, mL, mB, mO, p, hm, q, s1, s2, r1, r2⟩ := p
  exact ⟨ad, v, g, ty, nm, F, FL, LP, lp, LQ, lq, bl, ld, bg, to, le, fp, np, nu, mT, mL, mB, mO, p, hm, q, s1, s2, by omega, by omega⟩
theorem z_In.rm {h : zH} {x y : Nat} {bd : Nat → Nat} {cs sl j : Nat} (p : z_In h x y bd cs sl j) (hj : j ≤ 512) : cs ≤ 600000 ∧ sl ≤ 7302250 := by
  obtain ⟨ad, v, g, ty, nm, F, FL, LP, lp, LQ, lq, bl, ld, bg, to, le, fp, np, nu, mT, mL, mB, mO, p, hm, q, s1, s2, r1, r2⟩ := p
  obtain ⟨⟨w1, w2, w3, w4⟩, -⟩ := p.ms
  have hpa : z_pa mT mL mB mO = z_cp 200 mT + z_cp 6000 mL + z_cp 6000 mB + z_cp 6000 mO := rfl
  omega
set_option maxRecDepth 100000 in
set_option maxHeartbeats 2000000 in
theorem z_law {l : Launch} {D : va_G} {A : Nat → Prop} {sa sv b L : Nat} {xs : Nat → Int32} {G : zK} (hR : z_LR l D A sa sv b L xs (fun r _ => r = some (.int 1)) G) (hL : L ≤ 2560) : G 0 [(0, .ref b)] [] (fun _ => none) 0 0 := by
  have hG := hR.1
  have hXb : z_Xs b L xs b = some (1, L, xs) := if_pos rfl
  have loop : ∀ (x y : Nat) (bd : Nat → Nat), z_md y bd → ∀ (r j : Nat) (h : zH) (cs sl : Nat), 5 * (r + j) ≤ L → L < 5 * (r + j) + 5 → z_In h x y bd cs sl j → G 18 [(3, .int (nI (5 * j))), (2, .ref y), (1, .ref x), (0, .ref b)] [] h cs sl := by
    intro x y bd hd r
    induction r with
    | zero =>
      intro j h cs sl e1 e2 hI
      obtain ⟨m1, m2⟩ := hI.rm (by omega)
      have hc : nI L - nI 5 < nI (5 * j) := by
        rw [Int32.lt_iff_toInt_lt, pk_sub_toInt (by omega) (by omega), nI_toInt (by omega)]
        omega
      refine hR.2.2 _ _ _ _ _ _ (fun hb0 => ?_)
      refine hG.1 _ _ _ _ _ _ _ bL_law_18 ?_
      simp only [zs_iconst, zs_bipush, zs_sipush, zs_ldc, zs_getstatic, zs_iload_n, zs_iload, zs_lload_n, zs_aload_n, zs_aload, zs_istore_n, zs_istore, zs_astore_n, zs_astore, zs_iinc, zs_iadd, zs_isub, zs_imul, zs_iand, zs_ior, zs_ishl, zs_ishr, zs_idiv, zs_irem, zs_i2l, zs_l2i, zs_i2b, zs_i2c, zs_lor, zs_land, zs_lshl, zs_lshr, zs_lushr, zs_dup, zs_dup2, zs_pop, zs_aconst_null, zs_goto, zs_if_icmp, zs_ifCond, zs_ifnull, zs_ifnonnull, zs_tableswitch, zs_getfield, zs_putfield, zs_arraylength, zs_iaload, zs_baload, zs_aaload, zs_iastore, zs_bastore, zs_aastore, zs_newarray, zs_anewarray, zs_new, zs_invokespecial, zs_invokestatic, zs_invokevirtual, zs_checkcast, zs_iushr, zs_return_, zs_ireturn, zs_areturn, zw_0, zw_1, zh_lk0, zh_lk1, zh_i1, zh_i2, zh_l2, zh_li, zh_l1, zh_r1, zh_ri, zh_rii, zh_rir, zh_rv, zh_v1, zh_v2, zh_int, zh_lng, zh_rf, zh_rfn, zh_rfs, zh_rfsn, zh_nul, zh_nuln, zh_acp, zh_sm, zh_obj, zh_row, zh_rdx, zh_rdxn, zh_rrw, zh_len, zh_lenn, zh_ocs, zh_ocn, zh_b1, zh_b10, zh_b7, zh_eq, zh_ne, zh_lt, zh_ge, zh_gt, zh_le, zh_f0, zh_f1, zh_f2, zh_f2n, zh_s, zh_m0, zh_m1, zh_li0, zh_li1, zh_li2, zh_li3, zh_ab, zh_ai, zh_az, zh_tg, zh_g0, zh_gi, zh_gr, zh_gl, zh_gn, z_f0, z_f1, z_f2, z_f3, z_us, z_uu, List.getElem?_cons_zero, List.getElem?_cons_succ, List.set_cons_zero, List.set_cons_succ, List.length_cons, List.length_nil, List.nil_append, List.cons_append, Option.toList_some, Option.toList_none, Nat.reduceAdd, Nat.reduceEqDiff, Nat.reduceLT, Nat.reduceLeDiff, ↓reduceIte, Nat.succ_ne_self, reduceCtorEq, true_and, and_true, and_self, or_false, false_or, or_true, true_or, Nat.lt_irrefl, Nat.zero_lt_succ, Nat.le_refl, Nat.zero_le, Nat.add_zero, Nat.zero_add, Nat.reduceMul, Int.cast_ofNat_Int, Int.natCast_one, Int.natCast_zero, Int.reduceAdd, Int.reduceNeg, Int.reduceToNat, Int.zero_add, Int.toNat_one, Int.toNat_zero, zc_im13, zc_im8, zc_im5, zc_im1, zc_i0, zc_i1, zc_i2, zc_i3, zc_i4, zc_i5, zc_i13, zc_bm2, zc_b6, zc_b7, zc_b8, zc_b10, zc_b12, zc_b13, zc_b16, zc_b17, zc_b20, zc_b31, zc_b32, zc_b60, zc_b63, zc_b64, zc_b80, zc_b127, zc_s128, zc_s140, zc_s200, zc_s255, zc_s256, zc_s400, zc_s1023, zc_s1304, zc_s4096, zc_s6000, zc_s7936, not_true_eq_false, not_false_eq_true, forall_const, false_implies, zX_s, zc_10, nI_add, false_and, and_false, eL_law, hXb, hb0]
      refine ⟨fun _ => ?_, fun c => absurd hc c⟩
      refine hG.1 _ _ _ _ _ _ _ bL_law_647 ?_
      simp only [zs_iconst, zs_bipush, zs_sipush, zs_ldc, zs_getstatic, zs_iload_n, zs_iload, zs_lload_n, zs_aload_n, zs_aload, zs_istore_n, zs_istore, zs_astore_n, zs_astore, zs_iinc, zs_iadd, zs_isub, zs_imul, zs_iand, zs_ior, zs_ishl, zs_ishr, zs_idiv, zs_irem, zs_i2l, zs_l2i, zs_i2b, zs_i2c, zs_lor, zs_land, zs_lshl, zs_lshr, zs_lushr, zs_dup, zs_dup2, zs_pop, zs_aconst_null, zs_goto, zs_if_icmp, zs_ifCond, zs_ifnull, zs_ifnonnull, zs_tableswitch, zs_getfield, zs_putfield, zs_arraylength, zs_iaload, zs_baload, zs_aaload, zs_iastore, zs_bastore, zs_aastore, zs_newarray, zs_anewarray, zs_new, zs_invokespecial, zs_invokestatic, zs_invokevirtual, zs_checkcast, zs_iushr, zs_return_, zs_ireturn, zs_areturn, zw_0, zw_1, zh_lk0, zh_lk1, zh_i1, zh_i2, zh_l2, zh_li, zh_l1, zh_r1, zh_ri, zh_rii, zh_rir, zh_rv, zh_v1, zh_v2, zh_int, zh_lng, zh_rf, zh_rfn, zh_rfs, zh_rfsn, zh_nul, zh_nuln, zh_acp, zh_sm, zh_obj, zh_row, zh_rdx, zh_rdxn, zh_rrw, zh_len, zh_lenn, zh_ocs, zh_ocn, zh_b1, zh_b10, zh_b7, zh_eq, zh_ne, zh_lt, zh_ge, zh_gt, zh_le, zh_f0, zh_f1, zh_f2, zh_f2n, zh_s, zh_m0, zh_m1, zh_li0, zh_li1, zh_li2, zh_li3, zh_ab, zh_ai, zh_az, zh_tg, zh_g0, zh_gi, zh_gr, zh_gl, zh_gn, z_f0, z_f1, z_f2, z_f3, z_us, z_uu, List.getElem?_cons_zero, List.getElem?_cons_succ, List.set_cons_zero, List.set_cons_succ, List.length_cons, List.length_nil, List.nil_append, List.cons_append, Option.toList_some, Option.toList_none, Nat.reduceAdd, Nat.reduceEqDiff, Nat.reduceLT, Nat.reduceLeDiff, ↓reduceIte, Nat.succ_ne_self, reduceCtorEq, true_and, and_true, and_self, or_false, false_or, or_true, true_or, Nat.lt_irrefl, Nat.zero_lt_succ, Nat.le_refl, Nat.zero_le, Nat.add_zero, Nat.zero_add, Nat.reduceMul, Int.cast_ofNat_Int, Int.natCast_one, Int.natCast_zero, Int.reduceAdd, Int.reduceNeg, Int.reduceToNat, Int.zero_add, Int.toNat_one, Int.toNat_zero, zc_im13, zc_im8, zc_im5, zc_im1, zc_i0, zc_i1, zc_i2, zc_i3, zc_i4, zc_i5, zc_i13, zc_bm2, zc_b6, zc_b7, zc_b8, zc_b10, zc_b12, zc_b13, zc_b16, zc_b17, zc_b20, zc_b31, zc_b32, zc_b60, zc_b63, zc_b64, zc_b80, zc_b127, zc_s128, zc_s140, zc_s200, zc_s255, zc_s256, zc_s400, zc_s1023, zc_s1304, zc_s4096, zc_s6000, zc_s7936, not_true_eq_false, not_false_eq_true, forall_const, false_implies, zX_s, zc_10, nI_add, false_and, and_false, eL_law]
      exact ⟨Or.inr (by decide), m1, m2, by decide⟩
    | succ r ih =>
      intro j h cs sl e1 e2 hI
      have hc : ¬ nI L - nI 5 < nI (5 * j) := by
        rw [Int32.lt_iff_toInt_lt, pk_sub_toInt (by omega) (by omega), nI_toInt (by omega)]
        omega
      have nx : ∀ h2 cs2 sl2, z_In h2 x y bd cs2 sl2 (j + 1) → G 641 [(3, .int (nI (5 * j))), (2, .ref y), (1, .ref x), (0, .ref b)] [] h2 cs2 sl2 := by
        intro h2 cs2 sl2 hI2
        refine hG.1 _ _ _ _ _ _ _ bL_law_641 ?_
        simp only [zs_iconst, zs_bipush, zs_sipush, zs_ldc, zs_getstatic, zs_iload_n, zs_iload, zs_lload_n, zs_aload_n, zs_aload, zs_istore_n, zs_istore, zs_astore_n, zs_astore, zs_iinc, zs_iadd, zs_isub, zs_imul, zs_iand, zs_ior, zs_ishl, zs_ishr, zs_idiv, zs_irem, zs_i2l, zs_l2i, zs_i2b, zs_i2c, zs_lor, zs_land, zs_lshl, zs_lshr, zs_lushr, zs_dup, zs_dup2, zs_pop, zs_aconst_null, zs_goto, zs_if_icmp, zs_ifCond, zs_ifnull, zs_ifnonnull, zs_tableswitch, zs_getfield, zs_putfield, zs_arraylength, zs_iaload, zs_baload, zs_aaload, zs_iastore, zs_bastore, zs_aastore, zs_newarray, zs_anewarray, zs_new, zs_invokespecial, zs_invokestatic, zs_invokevirtual, zs_checkcast, zs_iushr, zs_return_, zs_ireturn, zs_areturn, zw_0, zw_1, zh_lk0, zh_lk1, zh_i1, zh_i2, zh_l2, zh_li, zh_l1, zh_r1, zh_ri, zh_rii, zh_rir, zh_rv, zh_v1, zh_v2, zh_int, zh_lng, zh_rf, zh_rfn, zh_rfs, zh_rfsn, zh_nul, zh_nuln, zh_acp, zh_sm, zh_obj, zh_row, zh_rdx, zh_rdxn, zh_rrw, zh_len, zh_lenn, zh_ocs, zh_ocn, zh_b1, zh_b10, zh_b7, zh_eq, zh_ne, zh_lt, zh_ge, zh_gt, zh_le, zh_f0, zh_f1, zh_f2, zh_f2n, zh_s, zh_m0, zh_m1, zh_li0, zh_li1, zh_li2, zh_li3, zh_ab, zh_ai, zh_az, zh_tg, zh_g0, zh_gi, zh_gr, zh_gl, zh_gn, z_f0, z_f1, z_f2, z_f3, z_us, z_uu, List.getElem?_cons_zero, List.getElem?_cons_succ, List.set_cons_zero, List.set_cons_succ, List.length_cons, List.length_nil, List.nil_append, List.cons_append, Option.toList_some, Option.toList_none, Nat.reduceAdd, Nat.reduceEqDiff, Nat.reduceLT, Nat.reduceLeDiff, ↓reduceIte, Nat.succ_ne_self, reduceCtorEq, true_and, and_true, and_self, or_false, false_or, or_true, true_or, Nat.lt_irrefl, Nat.zero_lt_succ, Nat.le_refl, Nat.zero_le, Nat.add_zero, Nat.zero_add, Nat.reduceMul, Int.cast_ofNat_Int, Int.natCast_one, Int.natCast_zero, Int.reduceAdd, Int.reduceNeg, Int.reduceToNat, Int.zero_add, Int.toNat_one, Int.toNat_zero, zc_im13, zc_im8, zc_im5, zc_im1, zc_i0, zc_i1, zc_i2, zc_i3, zc_i4, zc_i5, zc_i13, zc_bm2, zc_b6, zc_b7, zc_b8, zc_b10, zc_b12, zc_b13, zc_b16, zc_b17, zc_b20, zc_b31, zc_b32, zc_b60, zc_b63, zc_b64, zc_b80, zc_b127, zc_s128, zc_s140, zc_s200, zc_s255, zc_s256, zc_s400, zc_s1023, zc_s1304, zc_s4096, zc_s6000, zc_s7936, not_true_eq_false, not_false_eq_true, forall_const, false_implies, zX_s, zc_10, nI_add, false_and, and_false, eL_law]
        refine z_lvw hG [(3, .int (nI (5 * (j + 1)))), (2, .ref y), (1, .ref x), (0, .ref b)] (by simp [Nat.mul_add]) ?_
        exact ih (j + 1) h2 cs2 sl2 (by omega) (by omega) hI2
      refine hR.2.2 _ _ _ _ _ _ (fun hb0 => ?_)
      refine hG.1 _ _ _ _ _ _ _ bL_law_18 ?_
      simp only [zs_iconst, zs_bipush, zs_sipush, zs_ldc, zs_getstatic, zs_iload_n, zs_iload, zs_lload_n, zs_aload_n, zs_aload, zs_istore_n, zs_istore, zs_astore_n, zs_astore, zs_iinc, zs_iadd, zs_isub, zs_imul, zs_iand, zs_ior, zs_ishl, zs_ishr, zs_idiv, zs_irem, zs_i2l, zs_l2i, zs_i2b, zs_i2c, zs_lor, zs_land, zs_lshl, zs_lshr, zs_lushr, zs_dup, zs_dup2, zs_pop, zs_aconst_null, zs_goto, zs_if_icmp, zs_ifCond, zs_ifnull, zs_ifnonnull, zs_tableswitch, zs_getfield, zs_putfield, zs_arraylength, zs_iaload, zs_baload, zs_aaload, zs_iastore, zs_bastore, zs_aastore, zs_newarray, zs_anewarray, zs_new, zs_invokespecial, zs_invokestatic, zs_invokevirtual, zs_checkcast, zs_iushr, zs_return_, zs_ireturn, zs_areturn, zw_0, zw_1, zh_lk0, zh_lk1, zh_i1, zh_i2, zh_l2, zh_li, zh_l1, zh_r1, zh_ri, zh_rii, zh_rir, zh_rv, zh_v1, zh_v2, zh_int, zh_lng, zh_rf, zh_rfn, zh_rfs, zh_rfsn, zh_nul, zh_nuln, zh_acp, zh_sm, zh_obj, zh_row, zh_rdx, zh_rdxn, zh_rrw, zh_len, zh_lenn, zh_ocs, zh_ocn, zh_b1, zh_b10, zh_b7, zh_eq, zh_ne, zh_lt, zh_ge, zh_gt, zh_le, zh_f0, zh_f1, zh_f2, zh_f2n, zh_s, zh_m0, zh_m1, zh_li0, zh_li1, zh_li2, zh_li3, zh_ab, zh_ai, zh_az, zh_tg, zh_g0, zh_gi, zh_gr, zh_gl, zh_gn, z_f0, z_f1, z_f2, z_f3, z_us, z_uu, List.getElem?_cons_zero, List.getElem?_cons_succ, List.set_cons_zero, List.set_cons_succ, List.length_cons, List.length_nil, List.nil_append, List.cons_append, Option.toList_some, Option.toList_none, Nat.reduceAdd, Nat.reduceEqDiff, Nat.reduceLT, Nat.reduceLeDiff, ↓reduceIte, Nat.succ_ne_self, reduceCtorEq, true_and, and_true, and_self, or_false, false_or, or_true, true_or, Nat.lt_irrefl, Nat.zero_lt_succ, Nat.le_refl, Nat.zero_le, Nat.add_zero, Nat.zero_add, Nat.reduceMul, Int.cast_ofNat_Int, Int.natCast_one, Int.natCast_zero, Int.reduceAdd, Int.reduceNeg, Int.reduceToNat, Int.zero_add, Int.toNat_one, Int.toNat_zero, zc_im13, zc_im8, zc_im5, zc_im1, zc_i0, zc_i1, zc_i2, zc_i3, zc_i4, zc_i5, zc_i13, zc_bm2, zc_b6, zc_b7, zc_b8, zc_b10, zc_b12, zc_b13, zc_b16, zc_b17, zc_b20, zc_b31, zc_b32, zc_b60, zc_b63, zc_b64, zc_b80, zc_b127, zc_s128, zc_s140, zc_s200, zc_s255, zc_s256, zc_s400, zc_s1023, zc_s1304, zc_s4096, zc_s6000, zc_s7936, not_true_eq_false, not_false_eq_true, forall_const, false_implies, zX_s, zc_10, nI_add, false_and, and_false, eL_law, hXb, hb0, nI_clamp (show 5 * j < 2 ^ 31 by omega), eq_true (vp_in_nI (show 5 * j < L by omega) (by omega))]
      refine ⟨fun c => absurd c hc, fun _ => ⟨?_, fun _ => ?_⟩⟩
      · rintro ⟨k, hk⟩ e
        match k, hk, e with
        | 0, _, _ =>
          show G 124 _ _ _ _ _
          exact o_type hR hd hI (by omega) hL nx
        | 1, _, _ =>
          show G 187 _ _ _ _ _
          exact o_name hR hd hI (by omega) hL nx
        | 2, _, _ =>
          show G 200 _ _ _ _ _
          exact o_fixed hR hd hI (by omega) hL nx
        | 3, _, _ =>
          show G 213 _ _ _ _ _
          exact o_field hR hd hI (by omega) hL nx
        | 4, _, _ =>
          show G 236 _ _ _ _ _
          exact o_drop hR hd hI (by omega) hL nx
        | 5, _, _ =>
          show G 249 _ _ _ _ _
          exact o_limit hR hd hI (by omega) hL nx
        | 6, _, _ =>
          show G 272 _ _ _ _ _
          exact o_pack hR hd hI (by omega) hL nx
        | 7, _, _ =>
          show G 285 _ _ _ _ _
          exact o_packed hR hd hI (by omega) hL nx
        | 8, _, _ =>
          show G 308 _ _ _ _ _
          exact o_load hR hd hI (by omega) hL nx
        | 9, _, _ =>
          show G 371 _ _ _ _ _
          exact o_loop hR hd hI (by omega) hL nx
        | 10, _, _ =>
          show G 384 _ _ _ _ _
          exact o_unpack hR hd hI (by omega) hL nx
        | 11, _, _ =>
          show G 397 _ _ _ _ _
          exact o_place hR hd hI (by omega) hL nx
        | 12, _, _ =>
          show G 410 _ _ _ _ _
          exact o_about hR hd hI (by omega) hL nx
        | 13, _, _ =>
          show G 443 _ _ _ _ _
          exact o_byteOf hR hd hI (by omega) hL nx
        | 14, _, _ =>
          show G 486 _ _ _ _ _
          exact o_table hR hd hI (by omega) hL nx
        | 15, _, _ =>
          show G 519 _ _ _ _ _
          exact o_entry hR hd hI (by omega) hL nx
        | 16, _, _ =>
          show G 552 _ _ _ _ _
          exact o_entryByte hR hd hI (by omega) hL nx
        | 17, _, _ =>
          show G 605 _ _ _ _ _
          exact o_count hR hd hI (by omega) hL nx
        | 18, _, _ =>
          show G 628 _ _ _ _ _
          exact o_check hR hd hI (by omega) hL nx
        | k + 19, hk, _ => exact absurd (show k + 19 < 19 from hk) (by omega)
      · exact nx h cs sl hI.up
  refine hG.1 _ _ _ _ _ _ _ bL_law_0 ?_
  simp only [zs_iconst, zs_bipush, zs_sipush, zs_ldc, zs_getstatic, zs_iload_n, zs_iload, zs_lload_n, zs_aload_n, zs_aload, zs_istore_n, zs_istore, zs_astore_n, zs_astore, zs_iinc, zs_iadd, zs_isub, zs_imul, zs_iand, zs_ior, zs_ishl, zs_ishr, zs_idiv, zs_irem, zs_i2l, zs_l2i, zs_i2b, zs_i2c, zs_lor, zs_land, zs_lshl, zs_lshr, zs_lushr, zs_dup, zs_dup2, zs_pop, zs_aconst_null, zs_goto, zs_if_icmp, zs_ifCond, zs_ifnull, zs_ifnonnull, zs_tableswitch, zs_getfield, zs_putfield, zs_arraylength, zs_iaload, zs_baload, zs_aaload, zs_iastore, zs_bastore, zs_aastore, zs_newarray, zs_anewarray, zs_new, zs_invokespecial, zs_invokestatic, zs_invokevirtual, zs_checkcast, zs_iushr, zs_return_, zs_ireturn, zs_areturn, zw_0, zw_1, zh_lk0, zh_lk1, zh_i1, zh_i2, zh_l2, zh_li, zh_l1, zh_r1, zh_ri, zh_rii, zh_rir, zh_rv, zh_v1, zh_v2, zh_int, zh_lng, zh_rf, zh_rfn, zh_rfs, zh_rfsn, zh_nul, zh_nuln, zh_acp, zh_sm, zh_obj, zh_row, zh_rdx, zh_rdxn, zh_rrw, zh_len, zh_lenn, zh_ocs, zh_ocn, zh_b1, zh_b10, zh_b7, zh_eq, zh_ne, zh_lt, zh_ge, zh_gt, zh_le, zh_f0, zh_f1, zh_f2, zh_f2n, zh_s, zh_m0, zh_m1, zh_li0, zh_li1, zh_li2, zh_li3, zh_ab, zh_ai, zh_az, zh_tg, zh_g0, zh_gi, zh_gr, zh_gl, zh_gn, z_f0, z_f1, z_f2, z_f3, z_us, z_uu, List.getElem?_cons_zero, List.getElem?_cons_succ, List.set_cons_zero, List.set_cons_succ, List.length_cons, List.length_nil, List.nil_append, List.cons_append, Option.toList_some, Option.toList_none, Nat.reduceAdd, Nat.reduceEqDiff, Nat.reduceLT, Nat.reduceLeDiff, ↓reduceIte, Nat.succ_ne_self, reduceCtorEq, true_and, and_true, and_self, or_false, false_or, or_true, true_or, Nat.lt_irrefl, Nat.zero_lt_succ, Nat.le_refl, Nat.zero_le, Nat.add_zero, Nat.zero_add, Nat.reduceMul, Int.cast_ofNat_Int, Int.natCast_one, Int.natCast_zero, Int.reduceAdd, Int.reduceNeg, Int.reduceToNat, Int.zero_add, Int.toNat_one, Int.toNat_zero, zc_im13, zc_im8, zc_im5, zc_im1, zc_i0, zc_i1, zc_i2, zc_i3, zc_i4, zc_i5, zc_i13, zc_bm2, zc_b6, zc_b7, zc_b8, zc_b10, zc_b12, zc_b13, zc_b16, zc_b17, zc_b20, zc_b31, zc_b32, zc_b60, zc_b63, zc_b64, zc_b80, zc_b127, zc_s128, zc_s140, zc_s200, zc_s255, zc_s256, zc_s400, zc_s1023, zc_s1304, zc_s4096, zc_s6000, zc_s7936, not_true_eq_false, not_false_eq_true, forall_const, false_implies, zX_s, zc_10, nI_add, false_and, and_false, eL_law]
  refine ⟨by decide, 12, fun x => ?_⟩
  refine kL_law_4 (b := x) hG (c_FP_init z_us) (fun r1 h1 hq => ?_) (by decide) (by decide)
  obtain ⟨rfl, ad, p, f⟩ := hq
  refine hG.1 _ _ _ _ _ _ _ bL_law_7 ?_
  simp only [zs_iconst, zs_bipush, zs_sipush, zs_ldc, zs_getstatic, zs_iload_n, zs_iload, zs_lload_n, zs_aload_n, zs_aload, zs_istore_n, zs_istore, zs_astore_n, zs_astore, zs_iinc, zs_iadd, zs_isub, zs_imul, zs_iand, zs_ior, zs_ishl, zs_ishr, zs_idiv, zs_irem, zs_i2l, zs_l2i, zs_i2b, zs_i2c, zs_lor, zs_land, zs_lshl, zs_lshr, zs_lushr, zs_dup, zs_dup2, zs_pop, zs_aconst_null, zs_goto, zs_if_icmp, zs_ifCond, zs_ifnull, zs_ifnonnull, zs_tableswitch, zs_getfield, zs_putfield, zs_arraylength, zs_iaload, zs_baload, zs_aaload, zs_iastore, zs_bastore, zs_aastore, zs_newarray, zs_anewarray, zs_new, zs_invokespecial, zs_invokestatic, zs_invokevirtual, zs_checkcast, zs_iushr, zs_return_, zs_ireturn, zs_areturn, zw_0, zw_1, zh_lk0, zh_lk1, zh_i1, zh_i2, zh_l2, zh_li, zh_l1, zh_r1, zh_ri, zh_rii, zh_rir, zh_rv, zh_v1, zh_v2, zh_int, zh_lng, zh_rf, zh_rfn, zh_rfs, zh_rfsn, zh_nul, zh_nuln, zh_acp, zh_sm, zh_obj, zh_row, zh_rdx, zh_rdxn, zh_rrw, zh_len, zh_lenn, zh_ocs, zh_ocn, zh_b1, zh_b10, zh_b7, zh_eq, zh_ne, zh_lt, zh_ge, zh_gt, zh_le, zh_f0, zh_f1, zh_f2, zh_f2n, zh_s, zh_m0, zh_m1, zh_li0, zh_li1, zh_li2, zh_li3, zh_ab, zh_ai, zh_az, zh_tg, zh_g0, zh_gi, zh_gr, zh_gl, zh_gn, z_f0, z_f1, z_f2, z_f3, z_us, z_uu, List.getElem?_cons_zero, List.getElem?_cons_succ, List.set_cons_zero, List.set_cons_succ, List.length_cons, List.length_nil, List.nil_append, List.cons_append, Option.toList_some, Option.toList_none, Nat.reduceAdd, Nat.reduceEqDiff, Nat.reduceLT, Nat.reduceLeDiff, ↓reduceIte, Nat.succ_ne_self, reduceCtorEq, true_and, and_true, and_self, or_false, false_or, or_true, true_or, Nat.lt_irrefl, Nat.zero_lt_succ, Nat.le_refl, Nat.zero_le, Nat.add_zero, Nat.zero_add, Nat.reduceMul, Int.cast_ofNat_Int, Int.natCast_one, Int.natCast_zero, Int.reduceAdd, Int.reduceNeg, Int.reduceToNat, Int.zero_add, Int.toNat_one, Int.toNat_zero, zc_im13, zc_im8, zc_im5, zc_im1, zc_i0, zc_i1, zc_i2, zc_i3, zc_i4, zc_i5, zc_i13, zc_bm2, zc_b6, zc_b7, zc_b8, zc_b10, zc_b12, zc_b13, zc_b16, zc_b17, zc_b20, zc_b31, zc_b32, zc_b60, zc_b63, zc_b64, zc_b80, zc_b127, zc_s128, zc_s140, zc_s200, zc_s255, zc_s256, zc_s400, zc_s1023, zc_s1304, zc_s4096, zc_s6000, zc_s7936, not_true_eq_false, not_false_eq_true, forall_const, false_implies, zX_s, zc_10, nI_add, false_and, and_false, eL_law]
  refine ⟨by decide, 30, fun y hy => ?_⟩
  refine kL_law_12 (b := y) hG (c_M_init z_us) (fun r2 h2 hq => ?_) (by decide) (by decide)
  obtain ⟨rfl, bd, v, g, hh, hd, hN, k0, q⟩ := hq
  have p1 := (p.fr ((z_fr.rf (C := [])).nw hy) (by simp)).fr (z_frN (v := v) (g := g) z_us hN) (by decide)
  rw [hh]
  refine hG.1 _ _ _ _ _ _ _ bL_law_15 ?_
  simp only [zs_iconst, zs_bipush, zs_sipush, zs_ldc, zs_getstatic, zs_iload_n, zs_iload, zs_lload_n, zs_aload_n, zs_aload, zs_istore_n, zs_istore, zs_astore_n, zs_astore, zs_iinc, zs_iadd, zs_isub, zs_imul, zs_iand, zs_ior, zs_ishl, zs_ishr, zs_idiv, zs_irem, zs_i2l, zs_l2i, zs_i2b, zs_i2c, zs_lor, zs_land, zs_lshl, zs_lshr, zs_lushr, zs_dup, zs_dup2, zs_pop, zs_aconst_null, zs_goto, zs_if_icmp, zs_ifCond, zs_ifnull, zs_ifnonnull, zs_tableswitch, zs_getfield, zs_putfield, zs_arraylength, zs_iaload, zs_baload, zs_aaload, zs_iastore, zs_bastore, zs_aastore, zs_newarray, zs_anewarray, zs_new, zs_invokespecial, zs_invokestatic, zs_invokevirtual, zs_checkcast, zs_iushr, zs_return_, zs_ireturn, zs_areturn, zw_0, zw_1, zh_lk0, zh_lk1, zh_i1, zh_i2, zh_l2, zh_li, zh_l1, zh_r1, zh_ri, zh_rii, zh_rir, zh_rv, zh_v1, zh_v2, zh_int, zh_lng, zh_rf, zh_rfn, zh_rfs, zh_rfsn, zh_nul, zh_nuln, zh_acp, zh_sm, zh_obj, zh_row, zh_rdx, zh_rdxn, zh_rrw, zh_len, zh_lenn, zh_ocs, zh_ocn, zh_b1, zh_b10, zh_b7, zh_eq, zh_ne, zh_lt, zh_ge, zh_gt, zh_le, zh_f0, zh_f1, zh_f2, zh_f2n, zh_s, zh_m0, zh_m1, zh_li0, zh_li1, zh_li2, zh_li3, zh_ab, zh_ai, zh_az, zh_tg, zh_g0, zh_gi, zh_gr, zh_gl, zh_gn, z_f0, z_f1, z_f2, z_f3, z_us, z_uu, List.getElem?_cons_zero, List.getElem?_cons_succ, List.set_cons_zero, List.set_cons_succ, List.length_cons, List.length_nil, List.nil_append, List.cons_append, Option.toList_some, Option.toList_none, Nat.reduceAdd, Nat.reduceEqDiff, Nat.reduceLT, Nat.reduceLeDiff, ↓reduceIte, Nat.succ_ne_self, reduceCtorEq, true_and, and_true, and_self, or_false, false_or, or_true, true_or, Nat.lt_irrefl, Nat.zero_lt_succ, Nat.le_refl, Nat.zero_le, Nat.add_zero, Nat.zero_add, Nat.reduceMul, Int.cast_ofNat_Int, Int.natCast_one, Int.natCast_zero, Int.reduceAdd, Int.reduceNeg, Int.reduceToNat, Int.zero_add, Int.toNat_one, Int.toNat_zero, zc_im13, zc_im8, zc_im5, zc_im1, zc_i0, zc_i1, zc_i2, zc_i3, zc_i4, zc_i5, zc_i13, zc_bm2, zc_b6, zc_b7, zc_b8, zc_b10, zc_b12, zc_b13, zc_b16, zc_b17, zc_b20, zc_b31, zc_b32, zc_b60, zc_b63, zc_b64, zc_b80, zc_b127, zc_s128, zc_s140, zc_s200, zc_s255, zc_s256, zc_s400, zc_s1023, zc_s1304, zc_s4096, zc_s6000, zc_s7936, not_true_eq_false, not_false_eq_true, forall_const, false_implies, zX_s, zc_10, nI_add, false_and, and_false, eL_law]
  refine z_lvw hG [(3, .int (nI (5 * 0))), (2, .ref y), (1, .ref x), (0, .ref b)] (by simp) ?_
  refine loop x y bd hd (L / 5) 0 _ _ _ (by omega) (by omega) ⟨ad, v, g, [], [], [], [], [], 256, [], 256, [], [], false, 256, 256, -1, 0, 0, 0, 0, 0, 0, p1, z_mh_id.symm, q, by decide, by decide, ?_, ?_⟩
  · omega
  · have z6 : z_N 6 = 16 := rfl
    have z7 : z_N 7 = 31 := rfl
    omega
