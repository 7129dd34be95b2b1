/-! J3_checkIndex_8e157 -/
abbrev eJ3_checkIndex_8e157 : zE := ([], [], [], [], 1)
set_option maxRecDepth 20000 in
theorem okJ3_checkIndex_8e157 : z_EOK wsJ3_checkIndex_8e157 RJ3 0 0 false eJ3_checkIndex_8e157 := z_EOK.of (by decide +kernel)
theorem lcJ3_checkIndex_8e157 {sa sv : Nat} {A : Nat → Prop} (U : State) (_ : z_cn sa sv A U) : z_lcOK RJ3 wsJ3_checkIndex_8e157 A U eJ3_checkIndex_8e157.2.1 := fun _ h => absurd h List.not_mem_nil
theorem mJ3_checkIndex_8e157 {l : Launch} {D : va_G} {A : Nat → Prop} {sa sv mc ms : Nat} {as : List Value} {h : zH} {Post : Option Value → zH → Prop} (hnl : (lg_sl as).length ≤ 3) (body : ∀ G : zK, z_Rl l D A sa sv cJ3_checkIndex_8e157 3 0 0 mc ms RJ3 wsJ3_checkIndex_8e157 eJ3_checkIndex_8e157 (z_X sv) Post G → h sv = none → G 0 (lv_args 0 as) [] h 0 0) : z_Met l D A sa sv yJ3_checkIndex_8e157 wsJ3_checkIndex_8e157 0 0 as h Post mc ms := z_meth (ini := false) (by decide +kernel) rfl okJ3_checkIndex_8e157 lcJ3_checkIndex_8e157 (by trivial) (by decide) hnl body
theorem bJ3_checkIndex_8e157_0 : z_cd cJ3_checkIndex_8e157 0 [(.iload_n 0, 1), (.ifCond .lt 8, 3), (.iload_n 0, 1), (.iload_n 1, 1), (.if_icmp .lt 10, 3)] = true := by decide +kernel
theorem bJ3_checkIndex_8e157_9 : z_cd cJ3_checkIndex_8e157 9 [(.aload_n 2, 1), (.iload_n 0, 1), (.iload_n 1, 1)] = true := by decide +kernel
theorem bJ3_checkIndex_8e157_16 : z_cd cJ3_checkIndex_8e157 16 [(.iload_n 0, 1), (.ireturn, 1)] = true := by decide +kernel
-- no row for the call at 12

/-! J0_checkIndex_df160 -/
abbrev eJ0_checkIndex_df160 : zE := ([], [], [], [(201053, 4)], 0)
set_option maxRecDepth 20000 in
theorem okJ0_checkIndex_df160 : z_EOK wsJ0_checkIndex_df160 RJ0 1 22 false eJ0_checkIndex_df160 := z_EOK.of (by decide +kernel)
theorem lcJ0_checkIndex_df160 {sa sv : Nat} {A : Nat → Prop} (U : State) (_ : z_cn sa sv A U) : z_lcOK RJ0 wsJ0_checkIndex_df160 A U eJ0_checkIndex_df160.2.1 := fun _ h => absurd h List.not_mem_nil
theorem mJ0_checkIndex_df160 {l : Launch} {D : va_G} {A : Nat → Prop} {sa sv mc ms : Nat} {as : List Value} {h : zH} {Post : Option Value → zH → Prop} (hnl : (lg_sl as).length ≤ 2) (body : ∀ G : zK, z_Rl l D A sa sv cJ0_checkIndex_df160 2 1 22 mc ms RJ0 wsJ0_checkIndex_df160 eJ0_checkIndex_df160 (z_X sv) Post G → h sv = none → G 0 (lv_args 0 as) [] h 0 0) : z_Met l D A sa sv yJ0_checkIndex_df160 wsJ0_checkIndex_df160 1 22 as h Post mc ms := z_meth (ini := false) (by decide +kernel) rfl okJ0_checkIndex_df160 lcJ0_checkIndex_df160 (by trivial) (by decide) hnl body
theorem bJ0_checkIndex_df160_0 : z_cd cJ0_checkIndex_df160 0 [(.iload_n 0, 1), (.iload_n 1, 1), (.getstatic 1053, 3)] = true := by decide +kernel
theorem bJ0_checkIndex_df160_8 : z_cd cJ0_checkIndex_df160 8 [(.pop, 1), (.return_, 1)] = true := by decide +kernel
set_option maxRecDepth 20000 in
theorem kJ0_checkIndex_df160_5 {l : Launch} {D : va_G} {A : Nat → Prop} {sa sv mc ms : Nat} {X : Nat → Option (Nat × Nat × (Nat → Int32))} {Post : Option Value → zH → Prop} {G : zK} (hG : z_Rl l D A sa sv cJ0_checkIndex_df160 2 1 22 mc ms RJ0 wsJ0_checkIndex_df160 eJ0_checkIndex_df160 X Post G) {lv : zL} {st : List Value} {h : zH} {cs sl : Nat} {Post2 : Option Value → zH → Prop} {mc2 ms2 : Nat} {v1 v2 v3 : Value} (hM : z_Met l D A sa sv yJ3_checkIndex_8e157 wsJ3_checkIndex_8e157 0 0 [v1, v2, v3] h Post2 mc2 ms2) (kk : ∀ (r : Option Value) (h2 : zH), Post2 r h2 → G 8 lv (r.toList ++ st) h2 (cs + mc2) (sl + ms2)) (h1 : cs + mc2 ≤ mc) (h2 : sl + ms2 ≤ ms) (h3 : (st.map fun v => v.category).sum ≤ 8 := by exact Nat.le_of_ble_eq_true rfl) : G 5 lv (v3 :: v2 :: v1 :: st) h cs sl := hG.2.2.1 5 1059 yJ3_checkIndex_8e157 wsJ3_checkIndex_8e157 _ _ _ _ 3 0 0 dJ0_checkIndex_df160_5 gJ0_checkIndex_df160_J3_checkIndex_8e157 rfl (by decide +kernel) (by decide) lv st h cs sl [v1, v2, v3] Post2 mc2 ms2 rfl hM h1 h2 h3 kk

/-! J0_isLatin1_aae02 -/
abbrev eJ0_isLatin1_aae02 (sa sv : Nat) : zE := ([], [(100038, .int 1), (200015, .int 0), (300000, .ref sa)], [], [], 2)
set_option maxRecDepth 20000 in
theorem okJ0_isLatin1_aae02 (sa sv : Nat) : z_EOK wsJ0_isLatin1_aae02 RJ0 0 0 false (eJ0_isLatin1_aae02 sa sv) := by
  have h : z_EOK wsJ0_isLatin1_aae02 RJ0 0 0 false (eJ0_isLatin1_aae02 0 0) := z_EOK.of (by decide +kernel)
  exact h
set_option maxRecDepth 20000 in
theorem lcJ0_isLatin1_aae02 {sa sv : Nat} {A : Nat → Prop} (U : State) (hc : z_cn sa sv A U) : z_lcOK RJ0 wsJ0_isLatin1_aae02 A U (eJ0_isLatin1_aae02 sa sv).2.1 := fun q h => by
  rcases (List.mem_cons.mp h).imp_right (fun h => (List.mem_cons.mp h).imp_right List.mem_singleton.mp) with rfl | rfl | rfl
  · exact Or.inr (Or.inr (Or.inl ⟨38, _, _, _, rfl, by decide, hc.2.2.2.1, by decide +kernel⟩))
  · exact Or.inr (Or.inr (Or.inr (Or.inl ⟨15, sa, _, _, rfl, by decide, rfl, (hc.2.2.1.1 0 (by decide)).2.1, by decide +kernel⟩)))
  · exact Or.inr (Or.inr (Or.inr (Or.inr rfl)))
theorem mJ0_isLatin1_aae02 {l : Launch} {D : va_G} {A : Nat → Prop} {sa sv mc ms : Nat} {as : List Value} {h : zH} {Post : Option Value → zH → Prop} (hnl : (lg_sl as).length ≤ 1) (body : ∀ G : zK, z_Rl l D A sa sv cJ0_isLatin1_aae02 1 0 0 mc ms RJ0 wsJ0_isLatin1_aae02 (eJ0_isLatin1_aae02 sa sv) (z_X sv) Post G → h sv = none → G 0 (lv_args 0 as) [] h 0 0) : z_Met l D A sa sv yJ0_isLatin1_aae02 wsJ0_isLatin1_aae02 0 0 as h Post mc ms := z_meth (ini := false) (by decide +kernel) rfl (okJ0_isLatin1_aae02 sa sv) lcJ0_isLatin1_aae02 (by trivial) (by decide) hnl body
theorem bJ0_isLatin1_aae02_0 : z_cd cJ0_isLatin1_aae02 0 [(.getstatic 38, 3), (.ifCond .eq 14, 3), (.aload_n 0, 1), (.getfield 15, 3), (.ifCond .ne 7, 3), (.iconst 1, 1), (.goto 4, 3)] = true := by decide +kernel
theorem bJ0_isLatin1_aae02_17 : z_cd cJ0_isLatin1_aae02 17 [(.iconst 0, 1)] = true := by decide +kernel
theorem bJ0_isLatin1_aae02_18 : z_cd cJ0_isLatin1_aae02 18 [(.ireturn, 1)] = true := by decide +kernel

/-! J0_coder_7d493 -/
abbrev eJ0_coder_7d493 (sa sv : Nat) : zE := ([], [(100038, .int 1), (200015, .int 0), (300000, .ref sa)], [], [], 5)
set_option maxRecDepth 20000 in
theorem okJ0_coder_7d493 (sa sv : Nat) : z_EOK wsJ0_coder_7d493 RJ0 0 0 false (eJ0_coder_7d493 sa sv) := by
  have h : z_EOK wsJ0_coder_7d493 RJ0 0 0 false (eJ0_coder_7d493 0 0) := z_EOK.of (by decide +kernel)
  exact h
set_option maxRecDepth 20000 in
theorem lcJ0_coder_7d493 {sa sv : Nat} {A : Nat → Prop} (U : State) (hc : z_cn sa sv A U) : z_lcOK RJ0 wsJ0_coder_7d493 A U (eJ0_coder_7d493 sa sv).2.1 := fun q h => by
  rcases (List.mem_cons.mp h).imp_right (fun h => (List.mem_cons.mp h).imp_right List.mem_singleton.mp) with rfl | rfl | rfl
  · exact Or.inr (Or.inr (Or.inl ⟨38, _, _, _, rfl, by decide, hc.2.2.2.1, by decide +kernel⟩))
  · exact Or.inr (Or.inr (Or.inr (Or.inl ⟨15, sa, _, _, rfl, by decide, rfl, (hc.2.2.1.1 0 (by decide)).2.1, by decide +kernel⟩)))
  · exact Or.inr (Or.inr (Or.inr (Or.inr rfl)))
theorem mJ0_coder_7d493 {l : Launch} {D : va_G} {A : Nat → Prop} {sa sv mc ms : Nat} {as : List Value} {h : zH} {Post : Option Value → zH → Prop} (hnl : (lg_sl as).length ≤ 1) (body : ∀ G : zK, z_Rl l D A sa sv cJ0_coder_7d493 1 0 0 mc ms RJ0 wsJ0_coder_7d493 (eJ0_coder_7d493 sa sv) (z_X sv) Post G → h sv = none → G 0 (lv_args 0 as) [] h 0 0) : z_Met l D A sa sv yJ0_coder_7d493 wsJ0_coder_7d493 0 0 as h Post mc ms := z_meth (ini := false) (by decide +kernel) rfl (okJ0_coder_7d493 sa sv) lcJ0_coder_7d493 (by trivial) (by decide) hnl body
theorem bJ0_coder_7d493_0 : z_cd cJ0_coder_7d493 0 [(.getstatic 38, 3), (.ifCond .eq 10, 3), (.aload_n 0, 1), (.getfield 15, 3), (.goto 4, 3)] = true := by decide +kernel
theorem bJ0_coder_7d493_13 : z_cd cJ0_coder_7d493 13 [(.iconst 1, 1)] = true := by decide +kernel
theorem bJ0_coder_7d493_14 : z_cd cJ0_coder_7d493 14 [(.ireturn, 1)] = true := by decide +kernel

/-! J0_length_8abf5 -/
abbrev eJ0_length_8abf5 (sa sv : Nat) : zE := ([], [(200009, .ref sv), (300000, .ref sa)], [], [], 1)
set_option maxRecDepth 20000 in
theorem okJ0_length_8abf5 (sa sv : Nat) : z_EOK wsJ0_length_8abf5 RJ0 1 20 false (eJ0_length_8abf5 sa sv) := by
  have h : z_EOK wsJ0_length_8abf5 RJ0 1 20 false (eJ0_length_8abf5 0 0) := z_EOK.of (by decide +kernel)
  exact h
set_option maxRecDepth 20000 in
theorem lcJ0_length_8abf5 {sa sv : Nat} {A : Nat → Prop} (U : State) (hc : z_cn sa sv A U) : z_lcOK RJ0 wsJ0_length_8abf5 A U (eJ0_length_8abf5 sa sv).2.1 := fun q h => by
  rcases (List.mem_cons.mp h).imp_right List.mem_singleton.mp with rfl | rfl
  · exact Or.inr (Or.inr (Or.inr (Or.inl ⟨9, sa, _, _, rfl, by decide, rfl, (hc.2.2.1.1 0 (by decide)).2.2.1, by decide +kernel⟩)))
  · exact Or.inr (Or.inr (Or.inr (Or.inr rfl)))
theorem mJ0_length_8abf5 {l : Launch} {D : va_G} {A : Nat → Prop} {sa sv mc ms : Nat} {as : List Value} {h : zH} {Post : Option Value → zH → Prop} (hnl : (lg_sl as).length ≤ 1) (body : ∀ G : zK, z_Rl l D A sa sv cJ0_length_8abf5 1 1 20 mc ms RJ0 wsJ0_length_8abf5 (eJ0_length_8abf5 sa sv) (z_X sv) Post G → h sv = none → G 0 (lv_args 0 as) [] h 0 0) : z_Met l D A sa sv yJ0_length_8abf5 wsJ0_length_8abf5 1 20 as h Post mc ms := z_meth (ini := false) (by decide +kernel) rfl (okJ0_length_8abf5 sa sv) lcJ0_length_8abf5 (by trivial) (by decide) hnl body
theorem bJ0_length_8abf5_0 : z_cd cJ0_length_8abf5 0 [(.aload_n 0, 1), (.getfield 9, 3), (.arraylength, 1), (.aload_n 0, 1)] = true := by decide +kernel
theorem bJ0_length_8abf5_9 : z_cd cJ0_length_8abf5 9 [(.ishr, 1), (.ireturn, 1)] = true := by decide +kernel
set_option maxRecDepth 20000 in
theorem kJ0_length_8abf5_6 {l : Launch} {D : va_G} {A : Nat → Prop} {sa sv mc ms : Nat} {X : Nat → Option (Nat × Nat × (Nat → Int32))} {Post : Option Value → zH → Prop} {G : zK} (hG : z_Rl l D A sa sv cJ0_length_8abf5 1 1 20 mc ms RJ0 wsJ0_length_8abf5 (eJ0_length_8abf5 sa sv) X Post G) {lv : zL} {st : List Value} {h : zH} {cs sl : Nat} {Post2 : Option Value → zH → Prop} {mc2 ms2 : Nat} (hM : z_Met l D A sa sv yJ0_coder_7d493 wsJ0_coder_7d493 0 0 [.ref sa] h Post2 mc2 ms2) (kk : ∀ (r : Option Value) (h2 : zH), Post2 r h2 → G 9 lv (r.toList ++ st) h2 (cs + mc2) (sl + ms2)) (h1 : cs + mc2 ≤ mc) (h2 : sl + ms2 ≤ ms) (h3 : (st.map fun v => v.category).sum ≤ 8 := by exact Nat.le_of_ble_eq_true rfl) : G 6 lv (.ref sa :: st) h cs sl := hG.2.2.2.2.2.1 6 335 yJ0_coder_7d493 wsJ0_coder_7d493 _ _ _ _ 0 0 0 dJ0_length_8abf5_6 gJ0_length_8abf5_J0_coder_7d493 rfl (by decide +kernel) (by decide) lv st h cs sl [] Post2 mc2 ms2 rfl hM h1 h2 h3 kk

/-! J1_charAt_3b067 -/
abbrev eJ1_charAt_3b067 : zE := ([], [], [], [], 4)
set_option maxRecDepth 20000 in
theorem okJ1_charAt_3b067 : z_EOK wsJ1_charAt_3b067 RJ1 2 43 false eJ1_charAt_3b067 := z_EOK.of (by decide +kernel)
theorem lcJ1_charAt_3b067 {sa sv : Nat} {A : Nat → Prop} (U : State) (_ : z_cn sa sv A U) : z_lcOK RJ1 wsJ1_charAt_3b067 A U eJ1_charAt_3b067.2.1 := fun _ h => absurd h List.not_mem_nil
theorem mJ1_charAt_3b067 {l : Launch} {D : va_G} {A : Nat → Prop} {sa sv mc ms : Nat} {as : List Value} {h : zH} {Post : Option Value → zH → Prop} (hnl : (lg_sl as).length ≤ 2) (body : ∀ G : zK, z_Rl l D A sa sv cJ1_charAt_3b067 2 2 43 mc ms RJ1 wsJ1_charAt_3b067 eJ1_charAt_3b067 (z_X sv) Post G → h sv = none → G 0 (lv_args 0 as) [] h 0 0) : z_Met l D A sa sv yJ1_charAt_3b067 wsJ1_charAt_3b067 2 43 as h Post mc ms := z_meth (ini := false) (by decide +kernel) rfl okJ1_charAt_3b067 lcJ1_charAt_3b067 (by trivial) (by decide) hnl body
theorem bJ1_charAt_3b067_0 : z_cd cJ1_charAt_3b067 0 [(.iload_n 1, 1), (.aload_n 0, 1), (.arraylength, 1)] = true := by decide +kernel
theorem bJ1_charAt_3b067_6 : z_cd cJ1_charAt_3b067 6 [(.aload_n 0, 1), (.iload_n 1, 1), (.baload, 1), (.sipush 255, 3), (.iand, 1), (.i2c, 1), (.ireturn, 1)] = true := by decide +kernel
set_option maxRecDepth 20000 in
theorem kJ1_charAt_3b067_3 {l : Launch} {D : va_G} {A : Nat → Prop} {sa sv mc ms : Nat} {X : Nat → Option (Nat × Nat × (Nat → Int32))} {Post : Option Value → zH → Prop} {G : zK} (hG : z_Rl l D A sa sv cJ1_charAt_3b067 2 2 43 mc ms RJ1 wsJ1_charAt_3b067 eJ1_charAt_3b067 X Post G) {lv : zL} {st : List Value} {h : zH} {cs sl : Nat} {Post2 : Option Value → zH → Prop} {mc2 ms2 : Nat} {v1 v2 : Value} (hM : z_Met l D A sa sv yJ0_checkIndex_df160 wsJ0_checkIndex_df160 1 22 [v1, v2] h Post2 mc2 ms2) (kk : ∀ (r : Option Value) (h2 : zH), Post2 r h2 → G 6 lv (r.toList ++ st) h2 (cs + mc2) (sl + ms2)) (h1 : cs + mc2 ≤ mc) (h2 : sl + ms2 ≤ ms) (h3 : (st.map fun v => v.category).sum ≤ 8 := by exact Nat.le_of_ble_eq_true rfl) : G 3 lv (v2 :: v1 :: st) h cs sl := hG.2.2.1 3 9 yJ0_checkIndex_df160 wsJ0_checkIndex_df160 _ _ _ _ 2 1 22 dJ1_charAt_3b067_3 gJ1_charAt_3b067_J0_checkIndex_df160 rfl (by decide +kernel) (by decide) lv st h cs sl [v1, v2] Post2 mc2 ms2 rfl hM h1 h2 h3 kk

/-! J0_charAt_5068e -/
abbrev eJ0_charAt_5068e (sa sv : Nat) : zE := ([], [(200009, .ref sv), (300000, .ref sa)], [], [], 4)
set_option maxRecDepth 20000 in
theorem okJ0_charAt_5068e (sa sv : Nat) : z_EOK wsJ0_charAt_5068e RJ0 3 64 false (eJ0_charAt_5068e sa sv) := by
  have h : z_EOK wsJ0_charAt_5068e RJ0 3 64 false (eJ0_charAt_5068e 0 0) := z_EOK.of (by decide +kernel)
  exact h
set_option maxRecDepth 20000 in
theorem lcJ0_charAt_5068e {sa sv : Nat} {A : Nat → Prop} (U : State) (hc : z_cn sa sv A U) : z_lcOK RJ0 wsJ0_charAt_5068e A U (eJ0_charAt_5068e sa sv).2.1 := fun q h => by
  rcases (List.mem_cons.mp h).imp_right List.mem_singleton.mp with rfl | rfl
  · exact Or.inr (Or.inr (Or.inr (Or.inl ⟨9, sa, _, _, rfl, by decide, rfl, (hc.2.2.1.1 0 (by decide)).2.2.1, by decide +kernel⟩)))
  · exact Or.inr (Or.inr (Or.inr (Or.inr rfl)))
theorem mJ0_charAt_5068e {l : Launch} {D : va_G} {A : Nat → Prop} {sa sv mc ms : Nat} {as : List Value} {h : zH} {Post : Option Value → zH → Prop} (hnl : (lg_sl as).length ≤ 2) (body : ∀ G : zK, z_Rl l D A sa sv cJ0_charAt_5068e 2 3 64 mc ms RJ0 wsJ0_charAt_5068e (eJ0_charAt_5068e sa sv) (z_X sv) Post G → h sv = none → G 0 (lv_args 0 as) [] h 0 0) : z_Met l D A sa sv yJ0_charAt_5068e wsJ0_charAt_5068e 3 64 as h Post mc ms := z_meth (ini := false) (by decide +kernel) rfl (okJ0_charAt_5068e sa sv) lcJ0_charAt_5068e (by trivial) (by decide) hnl body
theorem bJ0_charAt_5068e_0 : z_cd cJ0_charAt_5068e 0 [(.aload_n 0, 1)] = true := by decide +kernel
theorem bJ0_charAt_5068e_4 : z_cd cJ0_charAt_5068e 4 [(.ifCond .eq 12, 3), (.aload_n 0, 1), (.getfield 9, 3), (.iload_n 1, 1)] = true := by decide +kernel
theorem bJ0_charAt_5068e_15 : z_cd cJ0_charAt_5068e 15 [(.ireturn, 1)] = true := by decide +kernel
theorem bJ0_charAt_5068e_16 : z_cd cJ0_charAt_5068e 16 [(.aload_n 0, 1), (.getfield 9, 3), (.iload_n 1, 1)] = true := by decide +kernel
theorem bJ0_charAt_5068e_24 : z_cd cJ0_charAt_5068e 24 [(.ireturn, 1)] = true := by decide +kernel
set_option maxRecDepth 20000 in
theorem kJ0_charAt_5068e_1 {l : Launch} {D : va_G} {A : Nat → Prop} {sa sv mc ms : Nat} {X : Nat → Option (Nat × Nat × (Nat → Int32))} {Post : Option Value → zH → Prop} {G : zK} (hG : z_Rl l D A sa sv cJ0_charAt_5068e 2 3 64 mc ms RJ0 wsJ0_charAt_5068e (eJ0_charAt_5068e sa sv) X Post G) {lv : zL} {st : List Value} {h : zH} {cs sl : Nat} {Post2 : Option Value → zH → Prop} {mc2 ms2 : Nat} (hM : z_Met l D A sa sv yJ0_isLatin1_aae02 wsJ0_isLatin1_aae02 0 0 [.ref sa] h Post2 mc2 ms2) (kk : ∀ (r : Option Value) (h2 : zH), Post2 r h2 → G 4 lv (r.toList ++ st) h2 (cs + mc2) (sl + ms2)) (h1 : cs + mc2 ≤ mc) (h2 : sl + ms2 ≤ ms) (h3 : (st.map fun v => v.category).sum ≤ 8 := by exact Nat.le_of_ble_eq_true rfl) : G 1 lv (.ref sa :: st) h cs sl := hG.2.2.2.2.2.1 1 492 yJ0_isLatin1_aae02 wsJ0_isLatin1_aae02 _ _ _ _ 0 0 0 dJ0_charAt_5068e_1 gJ0_charAt_5068e_J0_isLatin1_aae02 rfl (by decide +kernel) (by decide) lv st h cs sl [] Post2 mc2 ms2 rfl hM h1 h2 h3 kk
set_option maxRecDepth 20000 in
theorem kJ0_charAt_5068e_12 {l : Launch} {D : va_G} {A : Nat → Prop} {sa sv mc ms : Nat} {X : Nat → Option (Nat × Nat × (Nat → Int32))} {Post : Option Value → zH → Prop} {G : zK} (hG : z_Rl l D A sa sv cJ0_charAt_5068e 2 3 64 mc ms RJ0 wsJ0_charAt_5068e (eJ0_charAt_5068e sa sv) X Post G) {lv : zL} {st : List Value} {h : zH} {cs sl : Nat} {Post2 : Option Value → zH → Prop} {mc2 ms2 : Nat} {v1 v2 : Value} (hM : z_Met l D A sa sv yJ1_charAt_3b067 wsJ1_charAt_3b067 2 43 [v1, v2] h Post2 mc2 ms2) (kk : ∀ (r : Option Value) (h2 : zH), Post2 r h2 → G 15 lv (r.toList ++ st) h2 (cs + mc2) (sl + ms2)) (h1 : cs + mc2 ≤ mc) (h2 : sl + ms2 ≤ ms) (h3 : (st.map fun v => v.category).sum ≤ 8 := by exact Nat.le_of_ble_eq_true rfl) : G 12 lv (v2 :: v1 :: st) h cs sl := hG.2.2.1 12 495 yJ1_charAt_3b067 wsJ1_charAt_3b067 _ _ _ _ 2 2 43 dJ0_charAt_5068e_12 gJ0_charAt_5068e_J1_charAt_3b067 rfl (by decide +kernel) (by decide) lv st h cs sl [v1, v2] Post2 mc2 ms2 rfl hM h1 h2 h3 kk
-- no row for the call at 21

/-! J1_canEncode_9a6ad -/
abbrev eJ1_canEncode_9a6ad : zE := ([], [], [], [], 2)
set_option maxRecDepth 20000 in
theorem okJ1_canEncode_9a6ad : z_EOK wsJ1_canEncode_9a6ad RJ1 0 0 false eJ1_canEncode_9a6ad := z_EOK.of (by decide +kernel)
theorem lcJ1_canEncode_9a6ad {sa sv : Nat} {A : Nat → Prop} (U : State) (_ : z_cn sa sv A U) : z_lcOK RJ1 wsJ1_canEncode_9a6ad A U eJ1_canEncode_9a6ad.2.1 := fun _ h => absurd h List.not_mem_nil
theorem mJ1_canEncode_9a6ad {l : Launch} {D : va_G} {A : Nat → Prop} {sa sv mc ms : Nat} {as : List Value} {h : zH} {Post : Option Value → zH → Prop} (hnl : (lg_sl as).length ≤ 1) (body : ∀ G : zK, z_Rl l D A sa sv cJ1_canEncode_9a6ad 1 0 0 mc ms RJ1 wsJ1_canEncode_9a6ad eJ1_canEncode_9a6ad (z_X sv) Post G → h sv = none → G 0 (lv_args 0 as) [] h 0 0) : z_Met l D A sa sv yJ1_canEncode_9a6ad wsJ1_canEncode_9a6ad 0 0 as h Post mc ms := z_meth (ini := false) (by decide +kernel) rfl okJ1_canEncode_9a6ad lcJ1_canEncode_9a6ad (by trivial) (by decide) hnl body
theorem bJ1_canEncode_9a6ad_0 : z_cd cJ1_canEncode_9a6ad 0 [(.iload_n 0, 1), (.ifCond .lt 14, 3), (.iload_n 0, 1), (.sipush 255, 3), (.if_icmp .gt 7, 3), (.iconst 1, 1), (.goto 4, 3)] = true := by decide +kernel
theorem bJ1_canEncode_9a6ad_15 : z_cd cJ1_canEncode_9a6ad 15 [(.iconst 0, 1)] = true := by decide +kernel
theorem bJ1_canEncode_9a6ad_16 : z_cd cJ1_canEncode_9a6ad 16 [(.ireturn, 1)] = true := by decide +kernel

/-! J1_indexOfChar_4cfef -/
abbrev eJ1_indexOfChar_4cfef : zE := ([], [], [], [], 1)
set_option maxRecDepth 20000 in
theorem okJ1_indexOfChar_4cfef : z_EOK wsJ1_indexOfChar_4cfef RJ1 0 0 false eJ1_indexOfChar_4cfef := z_EOK.of (by decide +kernel)
theorem lcJ1_indexOfChar_4cfef {sa sv : Nat} {A : Nat → Prop} (U : State) (_ : z_cn sa sv A U) : z_lcOK RJ1 wsJ1_indexOfChar_4cfef A U eJ1_indexOfChar_4cfef.2.1 := fun _ h => absurd h List.not_mem_nil
theorem mJ1_indexOfChar_4cfef {l : Launch} {D : va_G} {A : Nat → Prop} {sa sv mc ms : Nat} {as : List Value} {h : zH} {Post : Option Value → zH → Prop} (hnl : (lg_sl as).length ≤ 6) (body : ∀ G : zK, z_Rl l D A sa sv cJ1_indexOfChar_4cfef 6 0 0 mc ms RJ1 wsJ1_indexOfChar_4cfef eJ1_indexOfChar_4cfef (z_X sv) Post G → h sv = none → G 0 (lv_args 0 as) [] h 0 0) : z_Met l D A sa sv yJ1_indexOfChar_4cfef wsJ1_indexOfChar_4cfef 0 0 as h Post mc ms := z_meth (ini := false) (by decide +kernel) rfl okJ1_indexOfChar_4cfef lcJ1_indexOfChar_4cfef (by trivial) (by decide) hnl body
theorem bJ1_indexOfChar_4cfef_0 : z_cd cJ1_indexOfChar_4cfef 0 [(.iload_n 1, 1), (.i2b, 1), (.istore 4, 2), (.iload_n 2, 1), (.istore 5, 2)] = true := by decide +kernel
theorem bJ1_indexOfChar_4cfef_7 : z_cd cJ1_indexOfChar_4cfef 7 [(.iload 5, 2), (.iload_n 3, 1), (.if_icmp .ge 21, 3), (.aload_n 0, 1), (.iload 5, 2), (.baload, 1), (.iload 4, 2), (.if_icmp .ne 6, 3), (.iload 5, 2), (.ireturn, 1)] = true := by decide +kernel
theorem bJ1_indexOfChar_4cfef_25 : z_cd cJ1_indexOfChar_4cfef 25 [(.iinc 5 1, 3), (.goto (-21), 3)] = true := by decide +kernel
theorem bJ1_indexOfChar_4cfef_31 : z_cd cJ1_indexOfChar_4cfef 31 [(.iconst (-1), 1), (.ireturn, 1)] = true := by decide +kernel

/-! J1_indexOf_4cfef -/
abbrev eJ1_indexOf_4cfef : zE := ([], [], [], [(38, 1), (92, 10)], 1)
set_option maxRecDepth 20000 in
theorem okJ1_indexOf_4cfef : z_EOK wsJ1_indexOf_4cfef RJ1 1 25 false eJ1_indexOf_4cfef := z_EOK.of (by decide +kernel)
theorem lcJ1_indexOf_4cfef {sa sv : Nat} {A : Nat → Prop} (U : State) (_ : z_cn sa sv A U) : z_lcOK RJ1 wsJ1_indexOf_4cfef A U eJ1_indexOf_4cfef.2.1 := fun _ h => absurd h List.not_mem_nil
theorem mJ1_indexOf_4cfef {l : Launch} {D : va_G} {A : Nat → Prop} {sa sv mc ms : Nat} {as : List Value} {h : zH} {Post : Option Value → zH → Prop} (hnl : (lg_sl as).length ≤ 4) (body : ∀ G : zK, z_Rl l D A sa sv cJ1_indexOf_4cfef 4 1 25 mc ms RJ1 wsJ1_indexOf_4cfef eJ1_indexOf_4cfef (z_X sv) Post G → h sv = none → G 0 (lv_args 0 as) [] h 0 0) : z_Met l D A sa sv yJ1_indexOf_4cfef wsJ1_indexOf_4cfef 1 25 as h Post mc ms := z_meth (ini := false) (by decide +kernel) rfl okJ1_indexOf_4cfef lcJ1_indexOf_4cfef (by trivial) (by decide) hnl body
theorem bJ1_indexOf_4cfef_0 : z_cd cJ1_indexOf_4cfef 0 [(.iload_n 1, 1)] = true := by decide +kernel
theorem bJ1_indexOf_4cfef_4 : z_cd cJ1_indexOf_4cfef 4 [(.ifCond .ne 5, 3), (.iconst (-1), 1), (.ireturn, 1)] = true := by decide +kernel
theorem bJ1_indexOf_4cfef_9 : z_cd cJ1_indexOf_4cfef 9 [(.iload_n 2, 1), (.iconst 0, 1), (.invokestatic 92, 3), (.istore_n 2, 1), (.iload_n 3, 1), (.aload_n 0, 1), (.arraylength, 1), (.invokestatic 38, 3), (.istore_n 3, 1), (.iload_n 2, 1), (.iload_n 3, 1), (.if_icmp .lt 5, 3), (.iconst (-1), 1), (.ireturn, 1)] = true := by decide +kernel
theorem bJ1_indexOf_4cfef_29 : z_cd cJ1_indexOf_4cfef 29 [(.aload_n 0, 1), (.iload_n 1, 1), (.iload_n 2, 1), (.iload_n 3, 1)] = true := by decide +kernel
theorem bJ1_indexOf_4cfef_36 : z_cd cJ1_indexOf_4cfef 36 [(.ireturn, 1)] = true := by decide +kernel
set_option maxRecDepth 20000 in
theorem kJ1_indexOf_4cfef_1 {l : Launch} {D : va_G} {A : Nat → Prop} {sa sv mc ms : Nat} {X : Nat → Option (Nat × Nat × (Nat → Int32))} {Post : Option Value → zH → Prop} {G : zK} (hG : z_Rl l D A sa sv cJ1_indexOf_4cfef 4 1 25 mc ms RJ1 wsJ1_indexOf_4cfef eJ1_indexOf_4cfef X Post G) {lv : zL} {st : List Value} {h : zH} {cs sl : Nat} {Post2 : Option Value → zH → Prop} {mc2 ms2 : Nat} {v1 : Value} (hM : z_Met l D A sa sv yJ1_canEncode_9a6ad wsJ1_canEncode_9a6ad 0 0 [v1] h Post2 mc2 ms2) (kk : ∀ (r : Option Value) (h2 : zH), Post2 r h2 → G 4 lv (r.toList ++ st) h2 (cs + mc2) (sl + ms2)) (h1 : cs + mc2 ≤ mc) (h2 : sl + ms2 ≤ ms) (h3 : (st.map fun v => v.category).sum ≤ 8 := by exact Nat.le_of_ble_eq_true rfl) : G 1 lv (v1 :: st) h cs sl := hG.2.2.1 1 88 yJ1_canEncode_9a6ad wsJ1_canEncode_9a6ad _ _ _ _ 1 0 0 dJ1_indexOf_4cfef_1 gJ1_indexOf_4cfef_J1_canEncode_9a6ad rfl (by decide +kernel) (by decide) lv st h cs sl [v1] Post2 mc2 ms2 rfl hM h1 h2 h3 kk
set_option maxRecDepth 20000 in
theorem kJ1_indexOf_4cfef_33 {l : Launch} {D : va_G} {A : Nat → Prop} {sa sv mc ms : Nat} {X : Nat → Option (Nat × Nat × (Nat → Int32))} {Post : Option Value → zH → Prop} {G : zK} (hG : z_Rl l D A sa sv cJ1_indexOf_4cfef 4 1 25 mc ms RJ1 wsJ1_indexOf_4cfef eJ1_indexOf_4cfef X Post G) {lv : zL} {st : List Value} {h : zH} {cs sl : Nat} {Post2 : Option Value → zH → Prop} {mc2 ms2 : Nat} {v1 v2 v3 v4 : Value} (hM : z_Met l D A sa sv yJ1_indexOfChar_4cfef wsJ1_indexOfChar_4cfef 0 0 [v1, v2, v3, v4] h Post2 mc2 ms2) (kk : ∀ (r : Option Value) (h2 : zH), Post2 r h2 → G 36 lv (r.toList ++ st) h2 (cs + mc2) (sl + ms2)) (h1 : cs + mc2 ≤ mc) (h2 : sl + ms2 ≤ ms) (h3 : (st.map fun v => v.category).sum ≤ 8 := by exact Nat.le_of_ble_eq_true rfl) : G 33 lv (v4 :: v3 :: v2 :: v1 :: st) h cs sl := hG.2.2.1 33 95 yJ1_indexOfChar_4cfef wsJ1_indexOfChar_4cfef _ _ _ _ 4 0 0 dJ1_indexOf_4cfef_33 gJ1_indexOf_4cfef_J1_indexOfChar_4cfef rfl (by decide +kernel) (by decide) lv st h cs sl [v1, v2, v3, v4] Post2 mc2 ms2 rfl hM h1 h2 h3 kk

/-! J0_indexOf_7cf53 -/
abbrev eJ0_indexOf_7cf53 (sa sv : Nat) : zE := ([], [(200009, .ref sv), (300000, .ref sa)], [], [], 1)
set_option maxRecDepth 20000 in
theorem okJ0_indexOf_7cf53 (sa sv : Nat) : z_EOK wsJ0_indexOf_7cf53 RJ0 2 48 false (eJ0_indexOf_7cf53 sa sv) := by
  have h : z_EOK wsJ0_indexOf_7cf53 RJ0 2 48 false (eJ0_indexOf_7cf53 0 0) := z_EOK.of (by decide +kernel)
  exact h
set_option maxRecDepth 20000 in
theorem lcJ0_indexOf_7cf53 {sa sv : Nat} {A : Nat → Prop} (U : State) (hc : z_cn sa sv A U) : z_lcOK RJ0 wsJ0_indexOf_7cf53 A U (eJ0_indexOf_7cf53 sa sv).2.1 := fun q h => by
  rcases (List.mem_cons.mp h).imp_right List.mem_singleton.mp with rfl | rfl
  · exact Or.inr (Or.inr (Or.inr (Or.inl ⟨9, sa, _, _, rfl, by decide, rfl, (hc.2.2.1.1 0 (by decide)).2.2.1, by decide +kernel⟩)))
  · exact Or.inr (Or.inr (Or.inr (Or.inr rfl)))
theorem mJ0_indexOf_7cf53 {l : Launch} {D : va_G} {A : Nat → Prop} {sa sv mc ms : Nat} {as : List Value} {h : zH} {Post : Option Value → zH → Prop} (hnl : (lg_sl as).length ≤ 3) (body : ∀ G : zK, z_Rl l D A sa sv cJ0_indexOf_7cf53 3 2 48 mc ms RJ0 wsJ0_indexOf_7cf53 (eJ0_indexOf_7cf53 sa sv) (z_X sv) Post G → h sv = none → G 0 (lv_args 0 as) [] h 0 0) : z_Met l D A sa sv yJ0_indexOf_7cf53 wsJ0_indexOf_7cf53 2 48 as h Post mc ms := z_meth (ini := false) (by decide +kernel) rfl (okJ0_indexOf_7cf53 sa sv) lcJ0_indexOf_7cf53 (by trivial) (by decide) hnl body
theorem bJ0_indexOf_7cf53_0 : z_cd cJ0_indexOf_7cf53 0 [(.aload_n 0, 1)] = true := by decide +kernel
theorem bJ0_indexOf_7cf53_4 : z_cd cJ0_indexOf_7cf53 4 [(.ifCond .eq 19, 3), (.aload_n 0, 1), (.getfield 9, 3), (.iload_n 1, 1), (.iload_n 2, 1), (.aload_n 0, 1)] = true := by decide +kernel
theorem bJ0_indexOf_7cf53_20 : z_cd cJ0_indexOf_7cf53 20 [(.goto 16, 3)] = true := by decide +kernel
theorem bJ0_indexOf_7cf53_23 : z_cd cJ0_indexOf_7cf53 23 [(.aload_n 0, 1), (.getfield 9, 3), (.iload_n 1, 1), (.iload_n 2, 1), (.aload_n 0, 1)] = true := by decide +kernel
theorem bJ0_indexOf_7cf53_36 : z_cd cJ0_indexOf_7cf53 36 [(.ireturn, 1)] = true := by decide +kernel
set_option maxRecDepth 20000 in
theorem kJ0_indexOf_7cf53_1 {l : Launch} {D : va_G} {A : Nat → Prop} {sa sv mc ms : Nat} {X : Nat → Option (Nat × Nat × (Nat → Int32))} {Post : Option Value → zH → Prop} {G : zK} (hG : z_Rl l D A sa sv cJ0_indexOf_7cf53 3 2 48 mc ms RJ0 wsJ0_indexOf_7cf53 (eJ0_indexOf_7cf53 sa sv) X Post G) {lv : zL} {st : List Value} {h : zH} {cs sl : Nat} {Post2 : Option Value → zH → Prop} {mc2 ms2 : Nat} (hM : z_Met l D A sa sv yJ0_isLatin1_aae02 wsJ0_isLatin1_aae02 0 0 [.ref sa] h Post2 mc2 ms2) (kk : ∀ (r : Option Value) (h2 : zH), Post2 r h2 → G 4 lv (r.toList ++ st) h2 (cs + mc2) (sl + ms2)) (h1 : cs + mc2 ≤ mc) (h2 : sl + ms2 ≤ ms) (h3 : (st.map fun v => v.category).sum ≤ 8 := by exact Nat.le_of_ble_eq_true rfl) : G 1 lv (.ref sa :: st) h cs sl := hG.2.2.2.2.2.1 1 492 yJ0_isLatin1_aae02 wsJ0_isLatin1_aae02 _ _ _ _ 0 0 0 dJ0_indexOf_7cf53_1 gJ0_indexOf_7cf53_J0_isLatin1_aae02 rfl (by decide +kernel) (by decide) lv st h cs sl [] Post2 mc2 ms2 rfl hM h1 h2 h3 kk
set_option maxRecDepth 20000 in
theorem kJ0_indexOf_7cf53_14 {l : Launch} {D : va_G} {A : Nat → Prop} {sa sv mc ms : Nat} {X : Nat → Option (Nat × Nat × (Nat → Int32))} {Post : Option Value → zH → Prop} {G : zK} (hG : z_Rl l D A sa sv cJ0_indexOf_7cf53 3 2 48 mc ms RJ0 wsJ0_indexOf_7cf53 (eJ0_indexOf_7cf53 sa sv) X Post G) {lv : zL} {st : List Value} {h : zH} {cs sl : Nat} {Post2 : Option Value → zH → Prop} {mc2 ms2 : Nat} (hM : z_Met l D A sa sv yJ0_length_8abf5 wsJ0_length_8abf5 1 20 [.ref sa] h Post2 mc2 ms2) (kk : ∀ (r : Option Value) (h2 : zH), Post2 r h2 → G 17 lv (r.toList ++ st) h2 (cs + mc2) (sl + ms2)) (h1 : cs + mc2 ≤ mc) (h2 : sl + ms2 ≤ ms) (h3 : (st.map fun v => v.category).sum ≤ 8 := by exact Nat.le_of_ble_eq_true rfl) : G 14 lv (.ref sa :: st) h cs sl := hG.2.2.2.2.2.1 14 505 yJ0_length_8abf5 wsJ0_length_8abf5 _ _ _ _ 0 1 20 dJ0_indexOf_7cf53_14 gJ0_indexOf_7cf53_J0_length_8abf5 rfl (by decide +kernel) (by decide) lv st h cs sl [] Post2 mc2 ms2 rfl hM h1 h2 h3 kk
set_option maxRecDepth 20000 in
theorem kJ0_indexOf_7cf53_17 {l : Launch} {D : va_G} {A : Nat → Prop} {sa sv mc ms : Nat} {X : Nat → Option (Nat × Nat × (Nat → Int32))} {Post : Option Value → zH → Prop} {G : zK} (hG : z_Rl l D A sa sv cJ0_indexOf_7cf53 3 2 48 mc ms RJ0 wsJ0_indexOf_7cf53 (eJ0_indexOf_7cf53 sa sv) X Post G) {lv : zL} {st : List Value} {h : zH} {cs sl : Nat} {Post2 : Option Value → zH → Prop} {mc2 ms2 : Nat} {v1 v2 v3 v4 : Value} (hM : z_Met l D A sa sv yJ1_indexOf_4cfef wsJ1_indexOf_4cfef 1 25 [v1, v2, v3, v4] h Post2 mc2 ms2) (kk : ∀ (r : Option Value) (h2 : zH), Post2 r h2 → G 20 lv (r.toList ++ st) h2 (cs + mc2) (sl + ms2)) (h1 : cs + mc2 ≤ mc) (h2 : sl + ms2 ≤ ms) (h3 : (st.map fun v => v.category).sum ≤ 8 := by exact Nat.le_of_ble_eq_true rfl) : G 17 lv (v4 :: v3 :: v2 :: v1 :: st) h cs sl := hG.2.2.1 17 637 yJ1_indexOf_4cfef wsJ1_indexOf_4cfef _ _ _ _ 4 1 25 dJ0_indexOf_7cf53_17 gJ0_indexOf_7cf53_J1_indexOf_4cfef rfl (by decide +kernel) (by decide) lv st h cs sl [v1, v2, v3, v4] Post2 mc2 ms2 rfl hM h1 h2 h3 kk
set_option maxRecDepth 20000 in
theorem kJ0_indexOf_7cf53_30 {l : Launch} {D : va_G} {A : Nat → Prop} {sa sv mc ms : Nat} {X : Nat → Option (Nat × Nat × (Nat → Int32))} {Post : Option Value → zH → Prop} {G : zK} (hG : z_Rl l D A sa sv cJ0_indexOf_7cf53 3 2 48 mc ms RJ0 wsJ0_indexOf_7cf53 (eJ0_indexOf_7cf53 sa sv) X Post G) {lv : zL} {st : List Value} {h : zH} {cs sl : Nat} {Post2 : Option Value → zH → Prop} {mc2 ms2 : Nat} (hM : z_Met l D A sa sv yJ0_length_8abf5 wsJ0_length_8abf5 1 20 [.ref sa] h Post2 mc2 ms2) (kk : ∀ (r : Option Value) (h2 : zH), Post2 r h2 → G 33 lv (r.toList ++ st) h2 (cs + mc2) (sl + ms2)) (h1 : cs + mc2 ≤ mc) (h2 : sl + ms2 ≤ ms) (h3 : (st.map fun v => v.category).sum ≤ 8 := by exact Nat.le_of_ble_eq_true rfl) : G 30 lv (.ref sa :: st) h cs sl := hG.2.2.2.2.2.1 30 505 yJ0_length_8abf5 wsJ0_length_8abf5 _ _ _ _ 0 1 20 dJ0_indexOf_7cf53_30 gJ0_indexOf_7cf53_J0_length_8abf5 rfl (by decide +kernel) (by decide) lv st h cs sl [] Post2 mc2 ms2 rfl hM h1 h2 h3 kk
-- no row for the call at 33

/-! J0_indexOf_0f7a4 -/
abbrev eJ0_indexOf_0f7a4 : zE := ([], [], [], [], 1)
set_option maxRecDepth 20000 in
theorem okJ0_indexOf_0f7a4 : z_EOK wsJ0_indexOf_0f7a4 RJ0 3 70 false eJ0_indexOf_0f7a4 := z_EOK.of (by decide +kernel)
theorem lcJ0_indexOf_0f7a4 {sa sv : Nat} {A : Nat → Prop} (U : State) (_ : z_cn sa sv A U) : z_lcOK RJ0 wsJ0_indexOf_0f7a4 A U eJ0_indexOf_0f7a4.2.1 := fun _ h => absurd h List.not_mem_nil
theorem mJ0_indexOf_0f7a4 {l : Launch} {D : va_G} {A : Nat → Prop} {sa sv mc ms : Nat} {as : List Value} {h : zH} {Post : Option Value → zH → Prop} (hnl : (lg_sl as).length ≤ 2) (body : ∀ G : zK, z_Rl l D A sa sv cJ0_indexOf_0f7a4 2 3 70 mc ms RJ0 wsJ0_indexOf_0f7a4 eJ0_indexOf_0f7a4 (z_X sv) Post G → h sv = none → G 0 (lv_args 0 as) [] h 0 0) : z_Met l D A sa sv yJ0_indexOf_0f7a4 wsJ0_indexOf_0f7a4 3 70 as h Post mc ms := z_meth (ini := false) (by decide +kernel) rfl okJ0_indexOf_0f7a4 lcJ0_indexOf_0f7a4 (by trivial) (by decide) hnl body
theorem bJ0_indexOf_0f7a4_0 : z_cd cJ0_indexOf_0f7a4 0 [(.aload_n 0, 1), (.iload_n 1, 1), (.iconst 0, 1)] = true := by decide +kernel
theorem bJ0_indexOf_0f7a4_6 : z_cd cJ0_indexOf_0f7a4 6 [(.ireturn, 1)] = true := by decide +kernel
set_option maxRecDepth 20000 in
theorem kJ0_indexOf_0f7a4_3 {l : Launch} {D : va_G} {A : Nat → Prop} {sa sv mc ms : Nat} {X : Nat → Option (Nat × Nat × (Nat → Int32))} {Post : Option Value → zH → Prop} {G : zK} (hG : z_Rl l D A sa sv cJ0_indexOf_0f7a4 2 3 70 mc ms RJ0 wsJ0_indexOf_0f7a4 eJ0_indexOf_0f7a4 X Post G) {lv : zL} {st : List Value} {h : zH} {cs sl : Nat} {Post2 : Option Value → zH → Prop} {mc2 ms2 : Nat} {v1 v2 : Value} (hM : z_Met l D A sa sv yJ0_indexOf_7cf53 wsJ0_indexOf_7cf53 2 48 [.ref sa, v1, v2] h Post2 mc2 ms2) (kk : ∀ (r : Option Value) (h2 : zH), Post2 r h2 → G 6 lv (r.toList ++ st) h2 (cs + mc2) (sl + ms2)) (h1 : cs + mc2 ≤ mc) (h2 : sl + ms2 ≤ ms) (h3 : (st.map fun v => v.category).sum ≤ 8 := by exact Nat.le_of_ble_eq_true rfl) : G 3 lv (v2 :: v1 :: .ref sa :: st) h cs sl := hG.2.2.2.2.2.1 3 633 yJ0_indexOf_7cf53 wsJ0_indexOf_7cf53 _ _ _ _ 2 2 48 dJ0_indexOf_0f7a4_3 gJ0_indexOf_0f7a4_J0_indexOf_7cf53 rfl (by decide +kernel) (by decide) lv st h cs sl [v1, v2] Post2 mc2 ms2 rfl hM h1 h2 h3 kk

/-! J7_copyOf_59c91 -/
abbrev eJ7_copyOf_59c91 : zE := ([], [], [], [(150, 7), (304, 1), (316, 8), (100001, 2), (300317, 9)], 3)
set_option maxRecDepth 20000 in
theorem okJ7_copyOf_59c91 : z_EOK wsJ7_copyOf_59c91 RJ7 1 60 false eJ7_copyOf_59c91 := z_EOK.of (by decide +kernel)
theorem lcJ7_copyOf_59c91 {sa sv : Nat} {A : Nat → Prop} (U : State) (_ : z_cn sa sv A U) : z_lcOK RJ7 wsJ7_copyOf_59c91 A U eJ7_copyOf_59c91.2.1 := fun _ h => absurd h List.not_mem_nil
theorem mJ7_copyOf_59c91 {l : Launch} {D : va_G} {A : Nat → Prop} {sa sv mc ms : Nat} {as : List Value} {h : zH} {Post : Option Value → zH → Prop} (hnl : (lg_sl as).length ≤ 3) (body : ∀ G : zK, z_Rl l D A sa sv cJ7_copyOf_59c91 3 1 60 mc ms RJ7 wsJ7_copyOf_59c91 eJ7_copyOf_59c91 (z_X sv) Post G → h sv = none → G 0 (lv_args 0 as) [] h 0 0) : z_Met l D A sa sv yJ7_copyOf_59c91 wsJ7_copyOf_59c91 1 60 as h Post mc ms := z_meth (ini := false) (by decide +kernel) rfl okJ7_copyOf_59c91 lcJ7_copyOf_59c91 (by trivial) (by decide) hnl body
theorem bJ7_copyOf_59c91_0 : z_cd cJ7_copyOf_59c91 0 [(.iload_n 1, 1), (.aload_n 0, 1), (.arraylength, 1), (.if_icmp .ne 11, 3), (.aload_n 0, 1), (.invokevirtual 316, 3), (.checkcast 317, 3), (.areturn, 1)] = true := by decide +kernel
theorem bJ7_copyOf_59c91_14 : z_cd cJ7_copyOf_59c91 14 [(.iload_n 1, 1), (.newarray .int, 2), (.astore_n 2, 1), (.aload_n 0, 1), (.iconst 0, 1), (.aload_n 2, 1), (.iconst 0, 1), (.aload_n 0, 1), (.arraylength, 1), (.iload_n 1, 1), (.invokestatic 304, 3), (.invokestatic 150, 3), (.aload_n 2, 1), (.areturn, 1)] = true := by decide +kernel

/-! J7_checkLength_df160 -/
abbrev eJ7_checkLength_df160 : zE := ([], [], [], [], 0)
set_option maxRecDepth 20000 in
theorem okJ7_checkLength_df160 : z_EOK wsJ7_checkLength_df160 RJ7 0 0 false eJ7_checkLength_df160 := z_EOK.of (by decide +kernel)
theorem lcJ7_checkLength_df160 {sa sv : Nat} {A : Nat → Prop} (U : State) (_ : z_cn sa sv A U) : z_lcOK RJ7 wsJ7_checkLength_df160 A U eJ7_checkLength_df160.2.1 := fun _ h => absurd h List.not_mem_nil
theorem mJ7_checkLength_df160 {l : Launch} {D : va_G} {A : Nat → Prop} {sa sv mc ms : Nat} {as : List Value} {h : zH} {Post : Option Value → zH → Prop} (hnl : (lg_sl as).length ≤ 2) (body : ∀ G : zK, z_Rl l D A sa sv cJ7_checkLength_df160 2 0 0 mc ms RJ7 wsJ7_checkLength_df160 eJ7_checkLength_df160 (z_X sv) Post G → h sv = none → G 0 (lv_args 0 as) [] h 0 0) : z_Met l D A sa sv yJ7_checkLength_df160 wsJ7_checkLength_df160 0 0 as h Post mc ms := z_meth (ini := false) (by decide +kernel) rfl okJ7_checkLength_df160 lcJ7_checkLength_df160 (by trivial) (by decide) hnl body
theorem bJ7_checkLength_df160_0 : z_cd cJ7_checkLength_df160 0 [(.iload_n 1, 1), (.iload_n 0, 1), (.if_icmp .ge 35, 3), (.new 43, 3), (.dup, 1), (.new 45, 3), (.dup, 1)] = true := by decide +kernel
theorem bJ7_checkLength_df160_16 : z_cd cJ7_checkLength_df160 16 [(.iload_n 0, 1)] = true := by decide +kernel
theorem bJ7_checkLength_df160_26 : z_cd cJ7_checkLength_df160 26 [(.iload_n 1, 1)] = true := by decide +kernel
theorem bJ7_checkLength_df160_37 : z_cd cJ7_checkLength_df160 37 [(.return_, 1)] = true := by decide +kernel
-- no row for the call at 13
-- no row for the call at 17
-- no row for the call at 23
-- no row for the call at 27
-- no row for the call at 30
-- no row for the call at 33

/-! J7_copyOfRangeInt_feecc -/
abbrev eJ7_copyOfRangeInt_feecc : zE := ([], [], [], [(150, 7), (304, 1), (100001, 2)], 3)
set_option maxRecDepth 20000 in
theorem okJ7_copyOfRangeInt_feecc : z_EOK wsJ7_copyOfRangeInt_feecc RJ7 1 60 false eJ7_copyOfRangeInt_feecc := z_EOK.of (by decide +kernel)
theorem lcJ7_copyOfRangeInt_feecc {sa sv : Nat} {A : Nat → Prop} (U : State) (_ : z_cn sa sv A U) : z_lcOK RJ7 wsJ7_copyOfRangeInt_feecc A U eJ7_copyOfRangeInt_feecc.2.1 := fun _ h => absurd h List.not_mem_nil
theorem mJ7_copyOfRangeInt_feecc {l : Launch} {D : va_G} {A : Nat → Prop} {sa sv mc ms : Nat} {as : List Value} {h : zH} {Post : Option Value → zH → Prop} (hnl : (lg_sl as).length ≤ 5) (body : ∀ G : zK, z_Rl l D A sa sv cJ7_copyOfRangeInt_feecc 5 1 60 mc ms RJ7 wsJ7_copyOfRangeInt_feecc eJ7_copyOfRangeInt_feecc (z_X sv) Post G → h sv = none → G 0 (lv_args 0 as) [] h 0 0) : z_Met l D A sa sv yJ7_copyOfRangeInt_feecc wsJ7_copyOfRangeInt_feecc 1 60 as h Post mc ms := z_meth (ini := false) (by decide +kernel) rfl okJ7_copyOfRangeInt_feecc lcJ7_copyOfRangeInt_feecc (by trivial) (by decide) hnl body
theorem bJ7_copyOfRangeInt_feecc_0 : z_cd cJ7_copyOfRangeInt_feecc 0 [(.iload_n 1, 1), (.iload_n 2, 1)] = true := by decide +kernel
theorem bJ7_copyOfRangeInt_feecc_5 : z_cd cJ7_copyOfRangeInt_feecc 5 [(.iload_n 2, 1), (.iload_n 1, 1), (.isub, 1), (.istore_n 3, 1), (.iload_n 3, 1), (.newarray .int, 2), (.astore 4, 2), (.aload_n 0, 1), (.iload_n 1, 1), (.aload 4, 2), (.iconst 0, 1), (.aload_n 0, 1), (.arraylength, 1), (.iload_n 1, 1), (.isub, 1), (.iload_n 3, 1), (.invokestatic 304, 3), (.invokestatic 150, 3), (.aload 4, 2), (.areturn, 1)] = true := by decide +kernel
set_option maxRecDepth 20000 in
theorem kJ7_copyOfRangeInt_feecc_2 {l : Launch} {D : va_G} {A : Nat → Prop} {sa sv mc ms : Nat} {X : Nat → Option (Nat × Nat × (Nat → Int32))} {Post : Option Value → zH → Prop} {G : zK} (hG : z_Rl l D A sa sv cJ7_copyOfRangeInt_feecc 5 1 60 mc ms RJ7 wsJ7_copyOfRangeInt_feecc eJ7_copyOfRangeInt_feecc X Post G) {lv : zL} {st : List Value} {h : zH} {cs sl : Nat} {Post2 : Option Value → zH → Prop} {mc2 ms2 : Nat} {v1 v2 : Value} (hM : z_Met l D A sa sv yJ7_checkLength_df160 wsJ7_checkLength_df160 0 0 [v1, v2] h Post2 mc2 ms2) (kk : ∀ (r : Option Value) (h2 : zH), Post2 r h2 → G 5 lv (r.toList ++ st) h2 (cs + mc2) (sl + ms2)) (h1 : cs + mc2 ≤ mc) (h2 : sl + ms2 ≤ ms) (h3 : (st.map fun v => v.category).sum ≤ 8 := by exact Nat.le_of_ble_eq_true rfl) : G 2 lv (v2 :: v1 :: st) h cs sl := hG.2.2.1 2 343 yJ7_checkLength_df160 wsJ7_checkLength_df160 _ _ _ _ 2 0 0 dJ7_copyOfRangeInt_feecc_2 gJ7_copyOfRangeInt_feecc_J7_checkLength_df160 rfl (by decide +kernel) (by decide) lv st h cs sl [v1, v2] Post2 mc2 ms2 rfl hM h1 h2 h3 kk

/-! J7_copyOfRange_feecc -/
abbrev eJ7_copyOfRange_feecc : zE := ([], [], [], [(316, 8), (300317, 9)], 3)
set_option maxRecDepth 20000 in
theorem okJ7_copyOfRange_feecc : z_EOK wsJ7_copyOfRange_feecc RJ7 2 84 false eJ7_copyOfRange_feecc := z_EOK.of (by decide +kernel)
theorem lcJ7_copyOfRange_feecc {sa sv : Nat} {A : Nat → Prop} (U : State) (_ : z_cn sa sv A U) : z_lcOK RJ7 wsJ7_copyOfRange_feecc A U eJ7_copyOfRange_feecc.2.1 := fun _ h => absurd h List.not_mem_nil
theorem mJ7_copyOfRange_feecc {l : Launch} {D : va_G} {A : Nat → Prop} {sa sv mc ms : Nat} {as : List Value} {h : zH} {Post : Option Value → zH → Prop} (hnl : (lg_sl as).length ≤ 3) (body : ∀ G : zK, z_Rl l D A sa sv cJ7_copyOfRange_feecc 3 2 84 mc ms RJ7 wsJ7_copyOfRange_feecc eJ7_copyOfRange_feecc (z_X sv) Post G → h sv = none → G 0 (lv_args 0 as) [] h 0 0) : z_Met l D A sa sv yJ7_copyOfRange_feecc wsJ7_copyOfRange_feecc 2 84 as h Post mc ms := z_meth (ini := false) (by decide +kernel) rfl okJ7_copyOfRange_feecc lcJ7_copyOfRange_feecc (by trivial) (by decide) hnl body
theorem bJ7_copyOfRange_feecc_0 : z_cd cJ7_copyOfRange_feecc 0 [(.iload_n 1, 1), (.ifCond .ne 9, 3), (.iload_n 2, 1), (.aload_n 0, 1), (.arraylength, 1), (.if_icmp .eq 10, 3)] = true := by decide +kernel
theorem bJ7_copyOfRange_feecc_10 : z_cd cJ7_copyOfRange_feecc 10 [(.aload_n 0, 1), (.iload_n 1, 1), (.iload_n 2, 1)] = true := by decide +kernel
theorem bJ7_copyOfRange_feecc_16 : z_cd cJ7_copyOfRange_feecc 16 [(.areturn, 1)] = true := by decide +kernel
theorem bJ7_copyOfRange_feecc_17 : z_cd cJ7_copyOfRange_feecc 17 [(.aload_n 0, 1), (.invokevirtual 316, 3), (.checkcast 317, 3), (.areturn, 1)] = true := by decide +kernel
set_option maxRecDepth 20000 in
theorem kJ7_copyOfRange_feecc_13 {l : Launch} {D : va_G} {A : Nat → Prop} {sa sv mc ms : Nat} {X : Nat → Option (Nat × Nat × (Nat → Int32))} {Post : Option Value → zH → Prop} {G : zK} (hG : z_Rl l D A sa sv cJ7_copyOfRange_feecc 3 2 84 mc ms RJ7 wsJ7_copyOfRange_feecc eJ7_copyOfRange_feecc X Post G) {lv : zL} {st : List Value} {h : zH} {cs sl : Nat} {Post2 : Option Value → zH → Prop} {mc2 ms2 : Nat} {v1 v2 v3 : Value} (hM : z_Met l D A sa sv yJ7_copyOfRangeInt_feecc wsJ7_copyOfRangeInt_feecc 1 60 [v1, v2, v3] h Post2 mc2 ms2) (kk : ∀ (r : Option Value) (h2 : zH), Post2 r h2 → G 16 lv (r.toList ++ st) h2 (cs + mc2) (sl + ms2)) (h1 : cs + mc2 ≤ mc) (h2 : sl + ms2 ≤ ms) (h3 : (st.map fun v => v.category).sum ≤ 8 := by exact Nat.le_of_ble_eq_true rfl) : G 13 lv (v3 :: v2 :: v1 :: st) h cs sl := hG.2.2.1 13 351 yJ7_copyOfRangeInt_feecc wsJ7_copyOfRangeInt_feecc _ _ _ _ 3 1 60 dJ7_copyOfRange_feecc_13 gJ7_copyOfRange_feecc_J7_copyOfRangeInt_feecc rfl (by decide +kernel) (by decide) lv st h cs sl [v1, v2, v3] Post2 mc2 ms2 rfl hM h1 h2 h3 kk
