/-! X0_init -/
abbrev eX0_init : zE := ([(9, 0, 0, 2), (15, 0, 1, 2), (18, 0, 2, 1)], [], [], [(3, 0)], 0)
set_option maxRecDepth 20000 in
theorem okX0_init : z_EOK wsX0_init RX0 1 12 true eX0_init := z_EOK.of (by decide +kernel)
theorem lcX0_init {sa sv : Nat} {A : Nat → Prop} (U : State) (_ : z_cn sa sv A U) : z_lcOK RX0 wsX0_init A U eX0_init.2.1 := fun _ h => absurd h List.not_mem_nil
theorem mX0_init {l : Launch} {D : va_G} {A : Nat → Prop} {sa sv mc ms : Nat} {as : List Value} {h : zH} {Post : Option Value → zH → Prop} (hnl : (lg_sl as).length ≤ 4) (body : ∀ G : zK, z_Rl l D A sa sv cX0_init 4 1 12 mc ms RX0 wsX0_init eX0_init (z_X sv) Post G → h sv = none → G 0 (lv_args 0 as) [] h 0 0) : z_Met l D A sa sv yX0_init wsX0_init 1 12 as h Post mc ms := z_meth (ini := true) (by decide +kernel) rfl okX0_init lcX0_init (by trivial) (by decide) hnl body
theorem bX0_init_0 : z_cd cX0_init 0 [(.aload_n 0, 1), (.invokespecial 3, 3), (.aload_n 0, 1), (.aload_n 1, 1), (.putfield 9, 3), (.aload_n 0, 1), (.aload_n 2, 1), (.putfield 15, 3), (.aload_n 0, 1), (.iload_n 3, 1), (.putfield 18, 3), (.return_, 1)] = true := by decide +kernel

/-! X0_cost -/
abbrev eX0_cost : zE := ([(9, 0, 0, 7), (15, 0, 1, 7)], [], [], [], 1)
set_option maxRecDepth 20000 in
theorem okX0_cost : z_EOK wsX0_cost RX0 0 0 false eX0_cost := z_EOK.of (by decide +kernel)
theorem lcX0_cost {sa sv : Nat} {A : Nat → Prop} (U : State) (_ : z_cn sa sv A U) : z_lcOK RX0 wsX0_cost A U eX0_cost.2.1 := fun _ h => absurd h List.not_mem_nil
theorem mX0_cost {l : Launch} {D : va_G} {A : Nat → Prop} {sa sv mc ms : Nat} {as : List Value} {h : zH} {Post : Option Value → zH → Prop} (hnl : (lg_sl as).length ≤ 1) (body : ∀ G : zK, z_Rl l D A sa sv cX0_cost 1 0 0 mc ms RX0 wsX0_cost eX0_cost (z_X sv) Post G → h sv = none → G 0 (lv_args 0 as) [] h 0 0) : z_Met l D A sa sv yX0_cost wsX0_cost 0 0 as h Post mc ms := z_meth (ini := false) (by decide +kernel) rfl okX0_cost lcX0_cost (by trivial) (by decide) hnl body
theorem bX0_cost_0 : z_cd cX0_cost 0 [(.aload_n 0, 1), (.getfield 9, 3), (.arraylength, 1), (.aload_n 0, 1), (.getfield 15, 3), (.arraylength, 1), (.iadd, 1), (.bipush 32, 2), (.iadd, 1), (.ireturn, 1)] = true := by decide +kernel

/-! X0_isLike -/
abbrev eX0_isLike : zE := ([(9, 0, 0, 7), (15, 0, 1, 7)], [], [], [], 2)
set_option maxRecDepth 20000 in
theorem okX0_isLike : z_EOK wsX0_isLike RX0 1 22 false eX0_isLike := z_EOK.of (by decide +kernel)
theorem lcX0_isLike {sa sv : Nat} {A : Nat → Prop} (U : State) (_ : z_cn sa sv A U) : z_lcOK RX0 wsX0_isLike A U eX0_isLike.2.1 := fun _ h => absurd h List.not_mem_nil
theorem mX0_isLike {l : Launch} {D : va_G} {A : Nat → Prop} {sa sv mc ms : Nat} {as : List Value} {h : zH} {Post : Option Value → zH → Prop} (hnl : (lg_sl as).length ≤ 3) (body : ∀ G : zK, z_Rl l D A sa sv cX0_isLike 3 1 22 mc ms RX0 wsX0_isLike eX0_isLike (z_X sv) Post G → h sv = none → G 0 (lv_args 0 as) [] h 0 0) : z_Met l D A sa sv yX0_isLike wsX0_isLike 1 22 as h Post mc ms := z_meth (ini := false) (by decide +kernel) rfl okX0_isLike lcX0_isLike (by trivial) (by decide) hnl body
theorem bX0_isLike_0 : z_cd cX0_isLike 0 [(.aload_n 0, 1), (.getfield 9, 3), (.aload_n 1, 1)] = true := by decide +kernel
theorem bX0_isLike_8 : z_cd cX0_isLike 8 [(.ifCond .eq 18, 3), (.aload_n 0, 1), (.getfield 15, 3), (.aload_n 2, 1)] = true := by decide +kernel
theorem bX0_isLike_19 : z_cd cX0_isLike 19 [(.ifCond .eq 7, 3), (.iconst 1, 1), (.goto 4, 3)] = true := by decide +kernel
theorem bX0_isLike_26 : z_cd cX0_isLike 26 [(.iconst 0, 1)] = true := by decide +kernel
theorem bX0_isLike_27 : z_cd cX0_isLike 27 [(.ireturn, 1)] = true := by decide +kernel
set_option maxRecDepth 20000 in
theorem kX0_isLike_5 {l : Launch} {D : va_G} {A : Nat → Prop} {sa sv mc ms : Nat} {X : Nat → Option (Nat × Nat × (Nat → Int32))} {Post : Option Value → zH → Prop} {G : zK} (hG : z_Rl l D A sa sv cX0_isLike 3 1 22 mc ms RX0 wsX0_isLike eX0_isLike X Post G) {lv : zL} {st : List Value} {h : zH} {cs sl : Nat} {Post2 : Option Value → zH → Prop} {mc2 ms2 : Nat} {v1 v2 : Value} (hM : z_Met l D A sa sv yX6_isSameText wsX6_isSameText 0 0 [v1, v2] h Post2 mc2 ms2) (kk : ∀ (r : Option Value) (h2 : zH), Post2 r h2 → G 8 lv (r.toList ++ st) h2 (cs + mc2) (sl + ms2)) (h1 : cs + mc2 ≤ mc) (h2 : sl + ms2 ≤ ms) (h3 : (st.map fun v => v.category).sum ≤ 8 := by exact Nat.le_of_ble_eq_true rfl) : G 5 lv (v2 :: v1 :: st) h cs sl := hG.2.2.2.2.1 5 22 yX6_isSameText RX6 wsX6_isSameText _ _ _ _ 2 0 0 dX0_isLike_5 gX0_isLike_X6_isSameText_n22 rfl (by decide +kernel) (by decide +kernel) (fun U z => z.2.2.2.2.2.2.1) (by decide +kernel) (by decide) lv st h cs sl [v1, v2] Post2 mc2 ms2 rfl hM h1 h2 h3 kk
set_option maxRecDepth 20000 in
theorem kX0_isLike_16 {l : Launch} {D : va_G} {A : Nat → Prop} {sa sv mc ms : Nat} {X : Nat → Option (Nat × Nat × (Nat → Int32))} {Post : Option Value → zH → Prop} {G : zK} (hG : z_Rl l D A sa sv cX0_isLike 3 1 22 mc ms RX0 wsX0_isLike eX0_isLike X Post G) {lv : zL} {st : List Value} {h : zH} {cs sl : Nat} {Post2 : Option Value → zH → Prop} {mc2 ms2 : Nat} {v1 v2 : Value} (hM : z_Met l D A sa sv yX6_isSameText wsX6_isSameText 0 0 [v1, v2] h Post2 mc2 ms2) (kk : ∀ (r : Option Value) (h2 : zH), Post2 r h2 → G 19 lv (r.toList ++ st) h2 (cs + mc2) (sl + ms2)) (h1 : cs + mc2 ≤ mc) (h2 : sl + ms2 ≤ ms) (h3 : (st.map fun v => v.category).sum ≤ 8 := by exact Nat.le_of_ble_eq_true rfl) : G 16 lv (v2 :: v1 :: st) h cs sl := hG.2.2.2.2.1 16 22 yX6_isSameText RX6 wsX6_isSameText _ _ _ _ 2 0 0 dX0_isLike_16 gX0_isLike_X6_isSameText_n22 rfl (by decide +kernel) (by decide +kernel) (fun U z => z.2.2.2.2.2.2.1) (by decide +kernel) (by decide) lv st h cs sl [v1, v2] Post2 mc2 ms2 rfl hM h1 h2 h3 kk
