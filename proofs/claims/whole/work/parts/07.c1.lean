/-! X1_init -/
abbrev eX1_init : zE := ([(7, 1, 1, 0), (15, 1, 0, 2)], [], [(13, 100)], [(1, 0)], 0)
set_option maxRecDepth 20000 in
theorem okX1_init : z_EOK wsX1_init RX1 1 12 true eX1_init := z_EOK.of (by decide +kernel)
theorem lcX1_init {sa sv : Nat} {A : Nat → Prop} (U : State) (_ : z_cn sa sv A U) : z_lcOK RX1 wsX1_init A U eX1_init.2.1 := fun _ h => absurd h List.not_mem_nil
theorem mX1_init {l : Launch} {D : va_G} {A : Nat → Prop} {sa sv mc ms : Nat} {as : List Value} {h : zH} {Post : Option Value → zH → Prop} (hnl : (lg_sl as).length ≤ 2) (body : ∀ G : zK, z_Rl l D A sa sv cX1_init 2 1 12 mc ms RX1 wsX1_init eX1_init (z_X sv) Post G → h sv = none → G 0 (lv_args 0 as) [] h 0 0) : z_Met l D A sa sv yX1_init wsX1_init 1 12 as h Post mc ms := z_meth (ini := true) (by decide +kernel) rfl okX1_init lcX1_init (by trivial) (by decide) hnl body
theorem bX1_init_0 : z_cd cX1_init 0 [(.aload_n 0, 1), (.invokespecial 1, 3), (.aload_n 0, 1), (.iconst 0, 1), (.putfield 7, 3), (.aload_n 0, 1), (.iload_n 1, 1), (.anewarray 13, 3), (.putfield 15, 3), (.return_, 1)] = true := by decide +kernel

/-! X1_isFull -/
abbrev eX1_isFull : zE := ([(7, 1, 1, 0), (15, 1, 0, 7)], [], [], [], 2)
set_option maxRecDepth 20000 in
theorem okX1_isFull : z_EOK wsX1_isFull RX1 0 0 false eX1_isFull := z_EOK.of (by decide +kernel)
theorem lcX1_isFull {sa sv : Nat} {A : Nat → Prop} (U : State) (_ : z_cn sa sv A U) : z_lcOK RX1 wsX1_isFull A U eX1_isFull.2.1 := fun _ h => absurd h List.not_mem_nil
theorem mX1_isFull {l : Launch} {D : va_G} {A : Nat → Prop} {sa sv mc ms : Nat} {as : List Value} {h : zH} {Post : Option Value → zH → Prop} (hnl : (lg_sl as).length ≤ 1) (body : ∀ G : zK, z_Rl l D A sa sv cX1_isFull 1 0 0 mc ms RX1 wsX1_isFull eX1_isFull (z_X sv) Post G → h sv = none → G 0 (lv_args 0 as) [] h 0 0) : z_Met l D A sa sv yX1_isFull wsX1_isFull 0 0 as h Post mc ms := z_meth (ini := false) (by decide +kernel) rfl okX1_isFull lcX1_isFull (by trivial) (by decide) hnl body
theorem bX1_isFull_0 : z_cd cX1_isFull 0 [(.aload_n 0, 1), (.getfield 7, 3), (.aload_n 0, 1), (.getfield 15, 3), (.arraylength, 1), (.if_icmp .lt 7, 3), (.iconst 1, 1), (.goto 4, 3)] = true := by decide +kernel
theorem bX1_isFull_16 : z_cd cX1_isFull 16 [(.iconst 0, 1)] = true := by decide +kernel
theorem bX1_isFull_17 : z_cd cX1_isFull 17 [(.ireturn, 1)] = true := by decide +kernel

/-! X1_clear -/
abbrev eX1_clear : zE := ([(7, 1, 1, 0)], [], [], [], 0)
set_option maxRecDepth 20000 in
theorem okX1_clear : z_EOK wsX1_clear RX1 0 0 false eX1_clear := z_EOK.of (by decide +kernel)
theorem lcX1_clear {sa sv : Nat} {A : Nat → Prop} (U : State) (_ : z_cn sa sv A U) : z_lcOK RX1 wsX1_clear A U eX1_clear.2.1 := fun _ h => absurd h List.not_mem_nil
theorem mX1_clear {l : Launch} {D : va_G} {A : Nat → Prop} {sa sv mc ms : Nat} {as : List Value} {h : zH} {Post : Option Value → zH → Prop} (hnl : (lg_sl as).length ≤ 1) (body : ∀ G : zK, z_Rl l D A sa sv cX1_clear 1 0 0 mc ms RX1 wsX1_clear eX1_clear (z_X sv) Post G → h sv = none → G 0 (lv_args 0 as) [] h 0 0) : z_Met l D A sa sv yX1_clear wsX1_clear 0 0 as h Post mc ms := z_meth (ini := false) (by decide +kernel) rfl okX1_clear lcX1_clear (by trivial) (by decide) hnl body
theorem bX1_clear_0 : z_cd cX1_clear 0 [(.aload_n 0, 1), (.iconst 0, 1), (.putfield 7, 3), (.return_, 1)] = true := by decide +kernel

/-! X1_add -/
abbrev eX1_add : zE := ([(7, 1, 1, 0), (15, 1, 0, 7)], [], [], [], 0)
set_option maxRecDepth 20000 in
theorem okX1_add : z_EOK wsX1_add RX1 0 0 false eX1_add := z_EOK.of (by decide +kernel)
theorem lcX1_add {sa sv : Nat} {A : Nat → Prop} (U : State) (_ : z_cn sa sv A U) : z_lcOK RX1 wsX1_add A U eX1_add.2.1 := fun _ h => absurd h List.not_mem_nil
theorem mX1_add {l : Launch} {D : va_G} {A : Nat → Prop} {sa sv mc ms : Nat} {as : List Value} {h : zH} {Post : Option Value → zH → Prop} (hnl : (lg_sl as).length ≤ 2) (body : ∀ G : zK, z_Rl l D A sa sv cX1_add 2 0 0 mc ms RX1 wsX1_add eX1_add (z_X sv) Post G → h sv = none → G 0 (lv_args 0 as) [] h 0 0) : z_Met l D A sa sv yX1_add wsX1_add 0 0 as h Post mc ms := z_meth (ini := false) (by decide +kernel) rfl okX1_add lcX1_add (by trivial) (by decide) hnl body
theorem bX1_add_0 : z_cd cX1_add 0 [(.aload_n 0, 1), (.getfield 7, 3), (.aload_n 0, 1), (.getfield 15, 3), (.arraylength, 1), (.if_icmp .ge 23, 3), (.aload_n 0, 1), (.getfield 15, 3), (.aload_n 0, 1), (.getfield 7, 3), (.aload_n 1, 1), (.aastore, 1), (.aload_n 0, 1), (.dup, 1), (.getfield 7, 3), (.iconst 1, 1), (.iadd, 1), (.putfield 7, 3)] = true := by decide +kernel
theorem bX1_add_32 : z_cd cX1_add 32 [(.return_, 1)] = true := by decide +kernel

/-! X1_at -/
abbrev eX1_at : zE := ([(7, 1, 1, 0), (15, 1, 0, 7)], [], [], [], 3)
set_option maxRecDepth 20000 in
theorem okX1_at : z_EOK wsX1_at RX1 0 0 false eX1_at := z_EOK.of (by decide +kernel)
theorem lcX1_at {sa sv : Nat} {A : Nat → Prop} (U : State) (_ : z_cn sa sv A U) : z_lcOK RX1 wsX1_at A U eX1_at.2.1 := fun _ h => absurd h List.not_mem_nil
theorem mX1_at {l : Launch} {D : va_G} {A : Nat → Prop} {sa sv mc ms : Nat} {as : List Value} {h : zH} {Post : Option Value → zH → Prop} (hnl : (lg_sl as).length ≤ 2) (body : ∀ G : zK, z_Rl l D A sa sv cX1_at 2 0 0 mc ms RX1 wsX1_at eX1_at (z_X sv) Post G → h sv = none → G 0 (lv_args 0 as) [] h 0 0) : z_Met l D A sa sv yX1_at wsX1_at 0 0 as h Post mc ms := z_meth (ini := false) (by decide +kernel) rfl okX1_at lcX1_at (by trivial) (by decide) hnl body
theorem bX1_at_0 : z_cd cX1_at 0 [(.iload_n 1, 1), (.ifCond .lt 11, 3), (.iload_n 1, 1), (.aload_n 0, 1), (.getfield 7, 3), (.if_icmp .lt 7, 3)] = true := by decide +kernel
theorem bX1_at_12 : z_cd cX1_at 12 [(.aconst_null, 1), (.goto 9, 3)] = true := by decide +kernel
theorem bX1_at_16 : z_cd cX1_at 16 [(.aload_n 0, 1), (.getfield 15, 3), (.iload_n 1, 1), (.aaload, 1)] = true := by decide +kernel
theorem bX1_at_22 : z_cd cX1_at 22 [(.areturn, 1)] = true := by decide +kernel

/-! X1_become -/
abbrev eX1_become : zE := ([(7, 1, 1, 0), (15, 1, 0, 7)], [], [], [], 0)
set_option maxRecDepth 20000 in
theorem okX1_become : z_EOK wsX1_become RX1 1 21 false eX1_become := z_EOK.of (by decide +kernel)
theorem lcX1_become {sa sv : Nat} {A : Nat → Prop} (U : State) (_ : z_cn sa sv A U) : z_lcOK RX1 wsX1_become A U eX1_become.2.1 := fun _ h => absurd h List.not_mem_nil
theorem mX1_become {l : Launch} {D : va_G} {A : Nat → Prop} {sa sv mc ms : Nat} {as : List Value} {h : zH} {Post : Option Value → zH → Prop} (hnl : (lg_sl as).length ≤ 3) (body : ∀ G : zK, z_Rl l D A sa sv cX1_become 3 1 21 mc ms RX1 wsX1_become eX1_become (z_X sv) Post G → h sv = none → G 0 (lv_args 0 as) [] h 0 0) : z_Met l D A sa sv yX1_become wsX1_become 1 21 as h Post mc ms := z_meth (ini := false) (by decide +kernel) rfl okX1_become lcX1_become (by trivial) (by decide) hnl body
theorem bX1_become_0 : z_cd cX1_become 0 [(.aload_n 0, 1)] = true := by decide +kernel
theorem bX1_become_4 : z_cd cX1_become 4 [(.iconst 0, 1), (.istore_n 2, 1)] = true := by decide +kernel
theorem bX1_become_6 : z_cd cX1_become 6 [(.iload_n 2, 1), (.aload_n 1, 1), (.getfield 7, 3), (.if_icmp .ge 19, 3), (.aload_n 0, 1), (.aload_n 1, 1), (.getfield 15, 3), (.iload_n 2, 1), (.aaload, 1)] = true := by decide +kernel
theorem bX1_become_24 : z_cd cX1_become 24 [(.iinc 2 1, 3), (.goto (-21), 3)] = true := by decide +kernel
theorem bX1_become_30 : z_cd cX1_become 30 [(.return_, 1)] = true := by decide +kernel
set_option maxRecDepth 20000 in
theorem kX1_become_1 {l : Launch} {D : va_G} {A : Nat → Prop} {sa sv mc ms : Nat} {X : Nat → Option (Nat × Nat × (Nat → Int32))} {Post : Option Value → zH → Prop} {G : zK} (hG : z_Rl l D A sa sv cX1_become 3 1 21 mc ms RX1 wsX1_become eX1_become X Post G) {lv : zL} {st : List Value} {h : zH} {cs sl b t : Nat} {fs : List Value} {Post2 : Option Value → zH → Prop} {mc2 ms2 : Nat} (hb : h b = some (t, .inr (1, fs))) (hM : z_Met l D A sa sv yX1_clear wsX1_clear 0 0 [.ref b] h Post2 mc2 ms2) (kk : ∀ (r : Option Value) (h2 : zH), Post2 r h2 → G 4 lv (r.toList ++ st) h2 (cs + mc2) (sl + ms2)) (h1 : cs + mc2 ≤ mc) (h2 : sl + ms2 ≤ ms) (h3 : (st.map fun v => v.category).sum ≤ 8 := by exact Nat.le_of_ble_eq_true rfl) : G 1 lv (.ref b :: st) h cs sl := hG.2.1 1 19 yX1_clear wsX1_clear _ _ _ _ RX1 1 0 0 0 dX1_become_1 gX1_become_X1_clear rfl (by decide +kernel) (by decide) (by decide) rfl lv st h cs sl b t fs [] Post2 mc2 ms2 hb rfl hM h1 h2 h3 kk
set_option maxRecDepth 20000 in
theorem kX1_become_21 {l : Launch} {D : va_G} {A : Nat → Prop} {sa sv mc ms : Nat} {X : Nat → Option (Nat × Nat × (Nat → Int32))} {Post : Option Value → zH → Prop} {G : zK} (hG : z_Rl l D A sa sv cX1_become 3 1 21 mc ms RX1 wsX1_become eX1_become X Post G) {lv : zL} {st : List Value} {h : zH} {cs sl b t : Nat} {fs : List Value} {Post2 : Option Value → zH → Prop} {mc2 ms2 : Nat} {v1 : Value} (hb : h b = some (t, .inr (1, fs))) (hM : z_Met l D A sa sv yX1_add wsX1_add 0 0 [.ref b, v1] h Post2 mc2 ms2) (kk : ∀ (r : Option Value) (h2 : zH), Post2 r h2 → G 24 lv (r.toList ++ st) h2 (cs + mc2) (sl + ms2)) (h1 : cs + mc2 ≤ mc) (h2 : sl + ms2 ≤ ms) (h3 : (st.map fun v => v.category).sum ≤ 8 := by exact Nat.le_of_ble_eq_true rfl) : G 21 lv (v1 :: .ref b :: st) h cs sl := hG.2.1 21 22 yX1_add wsX1_add _ _ _ _ RX1 1 1 0 0 dX1_become_21 gX1_become_X1_add rfl (by decide +kernel) (by decide) (by decide) rfl lv st h cs sl b t fs [v1] Post2 mc2 ms2 hb rfl hM h1 h2 h3 kk
