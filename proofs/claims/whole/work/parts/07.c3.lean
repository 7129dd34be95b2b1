/-! X3_init -/
abbrev eX3_init : zE := ([(9, 3, 1, 2), (15, 3, 2, 0), (19, 3, 3, 1), (23, 3, 0, 0)], [], [], [(3, 0), (100001, 2)], 0)
set_option maxRecDepth 20000 in
theorem okX3_init : z_EOK wsX3_init RX3 1 12 true eX3_init := z_EOK.of (by decide +kernel)
theorem lcX3_init {sa sv : Nat} {A : Nat → Prop} (U : State) (_ : z_cn sa sv A U) : z_lcOK RX3 wsX3_init A U eX3_init.2.1 := fun _ h => absurd h List.not_mem_nil
theorem mX3_init {l : Launch} {D : va_G} {A : Nat → Prop} {sa sv mc ms : Nat} {as : List Value} {h : zH} {Post : Option Value → zH → Prop} (hnl : (lg_sl as).length ≤ 2) (body : ∀ G : zK, z_Rl l D A sa sv cX3_init 2 1 12 mc ms RX3 wsX3_init eX3_init (z_X sv) Post G → h sv = none → G 0 (lv_args 0 as) [] h 0 0) : z_Met l D A sa sv yX3_init wsX3_init 1 12 as h Post mc ms := z_meth (ini := true) (by decide +kernel) rfl okX3_init lcX3_init (by trivial) (by decide) hnl body
theorem bX3_init_0 : z_cd cX3_init 0 [(.aload_n 0, 1), (.invokespecial 3, 3), (.aload_n 0, 1), (.bipush 32, 2), (.newarray .int, 2), (.putfield 9, 3), (.aload_n 0, 1), (.iconst 0, 1), (.putfield 15, 3), (.aload_n 0, 1), (.iconst 0, 1), (.putfield 19, 3), (.aload_n 0, 1), (.iload_n 1, 1), (.putfield 23, 3), (.return_, 1)] = true := by decide +kernel

/-! X3_clear -/
abbrev eX3_clear : zE := ([(15, 3, 2, 0), (19, 3, 3, 1)], [], [], [], 0)
set_option maxRecDepth 20000 in
theorem okX3_clear : z_EOK wsX3_clear RX3 0 0 false eX3_clear := z_EOK.of (by decide +kernel)
theorem lcX3_clear {sa sv : Nat} {A : Nat → Prop} (U : State) (_ : z_cn sa sv A U) : z_lcOK RX3 wsX3_clear A U eX3_clear.2.1 := fun _ h => absurd h List.not_mem_nil
theorem mX3_clear {l : Launch} {D : va_G} {A : Nat → Prop} {sa sv mc ms : Nat} {as : List Value} {h : zH} {Post : Option Value → zH → Prop} (hnl : (lg_sl as).length ≤ 1) (body : ∀ G : zK, z_Rl l D A sa sv cX3_clear 1 0 0 mc ms RX3 wsX3_clear eX3_clear (z_X sv) Post G → h sv = none → G 0 (lv_args 0 as) [] h 0 0) : z_Met l D A sa sv yX3_clear wsX3_clear 0 0 as h Post mc ms := z_meth (ini := false) (by decide +kernel) rfl okX3_clear lcX3_clear (by trivial) (by decide) hnl body
theorem bX3_clear_0 : z_cd cX3_clear 0 [(.aload_n 0, 1), (.iconst 0, 1), (.putfield 15, 3), (.aload_n 0, 1), (.iconst 0, 1), (.putfield 19, 3), (.return_, 1)] = true := by decide +kernel

/-! X3_add -/
abbrev eX3_add : zE := ([(9, 3, 1, 2), (15, 3, 2, 0), (19, 3, 3, 1), (23, 3, 0, 7)], [], [], [(26, 1)], 0)
set_option maxRecDepth 20000 in
theorem okX3_add : z_EOK wsX3_add RX3 2 82 false eX3_add := z_EOK.of (by decide +kernel)
theorem lcX3_add {sa sv : Nat} {A : Nat → Prop} (U : State) (_ : z_cn sa sv A U) : z_lcOK RX3 wsX3_add A U eX3_add.2.1 := fun _ h => absurd h List.not_mem_nil
theorem mX3_add {l : Launch} {D : va_G} {A : Nat → Prop} {sa sv mc ms : Nat} {as : List Value} {h : zH} {Post : Option Value → zH → Prop} (hnl : (lg_sl as).length ≤ 2) (body : ∀ G : zK, z_Rl l D A sa sv cX3_add 2 2 82 mc ms RX3 wsX3_add eX3_add (z_X sv) Post G → h sv = none → G 0 (lv_args 0 as) [] h 0 0) : z_Met l D A sa sv yX3_add wsX3_add 2 82 as h Post mc ms := z_meth (ini := false) (by decide +kernel) rfl okX3_add lcX3_add (by trivial) (by decide) hnl body
theorem bX3_add_0 : z_cd cX3_add 0 [(.aload_n 0, 1), (.getfield 15, 3), (.aload_n 0, 1), (.getfield 23, 3), (.if_icmp .lt 9, 3), (.aload_n 0, 1), (.iconst 1, 1), (.putfield 19, 3), (.return_, 1)] = true := by decide +kernel
theorem bX3_add_17 : z_cd cX3_add 17 [(.aload_n 0, 1), (.getfield 15, 3), (.aload_n 0, 1), (.getfield 9, 3), (.arraylength, 1), (.if_icmp .lt 28, 3), (.aload_n 0, 1), (.aload_n 0, 1), (.getfield 9, 3), (.aload_n 0, 1), (.getfield 23, 3), (.iconst 2, 1), (.aload_n 0, 1), (.getfield 9, 3), (.arraylength, 1), (.imul, 1), (.invokestatic 26, 3)] = true := by decide +kernel
theorem bX3_add_51 : z_cd cX3_add 51 [(.putfield 9, 3)] = true := by decide +kernel
theorem bX3_add_54 : z_cd cX3_add 54 [(.aload_n 0, 1), (.getfield 9, 3), (.aload_n 0, 1), (.getfield 15, 3), (.iload_n 1, 1), (.iastore, 1), (.aload_n 0, 1), (.dup, 1), (.getfield 15, 3), (.iconst 1, 1), (.iadd, 1), (.putfield 15, 3), (.return_, 1)] = true := by decide +kernel
set_option maxRecDepth 20000 in
theorem kX3_add_48 {l : Launch} {D : va_G} {A : Nat → Prop} {sa sv mc ms : Nat} {X : Nat → Option (Nat × Nat × (Nat → Int32))} {Post : Option Value → zH → Prop} {G : zK} (hG : z_Rl l D A sa sv cX3_add 2 2 82 mc ms RX3 wsX3_add eX3_add X Post G) {lv : zL} {st : List Value} {h : zH} {cs sl : Nat} {Post2 : Option Value → zH → Prop} {mc2 ms2 : Nat} {v1 v2 : Value} (hM : z_Met l D A sa sv yJ7_copyOf_59c91 wsJ7_copyOf_59c91 1 60 [v1, v2] h Post2 mc2 ms2) (kk : ∀ (r : Option Value) (h2 : zH), Post2 r h2 → G 51 lv (r.toList ++ st) h2 (cs + mc2) (sl + ms2)) (h1 : cs + mc2 ≤ mc) (h2 : sl + ms2 ≤ ms) (h3 : (st.map fun v => v.category).sum ≤ 8 := by exact Nat.le_of_ble_eq_true rfl) : G 48 lv (v2 :: v1 :: st) h cs sl := hG.2.2.1 48 32 yJ7_copyOf_59c91 wsJ7_copyOf_59c91 _ _ _ _ 2 1 60 dX3_add_48 gX3_add_J7_copyOf_59c91 rfl (by decide +kernel) (by decide) lv st h cs sl [v1, v2] Post2 mc2 ms2 rfl hM h1 h2 h3 kk

/-! X3_addLowest -/
abbrev eX3_addLowest : zE := ([(15, 3, 2, 0), (23, 3, 0, 7)], [], [], [], 1)
set_option maxRecDepth 20000 in
theorem okX3_addLowest : z_EOK wsX3_addLowest RX3 3 103 false eX3_addLowest := z_EOK.of (by decide +kernel)
theorem lcX3_addLowest {sa sv : Nat} {A : Nat → Prop} (U : State) (_ : z_cn sa sv A U) : z_lcOK RX3 wsX3_addLowest A U eX3_addLowest.2.1 := fun _ h => absurd h List.not_mem_nil
theorem mX3_addLowest {l : Launch} {D : va_G} {A : Nat → Prop} {sa sv mc ms : Nat} {as : List Value} {h : zH} {Post : Option Value → zH → Prop} (hnl : (lg_sl as).length ≤ 5) (body : ∀ G : zK, z_Rl l D A sa sv cX3_addLowest 5 3 103 mc ms RX3 wsX3_addLowest eX3_addLowest (z_X sv) Post G → h sv = none → G 0 (lv_args 0 as) [] h 0 0) : z_Met l D A sa sv yX3_addLowest wsX3_addLowest 3 103 as h Post mc ms := z_meth (ini := false) (by decide +kernel) rfl okX3_addLowest lcX3_addLowest (by trivial) (by decide) hnl body
theorem bX3_addLowest_0 : z_cd cX3_addLowest 0 [(.iload_n 3, 1), (.iconst 1, 1), (.if_icmp .lt 22, 3), (.iload_n 3, 1), (.bipush 8, 2), (.if_icmp .gt 16, 3), (.aload_n 0, 1), (.getfield 15, 3), (.iload_n 3, 1), (.iadd, 1), (.aload_n 0, 1), (.getfield 23, 3), (.if_icmp .le 5, 3)] = true := by decide +kernel
theorem bX3_addLowest_24 : z_cd cX3_addLowest 24 [(.iconst (-1), 1), (.ireturn, 1)] = true := by decide +kernel
theorem bX3_addLowest_26 : z_cd cX3_addLowest 26 [(.iload_n 3, 1), (.iconst 1, 1), (.isub, 1), (.istore 4, 2)] = true := by decide +kernel
theorem bX3_addLowest_31 : z_cd cX3_addLowest 31 [(.iload 4, 2), (.ifCond .lt 25, 3), (.aload_n 0, 1), (.lload_n 1, 1), (.bipush 8, 2), (.iload 4, 2), (.imul, 1), (.lushr, 1), (.l2i, 1), (.sipush 255, 3), (.iand, 1)] = true := by decide +kernel
theorem bX3_addLowest_52 : z_cd cX3_addLowest 52 [(.iinc 4 (-1), 3), (.goto (-24), 3)] = true := by decide +kernel
theorem bX3_addLowest_58 : z_cd cX3_addLowest 58 [(.aload_n 0, 1), (.getfield 15, 3), (.ireturn, 1)] = true := by decide +kernel
set_option maxRecDepth 20000 in
theorem kX3_addLowest_49 {l : Launch} {D : va_G} {A : Nat → Prop} {sa sv mc ms : Nat} {X : Nat → Option (Nat × Nat × (Nat → Int32))} {Post : Option Value → zH → Prop} {G : zK} (hG : z_Rl l D A sa sv cX3_addLowest 5 3 103 mc ms RX3 wsX3_addLowest eX3_addLowest X Post G) {lv : zL} {st : List Value} {h : zH} {cs sl b t : Nat} {fs : List Value} {Post2 : Option Value → zH → Prop} {mc2 ms2 : Nat} {v1 : Value} (hb : h b = some (t, .inr (3, fs))) (hM : z_Met l D A sa sv yX3_add wsX3_add 2 82 [.ref b, v1] h Post2 mc2 ms2) (kk : ∀ (r : Option Value) (h2 : zH), Post2 r h2 → G 52 lv (r.toList ++ st) h2 (cs + mc2) (sl + ms2)) (h1 : cs + mc2 ≤ mc) (h2 : sl + ms2 ≤ ms) (h3 : (st.map fun v => v.category).sum ≤ 8 := by exact Nat.le_of_ble_eq_true rfl) : G 49 lv (v1 :: .ref b :: st) h cs sl := hG.2.1 49 38 yX3_add wsX3_add _ _ _ _ RX3 3 1 2 82 dX3_addLowest_49 gX3_addLowest_X3_add rfl (by decide +kernel) (by decide) (by decide) rfl lv st h cs sl b t fs [v1] Post2 mc2 ms2 hb rfl hM h1 h2 h3 kk

/-! X3_at -/
abbrev eX3_at : zE := ([(9, 3, 1, 2), (15, 3, 2, 0)], [], [], [], 1)
set_option maxRecDepth 20000 in
theorem okX3_at : z_EOK wsX3_at RX3 0 0 false eX3_at := z_EOK.of (by decide +kernel)
theorem lcX3_at {sa sv : Nat} {A : Nat → Prop} (U : State) (_ : z_cn sa sv A U) : z_lcOK RX3 wsX3_at A U eX3_at.2.1 := fun _ h => absurd h List.not_mem_nil
theorem mX3_at {l : Launch} {D : va_G} {A : Nat → Prop} {sa sv mc ms : Nat} {as : List Value} {h : zH} {Post : Option Value → zH → Prop} (hnl : (lg_sl as).length ≤ 2) (body : ∀ G : zK, z_Rl l D A sa sv cX3_at 2 0 0 mc ms RX3 wsX3_at eX3_at (z_X sv) Post G → h sv = none → G 0 (lv_args 0 as) [] h 0 0) : z_Met l D A sa sv yX3_at wsX3_at 0 0 as h Post mc ms := z_meth (ini := false) (by decide +kernel) rfl okX3_at lcX3_at (by trivial) (by decide) hnl body
theorem bX3_at_0 : z_cd cX3_at 0 [(.iload_n 1, 1), (.ifCond .lt 11, 3), (.iload_n 1, 1), (.aload_n 0, 1), (.getfield 15, 3), (.if_icmp .lt 7, 3)] = true := by decide +kernel
theorem bX3_at_12 : z_cd cX3_at 12 [(.iconst (-1), 1), (.goto 9, 3)] = true := by decide +kernel
theorem bX3_at_16 : z_cd cX3_at 16 [(.aload_n 0, 1), (.getfield 9, 3), (.iload_n 1, 1), (.iaload, 1)] = true := by decide +kernel
theorem bX3_at_22 : z_cd cX3_at 22 [(.ireturn, 1)] = true := by decide +kernel

/-! X3_takeAll -/
abbrev eX3_takeAll : zE := ([(9, 3, 1, 2), (15, 3, 2, 0)], [], [], [], 3)
set_option maxRecDepth 20000 in
theorem okX3_takeAll : z_EOK wsX3_takeAll RX3 2 82 false eX3_takeAll := z_EOK.of (by decide +kernel)
theorem lcX3_takeAll {sa sv : Nat} {A : Nat → Prop} (U : State) (_ : z_cn sa sv A U) : z_lcOK RX3 wsX3_takeAll A U eX3_takeAll.2.1 := fun _ h => absurd h List.not_mem_nil
theorem mX3_takeAll {l : Launch} {D : va_G} {A : Nat → Prop} {sa sv mc ms : Nat} {as : List Value} {h : zH} {Post : Option Value → zH → Prop} (hnl : (lg_sl as).length ≤ 2) (body : ∀ G : zK, z_Rl l D A sa sv cX3_takeAll 2 2 82 mc ms RX3 wsX3_takeAll eX3_takeAll (z_X sv) Post G → h sv = none → G 0 (lv_args 0 as) [] h 0 0) : z_Met l D A sa sv yX3_takeAll wsX3_takeAll 2 82 as h Post mc ms := z_meth (ini := false) (by decide +kernel) rfl okX3_takeAll lcX3_takeAll (by trivial) (by decide) hnl body
theorem bX3_takeAll_0 : z_cd cX3_takeAll 0 [(.aload_n 0, 1), (.getfield 9, 3), (.aload_n 0, 1), (.getfield 15, 3)] = true := by decide +kernel
theorem bX3_takeAll_11 : z_cd cX3_takeAll 11 [(.astore_n 1, 1), (.aload_n 0, 1)] = true := by decide +kernel
theorem bX3_takeAll_16 : z_cd cX3_takeAll 16 [(.aload_n 1, 1), (.areturn, 1)] = true := by decide +kernel
set_option maxRecDepth 20000 in
theorem kX3_takeAll_8 {l : Launch} {D : va_G} {A : Nat → Prop} {sa sv mc ms : Nat} {X : Nat → Option (Nat × Nat × (Nat → Int32))} {Post : Option Value → zH → Prop} {G : zK} (hG : z_Rl l D A sa sv cX3_takeAll 2 2 82 mc ms RX3 wsX3_takeAll eX3_takeAll X Post G) {lv : zL} {st : List Value} {h : zH} {cs sl : Nat} {Post2 : Option Value → zH → Prop} {mc2 ms2 : Nat} {v1 v2 : Value} (hM : z_Met l D A sa sv yJ7_copyOf_59c91 wsJ7_copyOf_59c91 1 60 [v1, v2] h Post2 mc2 ms2) (kk : ∀ (r : Option Value) (h2 : zH), Post2 r h2 → G 11 lv (r.toList ++ st) h2 (cs + mc2) (sl + ms2)) (h1 : cs + mc2 ≤ mc) (h2 : sl + ms2 ≤ ms) (h3 : (st.map fun v => v.category).sum ≤ 8 := by exact Nat.le_of_ble_eq_true rfl) : G 8 lv (v2 :: v1 :: st) h cs sl := hG.2.2.1 8 32 yJ7_copyOf_59c91 wsJ7_copyOf_59c91 _ _ _ _ 2 1 60 dX3_takeAll_8 gX3_takeAll_J7_copyOf_59c91 rfl (by decide +kernel) (by decide) lv st h cs sl [v1, v2] Post2 mc2 ms2 rfl hM h1 h2 h3 kk
set_option maxRecDepth 20000 in
theorem kX3_takeAll_13 {l : Launch} {D : va_G} {A : Nat → Prop} {sa sv mc ms : Nat} {X : Nat → Option (Nat × Nat × (Nat → Int32))} {Post : Option Value → zH → Prop} {G : zK} (hG : z_Rl l D A sa sv cX3_takeAll 2 2 82 mc ms RX3 wsX3_takeAll eX3_takeAll X Post G) {lv : zL} {st : List Value} {h : zH} {cs sl b t : Nat} {fs : List Value} {Post2 : Option Value → zH → Prop} {mc2 ms2 : Nat} (hb : h b = some (t, .inr (3, fs))) (hM : z_Met l D A sa sv yX3_clear wsX3_clear 0 0 [.ref b] h Post2 mc2 ms2) (kk : ∀ (r : Option Value) (h2 : zH), Post2 r h2 → G 16 lv (r.toList ++ st) h2 (cs + mc2) (sl + ms2)) (h1 : cs + mc2 ≤ mc) (h2 : sl + ms2 ≤ ms) (h3 : (st.map fun v => v.category).sum ≤ 8 := by exact Nat.le_of_ble_eq_true rfl) : G 13 lv (.ref b :: st) h cs sl := hG.2.1 13 42 yX3_clear wsX3_clear _ _ _ _ RX3 3 0 0 0 dX3_takeAll_13 gX3_takeAll_X3_clear rfl (by decide +kernel) (by decide) (by decide) rfl lv st h cs sl b t fs [] Post2 mc2 ms2 hb rfl hM h1 h2 h3 kk

/-! X3_become -/
abbrev eX3_become : zE := ([(9, 3, 1, 2), (15, 3, 2, 0)], [], [], [], 0)
set_option maxRecDepth 20000 in
theorem okX3_become : z_EOK wsX3_become RX3 3 103 false eX3_become := z_EOK.of (by decide +kernel)
theorem lcX3_become {sa sv : Nat} {A : Nat → Prop} (U : State) (_ : z_cn sa sv A U) : z_lcOK RX3 wsX3_become A U eX3_become.2.1 := fun _ h => absurd h List.not_mem_nil
theorem mX3_become {l : Launch} {D : va_G} {A : Nat → Prop} {sa sv mc ms : Nat} {as : List Value} {h : zH} {Post : Option Value → zH → Prop} (hnl : (lg_sl as).length ≤ 3) (body : ∀ G : zK, z_Rl l D A sa sv cX3_become 3 3 103 mc ms RX3 wsX3_become eX3_become (z_X sv) Post G → h sv = none → G 0 (lv_args 0 as) [] h 0 0) : z_Met l D A sa sv yX3_become wsX3_become 3 103 as h Post mc ms := z_meth (ini := false) (by decide +kernel) rfl okX3_become lcX3_become (by trivial) (by decide) hnl body
theorem bX3_become_0 : z_cd cX3_become 0 [(.aload_n 0, 1)] = true := by decide +kernel
theorem bX3_become_4 : z_cd cX3_become 4 [(.iconst 0, 1), (.istore_n 2, 1)] = true := by decide +kernel
theorem bX3_become_6 : z_cd cX3_become 6 [(.iload_n 2, 1), (.aload_n 1, 1), (.getfield 15, 3), (.if_icmp .ge 19, 3), (.aload_n 0, 1), (.aload_n 1, 1), (.getfield 9, 3), (.iload_n 2, 1), (.iaload, 1)] = true := by decide +kernel
theorem bX3_become_24 : z_cd cX3_become 24 [(.iinc 2 1, 3), (.goto (-21), 3)] = true := by decide +kernel
theorem bX3_become_30 : z_cd cX3_become 30 [(.return_, 1)] = true := by decide +kernel
set_option maxRecDepth 20000 in
theorem kX3_become_1 {l : Launch} {D : va_G} {A : Nat → Prop} {sa sv mc ms : Nat} {X : Nat → Option (Nat × Nat × (Nat → Int32))} {Post : Option Value → zH → Prop} {G : zK} (hG : z_Rl l D A sa sv cX3_become 3 3 103 mc ms RX3 wsX3_become eX3_become X Post G) {lv : zL} {st : List Value} {h : zH} {cs sl b t : Nat} {fs : List Value} {Post2 : Option Value → zH → Prop} {mc2 ms2 : Nat} (hb : h b = some (t, .inr (3, fs))) (hM : z_Met l D A sa sv yX3_clear wsX3_clear 0 0 [.ref b] h Post2 mc2 ms2) (kk : ∀ (r : Option Value) (h2 : zH), Post2 r h2 → G 4 lv (r.toList ++ st) h2 (cs + mc2) (sl + ms2)) (h1 : cs + mc2 ≤ mc) (h2 : sl + ms2 ≤ ms) (h3 : (st.map fun v => v.category).sum ≤ 8 := by exact Nat.le_of_ble_eq_true rfl) : G 1 lv (.ref b :: st) h cs sl := hG.2.1 1 42 yX3_clear wsX3_clear _ _ _ _ RX3 3 0 0 0 dX3_become_1 gX3_become_X3_clear rfl (by decide +kernel) (by decide) (by decide) rfl lv st h cs sl b t fs [] Post2 mc2 ms2 hb rfl hM h1 h2 h3 kk
set_option maxRecDepth 20000 in
theorem kX3_become_21 {l : Launch} {D : va_G} {A : Nat → Prop} {sa sv mc ms : Nat} {X : Nat → Option (Nat × Nat × (Nat → Int32))} {Post : Option Value → zH → Prop} {G : zK} (hG : z_Rl l D A sa sv cX3_become 3 3 103 mc ms RX3 wsX3_become eX3_become X Post G) {lv : zL} {st : List Value} {h : zH} {cs sl b t : Nat} {fs : List Value} {Post2 : Option Value → zH → Prop} {mc2 ms2 : Nat} {v1 : Value} (hb : h b = some (t, .inr (3, fs))) (hM : z_Met l D A sa sv yX3_add wsX3_add 2 82 [.ref b, v1] h Post2 mc2 ms2) (kk : ∀ (r : Option Value) (h2 : zH), Post2 r h2 → G 24 lv (r.toList ++ st) h2 (cs + mc2) (sl + ms2)) (h1 : cs + mc2 ≤ mc) (h2 : sl + ms2 ≤ ms) (h3 : (st.map fun v => v.category).sum ≤ 8 := by exact Nat.le_of_ble_eq_true rfl) : G 21 lv (v1 :: .ref b :: st) h cs sl := hG.2.1 21 38 yX3_add wsX3_add _ _ _ _ RX3 3 1 2 82 dX3_become_21 gX3_become_X3_add rfl (by decide +kernel) (by decide) (by decide) rfl lv st h cs sl b t fs [v1] Post2 mc2 ms2 hb rfl hM h1 h2 h3 kk
