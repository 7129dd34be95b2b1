/-! THE COLOURED HEAP AND THE WEAKEST PRECONDITION OF A RUN OF INSTRUCTIONS -/
abbrev zC : Type := (Nat × vp_A) ⊕ (Nat × List Value)
abbrev zH : Type := Nat → Option (Nat × zC)
abbrev zL : Type := List (Nat × Value)
def z_ty (k : Nat) : FieldType := match k with
  | 0 => .byte
  | 1 => .int
  | 2 => .boolean
  | _ => .object RX0
def z_rel (D : va_G) (s : State) (x : zC) (y : va_E) : Prop := match x with
  | .inr o => y = .inr o
  | .inl q => ∃ cA : ClassId, va_K D vwCl [(cA, z_ty q.1)] s ∧ y = .inl (cA, q.2)
def z_Hp (D : va_G) (A : Nat → Prop) (s : State) (h : zH) (H : Heap) : Prop := ∃ (L : List Nat) (f : Nat → va_E), (∀ a : Nat, a ∈ L → ∃ (t : Nat) (x : zC), h a = some (t, x) ∧ z_rel D s x (f a)) ∧ (∀ a : Nat, a ∉ L → h a = none) ∧ va_P D vwCl (va_pl L f) H ∧ va_D A (va_pl L f)
theorem z_rel.moved {D : va_G} {s u : State} {x : zC} {y : va_E} (hv : s.vm.Alike u.vm) (h : z_rel D s x y) : z_rel D u x y := by
  cases x with
  | inr o => exact h
  | inl q =>
    obtain ⟨cA, h1, h2⟩ := h
    exact ⟨cA, va_K.moved hv h1, h2⟩
theorem z_Hp.moved {D : va_G} {A : Nat → Prop} {s u : State} {h : zH} {H : Heap} (hv : s.vm.Alike u.vm) (hp : z_Hp D A s h H) : z_Hp D A u h H := by
  obtain ⟨L, f, h1, h2, h3, h4⟩ := hp
  refine ⟨L, f, fun a ha => ?_, h2, h3, h4⟩
  obtain ⟨t, x, e1, e2⟩ := h1 a ha
  exact ⟨t, x, e1, e2.moved hv⟩
theorem z_rd {D : va_G} {A : Nat → Prop} {s : State} {h : zH} {H : Heap} (hp : z_Hp D A s h H) {a t : Nat} {x : zC} (ha : h a = some (t, x)) : ∃ (L : List Nat) (f : Nat → va_E) (k : Nat), (∀ a : Nat, a ∈ L → ∃ (t : Nat) (x : zC), h a = some (t, x) ∧ z_rel D s x (f a)) ∧ (∀ a : Nat, a ∉ L → h a = none) ∧ a ∈ L ∧ z_rel D s x (f a) ∧ (va_pl L f)[k]? = some (a, f a) ∧ va_P D vwCl (va_pl L f) H ∧ va_D A (va_pl L f) := by
  obtain ⟨L, f, h1, h2, h3, h4⟩ := hp
  have hm : a ∈ L := by
    by_cases q : a ∈ L
    · exact q
    · rw [h2 a q] at ha
      cases ha
  obtain ⟨t', x', e1, e2⟩ := h1 a hm
  rw [ha] at e1
  cases e1
  obtain ⟨k, hk⟩ := va_pl_get (X := []) (f := f) hm
  exact ⟨L, f, k, h1, h2, hm, e2, hk, h3, h4⟩
theorem z_wr {D : va_G} {A : Nat → Prop} {s : State} {h : zH} {H1 : Heap} {L : List Nat} {f : Nat → va_E} {k a : Nat} (h1 : ∀ a : Nat, a ∈ L → ∃ (t : Nat) (x : zC), h a = some (t, x) ∧ z_rel D s x (f a)) (h2 : ∀ a : Nat, a ∉ L → h a = none) (hm : a ∈ L) (hk : (va_pl L f)[k]? = some (a, f a)) (hD : va_D A (va_pl L f)) (t' : Nat) {x' : zC} {e' : va_E} (hr : z_rel D s x' e') (hP1 : va_P D vwCl ((va_pl L f).set k (a, e')) H1) (hD1 : va_D A ((va_pl L f).set k (a, e'))) : z_Hp D A s (va_up h a (some (t', x'))) H1 := by
  have hs : ([] ++ va_pl L f).set k (a, e') = [] ++ va_pl L (va_up f a e') := va_pl_set (X := []) hD hm hk
  rw [List.nil_append, List.nil_append] at hs
  rw [hs] at hP1 hD1
  refine ⟨L, va_up f a e', fun b hb => ?_, fun b hb => ?_, hP1, hD1⟩
  · by_cases q : b = a
    · subst q
      exact ⟨t', x', by simp [va_up], by simpa [va_up] using hr⟩
    · obtain ⟨t, x, e1, e2⟩ := h1 b hb
      exact ⟨t, x, by simpa [va_up, q] using e1, by simpa [va_up, q] using e2⟩
  · have q : b ≠ a := fun q => hb (q ▸ hm)
    simpa [va_up, q] using h2 b hb
theorem z_nw {D : va_G} {A : Nat → Prop} {s : State} {h : zH} {H1 : Heap} {L : List Nat} {f : Nat → va_E} {q : Nat} (h1 : ∀ a : Nat, a ∈ L → ∃ (t : Nat) (x : zC), h a = some (t, x) ∧ z_rel D s x (f a)) (h2 : ∀ a : Nat, a ∉ L → h a = none) (t' : Nat) {x' : zC} {e' : va_E} (hr : z_rel D s x' e') (hP1 : va_P D vwCl (va_pl L f ++ [(q, e')]) H1) (hD1 : va_D A (va_pl L f ++ [(q, e')])) : h q = none ∧ z_Hp D A s (va_up h q (some (t', x'))) H1 := by
  have hq : q ∉ L := by
    intro hm
    obtain ⟨k, hk⟩ := va_pl_get (X := []) (f := f) hm
    rw [List.nil_append] at hk
    have hl := (List.getElem?_eq_some_iff.mp hk).1
    have := hD1.1 k (va_pl L f).length (q, f q) (q, e') (by rw [List.getElem?_append_left hl]; exact hk) (by simp) rfl
    omega
  rw [va_pl_push hq] at hP1 hD1
  refine ⟨h2 q hq, L ++ [q], va_up f q e', fun b hb => ?_, fun b hb => ?_, hP1, hD1⟩
  · by_cases z : b = q
    · subst z
      exact ⟨t', x', by simp [va_up], by simpa [va_up] using hr⟩
    · have hb : b ∈ L := by simpa [z] using hb
      obtain ⟨t, x, e1, e2⟩ := h1 b hb
      exact ⟨t, x, by simpa [va_up, z] using e1, by simpa [va_up, z] using e2⟩
  · have z : b ≠ q := fun z => hb (by simp [z])
    have hb : b ∉ L := fun z => hb (by simp [z])
    simpa [va_up, z] using h2 b hb
/-- the same cells in other colours -/
theorem z_Hp.paint {D : va_G} {A : Nat → Prop} {s : State} {h h' : zH} {H : Heap} (hp : z_Hp D A s h H) (he : ∀ a : Nat, (h' a).map (fun q => q.2) = (h a).map (fun q => q.2)) : z_Hp D A s h' H := by
  obtain ⟨L, f, h1, h2, h3, h4⟩ := hp
  refine ⟨L, f, fun a ha => ?_, fun a ha => ?_, h3, h4⟩
  · obtain ⟨t, x, e1, e2⟩ := h1 a ha
    have := he a
    rw [e1] at this
    cases hh : h' a with
    | none => rw [hh] at this; cases this
    | some q =>
      rw [hh] at this
      obtain ⟨t', x'⟩ := q
      simp only [Option.map_some, Option.some.injEq] at this
      exact ⟨t', x', rfl, this ▸ e2⟩
  · have := he a
    rw [h2 a ha] at this
    cases hh : h' a with
    | none => rfl
    | some q => rw [hh] at this; cases this
/-! locals -/
def z_lk {α : Type} : List (Nat × α) → Nat → Option α
  | [], _ => none
  | (j, v) :: r, i => if j = i then some v else z_lk r i
theorem z_lkm {α : Type} : ∀ (l : List (Nat × α)) (i : Nat) (v : α), z_lk l i = some v → (i, v) ∈ l
  | [], _, _, h => by cases h
  | (j, w) :: r, i, v, h => by
    by_cases q : j = i
    · subst q
      rw [z_lk, if_pos rfl] at h
      cases h
      exact List.mem_cons_self
    · rw [z_lk, if_neg q] at h
      exact List.mem_cons_of_mem _ (z_lkm r i v h)
def z_isl : Value → Bool
  | .long _ => true
  | .double _ => true
  | _ => false
theorem z_cat {v : Value} (h : z_isl v = false) : v.category = 1 := by cases v <;> first | rfl | cases h
def z_rmv : zL → Nat → zL
  | [], _ => []
  | (j, w) :: r, i => if j = i then z_rmv r i else if j + 1 = i then (if z_isl w = true then z_rmv r i else (j, w) :: z_rmv r i) else (j, w) :: z_rmv r i
def z_sto (lv : zL) (i : Nat) (v : Value) : zL := (i, v) :: z_rmv lv i
theorem z_rmv_in : ∀ (lv : zL) (i : Nat) (q : Nat × Value), q ∈ z_rmv lv i → q ∈ lv.filter (fun q => !(q.1 == i) && !(q.1 + 1 == i && q.2.category == 2))
  | [], _, _, h => by cases h
  | (j, w) :: r, i, q, h => by
    have ih := z_rmv_in r i q
    rw [List.filter_cons]
    by_cases a : j = i
    · rw [z_rmv, if_pos a] at h
      simp only [a, beq_self_eq_true, Bool.not_true, Bool.false_and, Bool.false_eq_true, if_false]
      exact ih h
    · rw [z_rmv, if_neg a] at h
      by_cases b : j + 1 = i
      · rw [if_pos b] at h
        by_cases c : z_isl w = true
        · rw [if_pos c] at h
          split
          · exact List.mem_cons_of_mem _ (ih h)
          · exact ih h
        · rw [if_neg c] at h
          have hc : w.category = 1 := z_cat (by simpa using c)
          rw [if_pos (by simp [a, hc])]
          rcases List.mem_cons.mp h with h | h
          · exact List.mem_cons.mpr (Or.inl h)
          · exact List.mem_cons_of_mem _ (ih h)
      · rw [if_neg b] at h
        rw [if_pos (by simp [a, b])]
        rcases List.mem_cons.mp h with h | h
        · exact List.mem_cons.mpr (Or.inl h)
        · exact List.mem_cons_of_mem _ (ih h)
theorem z_has {ls : Array Slot} {nL i : Nat} {v : Value} {lv : zL} (h : lv_has ls nL ((i, v) :: lv.filter (fun q => !(q.1 == i) && !(q.1 + 1 == i && q.2.category == 2)))) : lv_has ls nL (z_sto lv i v) := by
  refine ⟨h.1, h.2.1, fun q hq => h.2.2 q ?_⟩
  rcases List.mem_cons.mp hq with e | e
  · exact List.mem_cons.mpr (Or.inl e)
  · exact List.mem_cons_of_mem _ (z_rmv_in lv i q e)
/-! the tables of the classes -/
def z_R (ci : Nat) : String := match ci with
  | 0 => RX0 | 1 => RX1 | 2 => RX2 | 3 => RX3 | 4 => RX4 | 5 => RX5 | 6 => RX6 | _ => RX7
def z_T (ci : Nat) : u_T := match ci with
  | 0 => TX0 | 1 => TX1 | 2 => TX2 | 3 => TX3 | 4 => TX4 | 5 => TX5 | 6 => TX6 | _ => TX7
def z_F (ci : Nat) : Nat → FieldType := match ci with
  | 0 => tyX0 | 1 => tyX1 | 2 => tyX2 | 3 => tyX3 | 4 => tyX4 | 5 => tyX5 | 6 => tyX6 | _ => tyX7
def z_N (ci : Nat) : Nat := match ci with
  | 0 => 3 | 1 => 2 | 2 => 2 | 3 => 4 | 4 => 5 | 5 => 6 | 6 => 16 | _ => 31
def z_df (ci : Nat) : List Value := (List.range (z_N ci)).map (fun k => defaultValue (z_F ci k))
theorem z_cl {ci : Nat} (h : ci < 8) : vwCl[ci]? = some (z_R ci, z_T ci, z_N ci) := by
  match ci, h with
  | 0, _ => rfl
  | 1, _ => rfl
  | 2, _ => rfl
  | 3, _ => rfl
  | 4, _ => rfl
  | 5, _ => rfl
  | 6, _ => rfl
  | 7, _ => rfl
theorem z_tyok {ci : Nat} (h : ci < 8) : ∀ k, k < z_N ci → parseFieldDescriptor (z_T ci k).2.2.1 = some (z_F ci k) := by
  match ci, h with
  | 0, _ => exact tyX0_ok
  | 1, _ => exact tyX1_ok
  | 2, _ => exact tyX2_ok
  | 3, _ => exact tyX3_ok
  | 4, _ => exact tyX4_ok
  | 5, _ => exact tyX5_ok
  | 6, _ => exact tyX6_ok
  | 7, _ => exact tyX7_ok
theorem z_nm {ci : Nat} (h : ci < 8) : ∀ a, a < z_N ci → ∀ b, b < z_N ci → a ≠ b → (z_T ci a).2.1 ≠ (z_T ci b).2.1 := by
  match ci, h with
  | 0, _ => exact nmX0
  | 1, _ => exact nmX1
  | 2, _ => exact nmX2
  | 3, _ => exact nmX3
  | 4, _ => exact nmX4
  | 5, _ => exact nmX5
  | 6, _ => exact nmX6
  | 7, _ => exact nmX7
def z_kd (t : FieldType) : Nat := match t with
  | .int => 0
  | .boolean => 1
  | .object _ => 2
  | .array _ => 2
  | _ => 3
def z_fit (kd : Nat) (v : Value) : Prop := match kd, v with
  | 0, .int _ => True
  | 1, .int x => x = 0 ∨ x = 1
  | 2, .ref _ => True
  | 2, .null => True
  | _, _ => False
theorem z_fit_ok {t : FieldType} {v : Value} (h : z_fit (z_kd t) v) : narrow t v = v ∧ fits t v = true := by
  cases t <;> cases v <;> first | (simp [z_fit, z_kd] at h; done) | (exact ⟨rfl, rfl⟩) | (rcases h with rfl | rfl <;> exact ⟨by decide, by decide⟩)
