/-! THE LAW: both sides as one state -/
theorem z_fx.kf {v v' : Nat → Int32} {g g' : Nat → Nat → Int32} {F : List zF} {C : List Nat} (p : z_fx v g F) (kv : v' 4 = v 4) (kg : z_kf C g g') (h1 : 1 ∉ C) (h2 : 2 ∉ C) : z_fx v' g' F := p.gt kv (z_gt.kf (T := fun _ _ => False) kg h1 h2) (fun _ _ z => z.elim)
theorem z_ls.kf {v v' : Nat → Int32} {g g' : Nat → Nat → Int32} {FL : List zF} {C : List Nat} (p : z_ls v g FL) (kv : v' 5 = v 5) (kg : z_kf C g g') (h1 : 1 ∉ C) (h2 : 2 ∉ C) (h3 : 3 ∉ C) : z_ls v' g' FL := p.gt kv (z_gt.kf (T := fun _ _ => False) kg h1 h2) h3 (fun _ _ z => z.elim)
theorem z_ls.gt' {v v' : Nat → Int32} {g g' : Nat → Nat → Int32} {FL : List zF} {C : List Nat} {T : Nat → Nat → Prop} (p : z_ls v g FL) (hv : v' 5 = v 5) (f : z_gt C T g g') (h3 : 3 ∉ C) (n : ∀ e s, T e s → e < 20 ∨ 80 ≤ e) : z_ls v' g' FL := by
  obtain ⟨p1, p2, p3⟩ := p
  refine ⟨hv.trans p1, p2, fun i hi => ⟨(p3 i hi).1.gt f (fun s z => ?_), ?_⟩⟩
  · have := n (20 + i) s z
    omega
  · rw [f.1 3 h3 (by decide) (by decide)]
    exact (p3 i hi).2
theorem z_sM.kf {g g' : Nat → Nat → Int32} {s lim : Nat} {L : List zF} {C : List Nat} (p : z_sM g s L lim) (kg : z_kf C g g') (h : ∀ k ∈ [1, 2, 12, 13, 14, 15], k ∉ C) : z_sM g' s L lim := by
  obtain ⟨N, q⟩ := p
  exact ⟨N, q.kf kg h⟩
theorem z_sM.g2 {g g' : Nat → Nat → Int32} {s lim : Nat} {L : List zF} {C : List Nat} {T : Nat → Nat → Prop} (p : z_sM g s L lim) (f : z_gt C T g g') (h : ∀ k ∈ [12, 13, 14, 15], k ∉ C) (n : ∀ e k, T e k → e < 140) : z_sM g' s L lim := by
  obtain ⟨N, q⟩ := p
  exact ⟨N, q.g2 f h n⟩
section RM
variable {v v' : Nat → Int32} {g g' : Nat → Nat → Int32} {ty nm : List Nat} {F FL LP : List zF} {lp : Nat} {LQ : List zF} {lq : Nat} {bl ld : List Nat} {bg : Bool} {to le : Nat} {fp : Int32} {np nu : Nat}
theorem z_RM.v0 (p : z_RM v g ty nm F FL LP lp LQ lq bl ld bg to le fp np nu) (kv : z_kf [0] v v') : z_RM v' g ty nm F FL LP lp LQ lq bl ld bg to le fp np nu := by
  obtain ⟨p1, p2, p3, p4, p5, p6, p7, p8, p9, pa, pb, pc, pd, pe⟩ := p
  have kg : z_kf [] g g := z_kf.rf
  exact ⟨⟨(kv 9 (by decide)).trans p1.1, p1.2⟩, ⟨(kv 11 (by decide)).trans p2.1, p2.2⟩, p3.kf (kv 4 (by decide)) kg (by decide) (by decide), p4.kf (kv 5 (by decide)) kg (by decide) (by decide) (by decide), p5, p6, ⟨(kv 19 (by decide)).trans p7.1, p7.2⟩, ⟨(kv 25 (by decide)).trans p8.1, p8.2⟩, (kv 7 (by decide)).trans p9, ⟨(kv 17 (by decide)).trans pa.1, (kv 16 (by decide)).trans pa.2.1, pa.2.2⟩, (kv 28 (by decide)).trans pb, (kv 29 (by decide)).trans pc, (kv 30 (by decide)).trans pd, pe⟩
theorem z_RM.cty {w : List Nat} (p : z_RM v g ty nm F FL LP lp LQ lq bl ld bg to le fp np nu) (h9 : v' 9 = nI w.length) (hw : w.length ≤ 200) (hb : z_br (g' 8) w) (kv : z_kf [0, 9] v v') (kg : z_kf [8] g g') : z_RM v' g' w nm F FL LP lp LQ lq bl ld bg to le fp np nu := by
  obtain ⟨p1, p2, p3, p4, p5, p6, p7, p8, p9, pa, pb, pc, pd, pe⟩ := p
  exact ⟨⟨h9, hw, hb⟩, ⟨(kv 11 (by decide)).trans p2.1, p2.2.1, by rw [kg 10 (by decide)]; exact p2.2.2⟩, p3.kf (kv 4 (by decide)) kg (by decide) (by decide), p4.kf (kv 5 (by decide)) kg (by decide) (by decide) (by decide), p5.kf kg (by decide), p6.kf kg (by decide), ⟨(kv 19 (by decide)).trans p7.1, p7.2.1, by rw [kg 18 (by decide)]; exact p7.2.2⟩, ⟨(kv 25 (by decide)).trans p8.1, p8.2.1, by rw [kg 24 (by decide)]; exact p8.2.2⟩, (kv 7 (by decide)).trans p9, ⟨(kv 17 (by decide)).trans pa.1, (kv 16 (by decide)).trans pa.2.1, pa.2.2⟩, (kv 28 (by decide)).trans pb, (kv 29 (by decide)).trans pc, (kv 30 (by decide)).trans pd, pe⟩
theorem z_RM.cld {w : List Nat} (p : z_RM v g ty nm F FL LP lp LQ lq bl ld bg to le fp np nu) (h25 : v' 25 = nI w.length) (hw : w.length ≤ 6000) (hb : z_br (g' 24) w) (kv : z_kf [0, 25] v v') (kg : z_kf [24] g g') : z_RM v' g' ty nm F FL LP lp LQ lq bl w bg to le fp np nu := by
  obtain ⟨p1, p2, p3, p4, p5, p6, p7, p8, p9, pa, pb, pc, pd, pe⟩ := p
  exact ⟨⟨(kv 9 (by decide)).trans p1.1, p1.2.1, by rw [kg 8 (by decide)]; exact p1.2.2⟩, ⟨(kv 11 (by decide)).trans p2.1, p2.2.1, by rw [kg 10 (by decide)]; exact p2.2.2⟩, p3.kf (kv 4 (by decide)) kg (by decide) (by decide), p4.kf (kv 5 (by decide)) kg (by decide) (by decide) (by decide), p5.kf kg (by decide), p6.kf kg (by decide), ⟨(kv 19 (by decide)).trans p7.1, p7.2.1, by rw [kg 18 (by decide)]; exact p7.2.2⟩, ⟨h25, hw, hb⟩, (kv 7 (by decide)).trans p9, ⟨(kv 17 (by decide)).trans pa.1, (kv 16 (by decide)).trans pa.2.1, pa.2.2⟩, (kv 28 (by decide)).trans pb, (kv 29 (by decide)).trans pc, (kv 30 (by decide)).trans pd, pe⟩
theorem z_RM.cnm (p : z_RM v g ty nm F FL LP lp LQ lq bl ld bg to le fp np nu) (h9 : v' 9 = nI 0) (h11 : v' 11 = nI ty.length) (hb : z_br (g' 10) ty) (kv : z_kf [0, 9, 11] v v') (kg : z_kf [10] g g') : z_RM v' g' [] ty F FL LP lp LQ lq bl ld bg to le fp np nu := by
  obtain ⟨p1, p2, p3, p4, p5, p6, p7, p8, p9, pa, pb, pc, pd, pe⟩ := p
  exact ⟨⟨h9, by decide, z_br.nil⟩, ⟨h11, p1.2.1, hb⟩, p3.kf (kv 4 (by decide)) kg (by decide) (by decide), p4.kf (kv 5 (by decide)) kg (by decide) (by decide) (by decide), p5.kf kg (by decide), p6.kf kg (by decide), ⟨(kv 19 (by decide)).trans p7.1, p7.2.1, by rw [kg 18 (by decide)]; exact p7.2.2⟩, ⟨(kv 25 (by decide)).trans p8.1, p8.2.1, by rw [kg 24 (by decide)]; exact p8.2.2⟩, (kv 7 (by decide)).trans p9, ⟨(kv 17 (by decide)).trans pa.1, (kv 16 (by decide)).trans pa.2.1, pa.2.2⟩, (kv 28 (by decide)).trans pb, (kv 29 (by decide)).trans pc, (kv 30 (by decide)).trans pd, pe⟩
theorem z_RM.fx (p : z_RM v g ty nm F FL LP lp LQ lq bl ld bg to le fp np nu) (h9 : v' 9 = nI 0) (h4 : v' 4 = nI (F.length + 1)) (kv : z_kf [0, 4, 9] v v') (he : z_ent g' F.length (nm, ty, false)) (kg : z_gt [] (fun e' _ => e' = F.length) g g') (hF : F.length < 20) : z_RM v' g' [] nm (F ++ [(nm, ty, false)]) FL LP lp LQ lq bl ld bg to le fp np nu := by
  obtain ⟨p1, p2, p3, p4, p5, p6, p7, p8, p9, pa, pb, pc, pd, pe1, pe2⟩ := p
  have hl1 : (F ++ [(nm, ty, false)]).length = F.length + 1 := by simp
  refine ⟨⟨h9, by decide, z_br.nil⟩, ⟨(kv 11 (by decide)).trans p2.1, p2.2.1, ?_⟩, ⟨by rw [hl1]; exact h4, by omega, fun i hi => ?_⟩, p4.gt' (kv 5 (by decide)) kg (by simp) (fun e s z => by omega), p5.g2 kg (by simp) (fun e s z => by omega), p6.g2 kg (by simp) (fun e s z => by omega), ⟨(kv 19 (by decide)).trans p7.1, p7.2.1, ?_⟩, ⟨(kv 25 (by decide)).trans p8.1, p8.2.1, ?_⟩, (kv 7 (by decide)).trans p9, ⟨(kv 17 (by decide)).trans pa.1, (kv 16 (by decide)).trans pa.2.1, pa.2.2⟩, (kv 28 (by decide)).trans pb, (kv 29 (by decide)).trans pc, (kv 30 (by decide)).trans pd, ?_, pe2⟩
  · rw [kg.1 10 (by simp) (by decide) (by decide)]; exact p2.2.2
  · by_cases hi2 : i = F.length
    · have hg : (F ++ [(nm, ty, false)]).getD i zf0 = (nm, ty, false) := by
        have := z_gdFr (F := F) (L := [(nm, ty, false)]) (j := 0)
        rw [Nat.add_zero] at this
        rw [hi2, this]
        rfl
      rw [hg, hi2]
      exact he
    · rw [z_gdF (by omega)]
      exact (p3.2.2 i (by omega)).gt kg (fun s z => hi2 z)
  · rw [kg.1 18 (by simp) (by decide) (by decide)]; exact p7.2.2
  · rw [kg.1 24 (by simp) (by decide) (by decide)]; exact p8.2.2
  · intro f hf
    rcases List.mem_append.mp hf with z | z
    · exact pe1 f z
    · rw [List.mem_singleton.mp z]
theorem z_RM.fl {s : Bool} (p : z_RM v g ty nm F FL LP lp LQ lq bl ld bg to le fp np nu) (h9 : v' 9 = nI 0) (h5 : v' 5 = nI (FL.length + 1)) (kv : z_kf [0, 5, 9] v v') (he : z_ent g' (20 + FL.length) (nm, ty, s)) (h3 : g' 3 (20 + FL.length) = z_bo s) (o3 : ∀ j, j ≠ 20 + FL.length → g' 3 j = g 3 j) (kg : z_gt [3] (fun e' _ => e' = 20 + FL.length) g g') (hF : FL.length < 60) : z_RM v' g' [] nm F (FL ++ [(nm, ty, s)]) LP lp LQ lq bl ld bg to le fp np nu := by
  obtain ⟨p1, p2, p3, p4, p5, p6, p7, p8, p9, pa, pb, pc, pd, pe⟩ := p
  have hl1 : (FL ++ [(nm, ty, s)]).length = FL.length + 1 := by simp
  refine ⟨⟨h9, by decide, z_br.nil⟩, ⟨(kv 11 (by decide)).trans p2.1, p2.2.1, ?_⟩, p3.gt (kv 4 (by decide)) kg (fun e s z => by omega), ⟨by rw [hl1]; exact h5, by omega, fun i hi => ?_⟩, p5.g2 kg (by decide) (fun e s z => by omega), p6.g2 kg (by decide) (fun e s z => by omega), ⟨(kv 19 (by decide)).trans p7.1, p7.2.1, ?_⟩, ⟨(kv 25 (by decide)).trans p8.1, p8.2.1, ?_⟩, (kv 7 (by decide)).trans p9, ⟨(kv 17 (by decide)).trans pa.1, (kv 16 (by decide)).trans pa.2.1, pa.2.2⟩, (kv 28 (by decide)).trans pb, (kv 29 (by decide)).trans pc, (kv 30 (by decide)).trans pd, pe⟩
  · rw [kg.1 10 (by decide) (by decide) (by decide)]; exact p2.2.2
  · by_cases hi2 : i = FL.length
    · have hg : (FL ++ [(nm, ty, s)]).getD i zf0 = (nm, ty, s) := by
        have := z_gdFr (F := FL) (L := [(nm, ty, s)]) (j := 0)
        rw [Nat.add_zero] at this
        rw [hi2, this]
        rfl
      rw [hg, hi2]
      exact ⟨he, h3⟩
    · rw [z_gdF (by omega), o3 _ (by omega)]
      exact ⟨(p4.2.2 i (by omega)).1.gt kg (fun s z => by omega), (p4.2.2 i (by omega)).2⟩
  · rw [kg.1 18 (by decide) (by decide) (by decide)]; exact p7.2.2
  · rw [kg.1 24 (by decide) (by decide) (by decide)]; exact p8.2.2
theorem z_RM.dr (p : z_RM v g ty nm F FL LP lp LQ lq bl ld bg to le fp np nu) : z_RM (va_up (va_up v 0 (nI 0)) 5 (nI 0)) g ty nm F [] LP lp LQ lq bl ld bg to le fp np nu := by
  obtain ⟨p1, p2, p3, p4, p5, p6, p7, p8, p9, pa, pb, pc, pd, pe⟩ := p
  exact ⟨p1, p2, p3, ⟨rfl, by decide, fun i hi => absurd hi (Nat.not_lt_zero i)⟩, p5, p6, p7, p8, p9, pa, pb, pc, pd, pe⟩
theorem z_RM.li {n N : Nat} (p : z_RM v g ty nm F FL LP lp LQ lq bl ld bg to le fp np nu) (h16 : v' 16 = nI (min le n)) (hn : n ≤ 4096) (kv : z_kf [0, 16] v v') (hT : z_sN g' 0 N (z_keep n 0 LP) n) (kg : z_kf [13, 14, 15] g g') (go : z_go 0 g g') : z_RM v' g' ty nm F FL (z_keep n 0 LP) n LQ lq bl ld bg to (min le n) fp np nu := by
  obtain ⟨p1, p2, p3, p4, p5, ⟨N1, p6⟩, p7, p8, p9, pa, pb, pc, pd, pe⟩ := p
  exact ⟨⟨(kv 9 (by decide)).trans p1.1, p1.2.1, by rw [kg 8 (by decide)]; exact p1.2.2⟩, ⟨(kv 11 (by decide)).trans p2.1, p2.2.1, by rw [kg 10 (by decide)]; exact p2.2.2⟩, p3.kf (kv 4 (by decide)) kg (by decide) (by decide), p4.kf (kv 5 (by decide)) kg (by decide) (by decide) (by decide), ⟨N, hT⟩, ⟨N1, p6.ot (z_gt.kf (T := fun _ _ => False) kg (by decide) (by decide)) go (by decide) (fun _ _ z => z.elim)⟩, ⟨(kv 19 (by decide)).trans p7.1, p7.2.1, by rw [kg 18 (by decide)]; exact p7.2.2⟩, ⟨(kv 25 (by decide)).trans p8.1, p8.2.1, by rw [kg 24 (by decide)]; exact p8.2.2⟩, (kv 7 (by decide)).trans p9, ⟨(kv 17 (by decide)).trans pa.1, h16, pa.2.2.1, by omega⟩, (kv 28 (by decide)).trans pb, (kv 29 (by decide)).trans pc, (kv 30 (by decide)).trans pd, pe⟩
end RM
/-! the tables never pass their limits -/
theorem z_put_li {lim : Nat} {f : zF} {L : List zF} (h : z_sum L ≤ lim) : z_sum (z_put lim f L) ≤ lim := by
  unfold z_put
  split
  · rename_i q
    have := z_keep_ok (L := L) q
    rw [z_sum_cons]
    omega
  · have := z_keep_sub lim (z_cost f) L
    omega
theorem z_wf_li {lim : Nat} {F L : List zF} {f : zF} (h : z_sum L ≤ lim) : z_sum (z_wf lim F L f).2 ≤ lim := by
  unfold z_wf
  split
  · exact h
  · split
    · exact h
    · split
      · exact z_put_li h
      · exact h
theorem z_ps_li {lim : Nat} {F : List zF} (FL : List zF) : ∀ s : List Nat × List zF, z_sum s.2 ≤ lim → z_sum (FL.foldl (z_ps lim F) s).2 ≤ lim := by
  induction FL with
  | nil => exact fun s h => h
  | cons f FL ih => exact fun s h => ih _ (z_wf_li h)
theorem z_pk_li {le lp to : Nat} {F FL LP : List zF} (h : z_sum LP ≤ lp) : z_sum (z_pk le lp to F FL LP).2 ≤ lp := z_ps_li FL _ h
theorem z_sL_li {ld : List Nat} {p lim : Nat} {FL L : List zF} (h : z_sum L ≤ lim) : z_sum (z_sL ld p FL L lim).2.2.2.1 ≤ (z_sL ld p FL L lim).2.2.2.2 := by
  unfold z_sL
  split
  · exact h
  · split
    · exact h
    · have := z_keep_ok (L := L) (Nat.zero_le (z_rN ld 5 p).2.1)
      exact this
theorem z_sW_li {ld : List Nat} {p lim : Nat} {M FL L : List zF} (h : z_sum L ≤ lim) : z_sum (z_sW ld p M FL L lim).2.2.2.1 ≤ (z_sW ld p M FL L lim).2.2.2.2 := by
  unfold z_sW
  split
  · exact h
  · split
    · exact h
    · exact h
theorem z_sT_li {ld : List Nat} {p x lim : Nat} {M FL L : List zF} (h : z_sum L ≤ lim) : z_sum (z_sT ld p x M FL L lim).2.2.2.1 ≤ (z_sT ld p x M FL L lim).2.2.2.2 := by
  unfold z_sT
  split
  · exact h
  · unfold z_sT2
    split
    · exact h
    · unfold z_sT3
      split
      · exact h
      · show z_sum (if 64 ≤ x then _ else L) ≤ lim
        split
        · exact z_put_li h
        · exact h
theorem z_run_li {ld : List Nat} {F : List zF} : ∀ (n : Nat) (s : zS5), z_sum s.2.2.2.1 ≤ s.2.2.2.2 → z_sum (z_run ld F n s).2.2.2.1 ≤ (z_run ld F n s).2.2.2.2
  | 0, s, h => h
  | n + 1, s, h => by
    rw [z_run]
    split
    · exact h
    · refine z_run_li n _ ?_
      unfold z_st
      split
      · exact z_sL_li h
      · split
        · exact h
        · split
          · exact z_sW_li h
          · exact z_sT_li h
/-! the two sides do not touch -/
def zMm : List Nat := [30, 31, 32, 33, 38, 40, 42, 43, 44, 45, 48, 50, 54]
theorem z_frM {h : zH} {y : Nat} {bd : Nat → Nat} {v v' : Nat → Int32} {g g' : Nat → Nat → Int32} (hd : z_md y bd) : z_fr zMm (z_mh h y bd v g) (z_mh h y bd v' g') := by
  intro a t x ha ht
  by_cases e0 : a = y
  · rw [e0, zm_y] at ha
    have : 30 = t := congrArg Prod.fst (Option.some.inj ha)
    exact absurd (this ▸ (by decide : 30 ∈ zMm)) ht
  by_cases e1 : a = bd 1
  · rw [e1, zm_a1 hd] at ha
    have : 31 = t := congrArg Prod.fst (Option.some.inj ha)
    exact absurd (this ▸ (by decide : 31 ∈ zMm)) ht
  by_cases e2 : a = bd 2
  · rw [e2, zm_a2 hd] at ha
    have : 32 = t := congrArg Prod.fst (Option.some.inj ha)
    exact absurd (this ▸ (by decide : 32 ∈ zMm)) ht
  by_cases e3 : a = bd 3
  · rw [e3, zm_a3 hd] at ha
    have : 33 = t := congrArg Prod.fst (Option.some.inj ha)
    exact absurd (this ▸ (by decide : 33 ∈ zMm)) ht
  by_cases e8 : a = bd 8
  · rw [e8, zm_a8 hd] at ha
    have : 38 = t := congrArg Prod.fst (Option.some.inj ha)
    exact absurd (this ▸ (by decide : 38 ∈ zMm)) ht
  by_cases e10 : a = bd 10
  · rw [e10, zm_a10 hd] at ha
    have : 40 = t := congrArg Prod.fst (Option.some.inj ha)
    exact absurd (this ▸ (by decide : 40 ∈ zMm)) ht
  by_cases e12 : a = bd 12
  · rw [e12, zm_a12 hd] at ha
    have : 42 = t := congrArg Prod.fst (Option.some.inj ha)
    exact absurd (this ▸ (by decide : 42 ∈ zMm)) ht
  by_cases e13 : a = bd 13
  · rw [e13, zm_a13 hd] at ha
    have : 43 = t := congrArg Prod.fst (Option.some.inj ha)
    exact absurd (this ▸ (by decide : 43 ∈ zMm)) ht
  by_cases e14 : a = bd 14
  · rw [e14, zm_a14 hd] at ha
    have : 44 = t := congrArg Prod.fst (Option.some.inj ha)
    exact absurd (this ▸ (by decide : 44 ∈ zMm)) ht
  by_cases e15 : a = bd 15
  · rw [e15, zm_a15 hd] at ha
    have : 45 = t := congrArg Prod.fst (Option.some.inj ha)
    exact absurd (this ▸ (by decide : 45 ∈ zMm)) ht
  by_cases e18 : a = bd 18
  · rw [e18, zm_a18 hd] at ha
    have : 48 = t := congrArg Prod.fst (Option.some.inj ha)
    exact absurd (this ▸ (by decide : 48 ∈ zMm)) ht
  by_cases e20 : a = bd 20
  · rw [e20, zm_a20 hd] at ha
    have : 50 = t := congrArg Prod.fst (Option.some.inj ha)
    exact absurd (this ▸ (by decide : 50 ∈ zMm)) ht
  by_cases e24 : a = bd 24
  · rw [e24, zm_a24 hd] at ha
    have : 54 = t := congrArg Prod.fst (Option.some.inj ha)
    exact absurd (this ▸ (by decide : 54 ∈ zMm)) ht
  unfold z_mh at ha ⊢
  rw [if_neg e0, if_neg e1, if_neg e2, if_neg e3, if_neg e8, if_neg e10, if_neg e12, if_neg e13, if_neg e14, if_neg e15, if_neg e18, if_neg e20, if_neg e24] at ha ⊢
  exact ha
theorem z_mh_id {h : zH} {y : Nat} {bd : Nat → Nat} {v v' : Nat → Int32} {g g' : Nat → Nat → Int32} : z_mh (z_mh h y bd v g) y bd v' g' = z_mh h y bd v' g' := by
  funext a
  by_cases e0 : a = y
  · simp only [z_mh, if_pos e0]
  by_cases e1 : a = bd 1
  · simp only [z_mh, if_neg e0, if_pos e1]
  by_cases e2 : a = bd 2
  · simp only [z_mh, if_neg e0, if_neg e1, if_pos e2]
  by_cases e3 : a = bd 3
  · simp only [z_mh, if_neg e0, if_neg e1, if_neg e2, if_pos e3]
  by_cases e8 : a = bd 8
  · simp only [z_mh, if_neg e0, if_neg e1, if_neg e2, if_neg e3, if_pos e8]
  by_cases e10 : a = bd 10
  · simp only [z_mh, if_neg e0, if_neg e1, if_neg e2, if_neg e3, if_neg e8, if_pos e10]
  by_cases e12 : a = bd 12
  · simp only [z_mh, if_neg e0, if_neg e1, if_neg e2, if_neg e3, if_neg e8, if_neg e10, if_pos e12]
  by_cases e13 : a = bd 13
  · simp only [z_mh, if_neg e0, if_neg e1, if_neg e2, if_neg e3, if_neg e8, if_neg e10, if_neg e12, if_pos e13]
  by_cases e14 : a = bd 14
  · simp only [z_mh, if_neg e0, if_neg e1, if_neg e2, if_neg e3, if_neg e8, if_neg e10, if_neg e12, if_neg e13, if_pos e14]
  by_cases e15 : a = bd 15
  · simp only [z_mh, if_neg e0, if_neg e1, if_neg e2, if_neg e3, if_neg e8, if_neg e10, if_neg e12, if_neg e13, if_neg e14, if_pos e15]
  by_cases e18 : a = bd 18
  · simp only [z_mh, if_neg e0, if_neg e1, if_neg e2, if_neg e3, if_neg e8, if_neg e10, if_neg e12, if_neg e13, if_neg e14, if_neg e15, if_pos e18]
  by_cases e20 : a = bd 20
  · simp only [z_mh, if_neg e0, if_neg e1, if_neg e2, if_neg e3, if_neg e8, if_neg e10, if_neg e12, if_neg e13, if_neg e14, if_neg e15, if_neg e18, if_pos e20]
  by_cases e24 : a = bd 24
  · simp only [z_mh, if_neg e0, if_neg e1, if_neg e2, if_neg e3, if_neg e8, if_neg e10, if_neg e12, if_neg e13, if_neg e14, if_neg e15, if_neg e18, if_neg e20, if_pos e24]
  simp only [z_mh, if_neg e0, if_neg e1, if_neg e2, if_neg e3, if_neg e8, if_neg e10, if_neg e12, if_neg e13, if_neg e14, if_neg e15, if_neg e18, if_neg e20, if_neg e24]
theorem z_keepM {h0 h2 : zH} {y : Nat} {bd : Nat → Nat} {v : Nat → Int32} {g : Nat → Nat → Int32} {C : List Nat} (hd : z_md y bd) (f : z_fr C (z_mh h0 y bd v g) h2) (hC : ∀ t ∈ C, t < 30) : h2 = z_mh h2 y bd v g := by
  have nn : ∀ t, 30 ≤ t → t ∉ C := fun t ht hm => by have := hC t hm; omega
  exact z_ini hd (f _ _ _ zm_y (nn _ (by decide))) (f _ _ _ (zm_a1 hd) (nn _ (by decide))) (f _ _ _ (zm_a2 hd) (nn _ (by decide))) (f _ _ _ (zm_a3 hd) (nn _ (by decide))) (f _ _ _ (zm_a8 hd) (nn _ (by decide))) (f _ _ _ (zm_a10 hd) (nn _ (by decide))) (f _ _ _ (zm_a12 hd) (nn _ (by decide))) (f _ _ _ (zm_a13 hd) (nn _ (by decide))) (f _ _ _ (zm_a14 hd) (nn _ (by decide))) (f _ _ _ (zm_a15 hd) (nn _ (by decide))) (f _ _ _ (zm_a18 hd) (nn _ (by decide))) (f _ _ _ (zm_a20 hd) (nn _ (by decide))) (f _ _ _ (zm_a24 hd) (nn _ (by decide))) (fun a _ _ => rfl)
/-! the room -/
def z_pa (mT mL mB mO : Nat) : Nat := z_cp 200 mT + z_cp 6000 mL + z_cp 6000 mB + z_cp 6000 mO
def z_rm (cs sl mT mL mB mO j : Nat) : Prop := cs ≤ 100 + z_pa mT mL mB mO + 402 * j ∧ sl ≤ 290000 + 4 * z_pa mT mL mB mO + 12400 * j
def z_In (h : zH) (x y : Nat) (bd : Nat → Nat) (cs sl j : Nat) : Prop := ∃ ad v g ty nm F FL LP lp LQ lq bl ld bg to le fp np nu mT mL mB mO, z_FP h x ad ty nm F FL LP lp LQ lq bl ld bg to le fp np nu mT mL mB mO ∧ h = z_mh h y bd v g ∧ z_RM v g ty nm F FL LP lp LQ lq bl ld bg to le fp np nu ∧ z_sum LP ≤ lp ∧ z_sum LQ ≤ lq ∧ z_rm cs sl mT mL mB mO j
theorem z_In.mk {h : zH} {x y : Nat} {ad bd : Nat → Nat} {v v' : Nat → Int32} {g g' : Nat → Nat → Int32} {ty nm : List Nat} {F FL LP : List zF} {lp : Nat} {LQ : List zF} {lq : Nat} {bl ld : List Nat} {bg : Bool} {to le : Nat} {fp : Int32} {np nu mT mL mB mO cs sl j : Nat} (hd : z_md y bd) (p : z_FP (z_mh h y bd v g) x ad ty nm F FL LP lp LQ lq bl ld bg to le fp np nu mT mL mB mO) (q : z_RM v' g' ty nm F FL LP lp LQ lq bl ld bg to le fp np nu) (s1 : z_sum LP ≤ lp) (s2 : z_sum LQ ≤ lq) (r : z_rm cs sl mT mL mB mO j) : z_In (z_mh h y bd v' g') x y bd cs sl j :=
  ⟨ad, v', g', ty, nm, F, FL, LP, lp, LQ, lq, bl, ld, bg, to, le, fp, np, nu, mT, mL, mB, mO, p.fr (z_frM hd) (by decide), z_mh_id.symm, q, s1, s2, r⟩
theorem z_FP.ms {h : zH} {x : Nat} {ad : Nat → Nat} {ty nm : List Nat} {F FL LP : List zF} {lp : Nat} {LQ : List zF} {lq : Nat} {bl ld : List Nat} {bg : Bool} {to le : Nat} {fp : Int32} {np nu mT mL mB mO : Nat} (p : z_FP h x ad ty nm F FL LP lp LQ lq bl ld bg to le fp np nu mT mL mB mO) : (z_cp 200 mT ≤ 200 ∧ z_cp 6000 mL ≤ 6000 ∧ z_cp 6000 mB ≤ 6000 ∧ z_cp 6000 mO ≤ 6000) ∧ mT ≤ 200 ∧ mL ≤ 6000 ∧ mB ≤ 6000 ∧ mO ≤ 6000 := by
  obtain ⟨-, ⟨_, _, _, _, _, m1, _⟩, ⟨_, _, _, _, _, m2, _⟩, ⟨_, _, _, _, _, m3, _⟩, -, -, -, -, ⟨-, ⟨_, ⟨_, _, _, _, _, m4, _⟩⟩, -⟩, -⟩ := p
  exact ⟨⟨(z_cp_ge m1 (Or.inl rfl)).2.1, (z_cp_ge m2 (Or.inr rfl)).2.1, (z_cp_ge m3 (Or.inr rfl)).2.1, (z_cp_ge m4 (Or.inr rfl)).2.1⟩, m1, m2, m3, m4⟩
theorem z_FP.ob {h : zH} {x : Nat} {ad : Nat → Nat} {ty nm : List Nat} {F FL LP : List zF} {lp : Nat} {LQ : List zF} {lq : Nat} {bl ld : List Nat} {bg : Bool} {to le : Nat} {fp : Int32} {np nu mT mL mB mO : Nat} (p : z_FP h x ad ty nm F FL LP lp LQ lq bl ld bg to le fp np nu mT mL mB mO) : ∃ fs, h x = some (12, .inr (6, fs)) := by
  obtain ⟨⟨an, a1, -⟩, -⟩ := p
  exact ⟨_, a1⟩
