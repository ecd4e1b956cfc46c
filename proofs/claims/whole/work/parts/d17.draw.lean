/-- a slip out -/
theorem uS_ne {S : ST} {c i c' i' : Nat} {x : Int32} (h : c' ≠ c ∨ i' ≠ i) : uS S c i x c' i' = S c' i' := if_neg (fun e => by
  rcases h with y | y
  · exact y e.1
  · exact y e.2)
theorem uS_c {S : ST} {c i c' : Nat} {x : Int32} (h : c' ≠ c) : uS S c i x c' = S c' := by
  funext i'
  exact uS_ne (Or.inl h)
theorem uS_eq {S : ST} {c i : Nat} {x : Int32} : uS S c i x c i = x := if_pos ⟨rfl, rfl⟩
theorem isS_c {S : ST} {x : Int32} (hx : isS S x) : 1 ≤ x.toNatClampNeg ∧ x.toNatClampNeg ≤ nS S ∧ x.toInt = (x.toNatClampNeg : Int) := by
  have a : x.toNatClampNeg = x.toInt.toNat := rfl
  have b : nS S = (S 0 0).toInt.toNat := rfl
  have h1 := hx.1
  have h2 := hx.2
  omega
section
variable {T : List Nat} {h h' : zH} {q : Nat} {S : ST}
theorem cm_out (m : CM T q h S h') (n6 : nS S ≤ 60) {x : Int32} (hx : isS S x) : CM T q h (uS S 1 x.toNatClampNeg 0) (F_X1_takeOut h' q x) := by
  obtain ⟨i1, i2, i3⟩ := isS_c hx
  obtain ⟨rd, jj, c, k, rfl, s⟩ := m
  have key := j_out (x := jj) (i := x.toNatClampNeg) (by omega) i3
  unfold F_X1_takeOut
  simp only [letf]
  rw [c.2.2.2]
  refine ⟨_, _, CR_putJ c, ⟨fun i hi h0 => ?_, k.2⟩, ?_, sO_t s (sO_put (d := 0) (by decide))⟩
  · rw [key, k.1 i hi h0, ite_self]
  · funext c' i'
    by_cases e : c' = 1
    · subst e
      show (if 1 ≤ i' ∧ i' ≤ (rd 0 0).toNatClampNeg then nI (nb (jN _) i') else 0) = (if 1 = 1 ∧ i' = x.toNatClampNeg then 0 else if 1 ≤ i' ∧ i' ≤ (rd 0 0).toNatClampNeg then nI (nb (jN jj) i') else 0)
      rw [key]
      by_cases e : i' = x.toNatClampNeg
      · rw [if_pos e]
        have y : (1 : Nat) = 1 ∧ i' = x.toNatClampNeg := ⟨rfl, e⟩
        have z : 1 ≤ i' ∧ i' ≤ (rd 0 0).toNatClampNeg := by
          rw [e]
          exact ⟨i1, i2⟩
        rw [if_pos y, if_pos z]
        rfl
      · rw [if_neg e]
        have y : ¬ ((1 : Nat) = 1 ∧ i' = x.toNatClampNeg) := fun y => e y.2
        rw [if_neg y]
    · rw [uS_ne (Or.inl e)]
      match c' with
      | 0 => rfl
      | 1 => exact absurd rfl e
      | 2 => rfl
      | 3 => rfl
      | 4 => rfl
      | 5 => rfl
      | 6 => rfl
      | 7 => rfl
      | 8 => rfl
      | _ + 9 => rfl
theorem rm_out (m : RM T q h S h') (n6 : nS S ≤ 60) {x : Int32} (hx : isS S x) : RM T q h (uS S 1 x.toNatClampNeg 0) (hput h' (hr h' q 16) x.toNatClampNeg (.inl (.int 1))) := by
  obtain ⟨i1, i2, i3⟩ := isS_c hx
  obtain ⟨rd, c, k, rfl, s⟩ := m
  rw [rl16 c.2.1]
  refine ⟨_, RR_put c (Or.inr (Or.inl ⟨rfl, by omega⟩)), fun i hi => ?_, mkR_r1 ⟨i1, i2⟩, sQ_t s (sQ_put (Or.inr (Or.inl ⟨rfl, by omega⟩)))⟩
  show (if 17 = 17 ∧ i = _ then (1 : Int32) else rd 17 i) = 0 ∨ (if 17 = 17 ∧ i = _ then (1 : Int32) else rd 17 i) = 1
  by_cases e : (17 : Nat) = 17 ∧ i = x.toNatClampNeg
  · rw [if_pos e]
    exact Or.inr rfl
  · rw [if_neg e]
    exact k i hi
/-- what comes of a go's drawing -/
def drw (S : ST) (m : Nat) (b : Int32) : Nat → ST
  | 0 => S
  | t + 1 => if nb m t = 0 then drw S m b t else uS (uS (drw S m b t) 6 t b) 5 t (drw S m b t 5 t + if S 2 t = 2 then 1 else 0)
def drawS (S : ST) (x b : Int32) : ST := drw (uS (uS S 1 x.toNatClampNeg 0) 0 4 (S 0 4 + 1)) (winsN S x) b (nT S)
theorem drw_c (S : ST) (m : Nat) (b : Int32) {c : Nat} (h5 : c ≠ 5) (h6 : c ≠ 6) : ∀ n, drw S m b n c = S c
  | 0 => rfl
  | t + 1 => by
    show (if nb m t = 0 then drw S m b t else uS (uS (drw S m b t) 6 t b) 5 t (drw S m b t 5 t + if S 2 t = 2 then 1 else 0)) c = S c
    by_cases e : nb m t = 0
    · rw [if_pos e]
      exact drw_c S m b h5 h6 t
    · rw [if_neg e, uS_c h5, uS_c h6]
      exact drw_c S m b h5 h6 t
theorem drw_nT (S : ST) (m : Nat) (b : Int32) (n : Nat) : nT (drw S m b n) = nT S := by
  unfold nT
  rw [drw_c S m b (by decide) (by decide)]
theorem lt_nI {x : Int32} (h0 : 0 ≤ x.toInt) {j : Nat} (hj : j ≤ 1000) : nI j < x ↔ j < x.toNatClampNeg := by
  have a : x.toNatClampNeg = x.toInt.toNat := rfl
  rw [i_lt, nI_t (by omega)]
  omega
theorem cm_drw (m : CM T q h S h') (w0 : 0 ≤ (S 0 7).toInt) (w8 : nT S ≤ 8) {x b : Int32} {M : Nat} (hM : M < 256) : CM T q h (drw S M b (nT S)) (fx (B_X1_draw_24 q x b (nI M)) [] ((0 : Int32), h')) := by
  refine fx_forI (fun j s => s.1 = nI j ∧ CM T q h (drw S M b j) s.2) (fun r => CM T q h (drw S M b (nT S)) r) (nT S) (fun s hs => ?_) (fun j s hj hs => ?_) ?_
  · obtain ⟨s1, s2⟩ := s
    obtain ⟨e, hs⟩ := hs
    have e : s1 = nI (nT S) := e
    refine ⟨s2, ?_, hs⟩
    unfold B_X1_draw_24
    rw [if_neg ?_]
    show ¬ s1 < hv s2 q 8
    rw [cm_n7 hs, drw_c S M b (by decide) (by decide), e, lt_nI w0 (by omega)]
    exact Nat.lt_irrefl _
  · obtain ⟨s1, s2⟩ := s
    obtain ⟨e, hs⟩ := hs
    have e : s1 = nI j := e
    have hs : CM T q h (drw S M b j) s2 := hs
    subst e
    refine Or.inr ?_
    have hjd : j < nT (drw S M b j) := by
      rw [drw_nT]
      exact hj
    have hd : drw S M b (j + 1) = if nb M j = 0 then drw S M b j else uS (uS (drw S M b j) 6 j b) 5 j (drw S M b j 5 j + if S 2 j = 2 then 1 else 0) := rfl
    have hlt : nI j < hv s2 q 8 := by
      rw [cm_n7 hs, drw_c S M b (by decide) (by decide), lt_nI w0 (by omega)]
      exact hj
    have jc : (nI j).toNatClampNeg = j := nI_c (by omega)
    unfold B_X1_draw_24
    simp only [letf]
    rw [if_pos hlt]
    by_cases z : nb M j = 0
    · rw [if_pos ((s_test M hM j (by omega)).mpr z), nI_s]
      refine ⟨_, rfl, rfl, ?_⟩
      rw [hd, if_pos z]
      exact hs
    · rw [if_neg (fun y => z ((s_test M hM j (by omega)).mp y)), jc]
      have h1 := cm_w6 hs b (t := j) (by omega) hjd
      rw [cm_a2 h1 (t := j) hjd, cm_a5 h1 (t := j) hjd, uS_c (c := 6) (c' := 2) (by decide), uS_c (c := 6) (c' := 5) (by decide), drw_c S M b (c := 2) (by decide) (by decide)]
      by_cases y : S 2 j = 2
      · rw [if_pos y, nI_s]
        refine ⟨_, rfl, rfl, ?_⟩
        rw [hd, if_neg z, if_pos y]
        exact cm_w5 h1 _ (t := j) (by omega) hjd
      · rw [if_neg y, nI_s]
        refine ⟨_, rfl, rfl, ?_⟩
        rw [hd, if_neg z, if_neg y]
        exact cm_w5 h1 _ (t := j) (by omega) hjd
  · exact ⟨rfl, m⟩
end
