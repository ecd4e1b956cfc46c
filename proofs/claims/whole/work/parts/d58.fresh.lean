theorem hM_0 {h : zH} {i j : Nat} (l79 : 79 ≤ h.length) : hget (hM i h 49) h.length j = (iObj h.length 22)[j]? := by
  have e : (iHp h 22 29)[h.length]? = some (5, iObj h.length 22) := by
    unfold iHp
    generalize iObj h.length 22 = ob
    rw [List.getElem?_append_right (Nat.le_refl _), Nat.sub_self]
    exact List.getElem?_cons_zero
  unfold hM
  rw [hget_put_ne (by omega), hget_eq e]
theorem iCelY23 (n : Nat) : (iCells n)[23]? = some (14, (List.range 4).map (fun i => .inl (.ref (n + 25 + i)))) := rfl
theorem hM_24 {h : zH} {i j : Nat} (l79 : 79 ≤ h.length) : hget (hM i h 49) (h.length + 24) j = ((List.range 4).map (fun i => (.inl (.ref (h.length + 25 + i)) : zV)))[j]? := by
  have e : (iHp h 22 29)[h.length + 24]? = some (14, (List.range 4).map (fun i => .inl (.ref (h.length + 25 + i)))) := by
    have c := iCelY23 h.length
    unfold iHp
    generalize iObj h.length 22 = ob
    generalize iCells h.length = cs at c ⊢
    rw [List.getElem?_append_right (by omega), Nat.add_sub_cancel_left, List.getElem?_cons_succ, List.getElem?_take, if_pos (by decide)]
    exact c
  unfold hM
  rw [hget_put_ne (by omega), hget_eq e]
theorem iRoff (n : Nat) : (iObj n 22)[16]? = some (.inl (.ref (n + 17))) ∧ (iObj n 22)[18]? = some (.inl (.ref (n + 18))) ∧ (iObj n 22)[19]? = some (.inl (.ref (n + 19))) ∧ (iObj n 22)[20]? = some (.inl (.ref (n + 20))) ∧ (iObj n 22)[21]? = some (.inl (.ref (n + 21))) ∧ (iObj n 22)[22]? = some (.inl (.ref (n + 22))) ∧ (iObj n 22)[24]? = some (.inl (.ref (n + 23))) ∧ (iObj n 22)[25]? = some (.inl (.ref (n + 24))) := by
  rw [iO22]
  exact ⟨rfl, rfl, rfl, rfl, rfl, rfl, rfl, rfl⟩
theorem hM_ly {h : zH} {i : Nat} (l79 : 79 ≤ h.length) : rLy (hM i h 49) h.length := by
  have key : ∀ n : Nat, ∀ o ∈ rOff, (iObj n 22)[o.1]? = some (.inl (.ref (n + o.2.1))) := by
    intro n
    have c := iRoff n
    generalize iObj n 22 = ob at c ⊢
    unfold rOff
    simp only [List.forall_mem_cons]
    exact ⟨c.1, c.2.1, c.2.2.1, c.2.2.2.1, c.2.2.2.2.1, c.2.2.2.2.2.1, c.2.2.2.2.2.2.1, c.2.2.2.2.2.2.2, fun _ h => absurd h List.not_mem_nil⟩
  refine ⟨fun o ho => hr_of ((hM_0 l79).trans (key _ o ho)), fun b hb => hr_of ((hM_24 l79).trans ?_)⟩
  rw [List.getElem?_map, List.getElem?_range hb]
  rfl
theorem hM_fr {h : zH} {k m i : Nat} (hm : m < h.length) (hn : ¬ (m = 49 ∧ i = k)) : hget (hM k h 49) m i = hget h m i := by
  unfold hM
  rw [hget_put_ne (by omega)]
  unfold iHp
  exact hget_app hm
section
variable {T T2 : List Nat} {h h2 h' h2' : zH} {N N' S : ST} {K : Option ST} {C Z C' Z' : Nat → Int32} {E E' : Nat → Nat → Int64} {n : Nat} {B R : Nat → Int32} {p : Nat}
theorem re_79 (re : RE T h) : 79 ≤ h.length := by
  have := re.2.1 78 _ rfl
  obtain ⟨y, -⟩ := List.getElem?_eq_some_iff.mp this
  have := re.1.1
  omega
theorem re_blk (re : RE T h) {q : Nat} (tq : T[q]? = some 6) : ∀ d, d < 29 → q + d < h.length := fun d hd => by
  obtain ⟨τ, a1, -⟩ := re.2.2.1 q tq d (by omega)
  obtain ⟨y, -⟩ := List.getElem?_eq_some_iff.mp a1
  have := re.1.1
  omega
theorem re_n49 (re : RE T h) {q : Nat} (tq : T[q]? = some 6) : ∀ d, d < 29 → q + d ≠ 49 := fun d hd e => by
  have t49 : T[49]? = some 5 := re.2.1 _ _ rfl
  by_cases z : d = 0
  · subst z
    rw [show q = 49 from e, t49] at tq
    cases tq
  · have hq49 : q < 49 := by omega
    have key : ∀ q, q < 49 → zT0[q]? ≠ some 6 := by decide
    obtain ⟨σ, b1⟩ : ∃ τ, zT0[q]? = some τ := ⟨_, List.getElem?_eq_getElem (show q < zT0.length from Nat.lt_of_lt_of_le hq49 (by decide))⟩
    have b2 := re.2.1 _ _ b1
    rw [tq] at b2
    cases b2
    exact key q hq49 b1
theorem m_imageB (H : HY T T2 h h2 N K C Z E n B R) (hl : T2.length ≤ 900000) : PR h h2 (F_X4_image h 0) (F_X5_imageB h2 49) := by
  obtain ⟨h', c1, c2, c3⟩ := image_c H
  have re := H.2.2.1
  obtain ⟨r1, r2, r3, r4, r5, r6⟩ := H.2.2.1
  obtain ⟨x0, x1, x2, x3, x5, x6, x7⟩ := H.2.2.2.1
  have l79 := re_79 re
  have t49 : T2[49]? = some 5 := r2 _ _ rfl
  obtain ⟨k2, k3⟩ := hM_ok (i := 26) (W := [(5, 26)]) r1 hl t49 rfl (by decide) rfl
  have lo : ∀ m i, m < 79 → ¬ (m = 49 ∧ i = 26) → hget (hM 26 h2 49) m i = hget h2 m i := fun m i hm hn => hM_fr (by omega) hn
  have e26 : hr (hM 26 h2 49) 49 26 = h2.length := hr_of (hput_at (i := 26) (iHp_ok r1 hl) (tExt_app T2 iTys _ _ t49) (by decide))
  have g26 := k3.1
  rw [e26] at g26
  have tp := k3.2
  rw [e26] at tp
  obtain ⟨h'', q1, q2, q3⟩ := image_gen (h := hM 26 h2 49) (p := h2.length) k2.1 (fun q τ e => tExt_app T2 iTys _ _ (r2 q τ e)) (r0P_eq (fun i hi => lo _ _ (by decide) (by omega)) (fun i _ => lo _ _ (by decide) (by omega)) x0) (rNP_eq (fun m i q1 q2 => lo m i (by omega) (fun y => by have := q1 y.1; omega)) x1) (rTP_eq (lo _ _ (by decide) (by omega)) (fun i => lo _ _ (by decide) (by omega)) x5) (rFP_eq (fun i => lo _ _ (by decide) (by omega)) x6) (rSP_eq (fun m i hm => lo m i (by omega) (by omega)) x7) g26 l79 tp (hM_ly l79) (by
    rw [lo 49 27 (by decide) (by omega)]
    rcases x3.1 with y | ⟨q, u1, u2, u3, u4⟩
    · exact Or.inl y
    · have tq := nul_ref r5 u1
      refine Or.inr ⟨q, u1, u2, rLy_blk (fun d i hd => hM_fr (re_blk re tq d hd) (fun z => re_n49 re tq d hd z.1)) u3, fun d d' hd hd' z => ?_⟩
      have := re_blk re tq d hd
      omega) (by
    rw [lo 49 35 (by decide) (by omega)]
    rcases x3.2 with y | ⟨q, u1, u2, u3⟩
    · exact Or.inl y
    · have tq := nul_ref r6 u1
      have hq : q < h2.length := by
        obtain ⟨y, -⟩ := List.getElem?_eq_some_iff.mp tq
        have := r1.1
        omega
      exact Or.inr ⟨q, u1, u2, fun g hg => (hr_eq (hM_fr hq (by omega))).trans (u3 g hg), fun d hd z => by omega⟩)
  unfold F_X5_imageB
  rw [c1, q1]
  exact ⟨1, N, some N, C, Z, E, n, B, R, ⟨rfl, c2, c3⟩, ⟨rfl, q2, fr0_t (fun m i hm => lo m i (by omega) (by omega)) q3⟩, H.2.2.2.2.1, hO H, fun S e => by cases e; exact hO H⟩
end
