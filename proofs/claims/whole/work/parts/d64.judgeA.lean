section
variable {T T2 : List Nat} {h h2 : zH} {N : ST} {K : Option ST} {C Z : Nat → Int32} {E : Nat → Nat → Int64} {n : Nat} {B R : Nat → Int32} {p : Nat}
/-- the trial's block is there -/
theorem run_A (H : HY T T2 h h2 N K C Z E n B R) (e : hget h2 49 27 = some (.inl (.ref p))) {a m : Int32} (wa : ¬ F_X4_isWithin a 0 7 = 0) (l1 : hv h2 50 a.toNatClampNeg = 1) (wm : ¬ F_X4_isWithin m 0 40 = 0) (hz : m.toInt ≤ (Z a.toNatClampNeg).toInt) : ∃ S r k, F_X4_firstWrong h 0 a m 0 = r ∧ F_X5_wrongInA h2 49 (54 + a.toNatClampNeg) m = k ∧ r.1 = k.1 ∧ CX r.2 N K C Z E n B R ∧ fr49 h r.2 ∧ RX k.2 N K C Z E n B R ∧ fr0 h2 k.2 ∧ CM T 17 h S r.2 ∧ WF S ∧ hv k.2 49 40 = nI (sDiff (stN N) (stN S)) ∧ ∃ Tw, hOK kty Tw k.2 ∧ tExt zT0 Tw := by
  obtain ⟨r1, r2, r3, r4, r5, r6⟩ := H.2.2.1
  have tp := nul_ref r5 e
  have x3 := H.2.2.2.1.2.2.2.1
  obtain ⟨hp, ne⟩ : 79 ≤ p ∧ hget h2 49 26 ≠ some (.inl (.ref p)) := by
    rcases x3.1 with y | ⟨q, u1, u2, u3, u4⟩
    · rw [y] at e
      cases e
    · rw [u1] at e
      cases e
      exact ⟨u2, u4⟩
  exact trial_run H r2 r1 H.2.2.2.1 e hp tp (fun q hq => bt_sep r3 tp (nul_ref r4 hq) (fun z => ne (by rw [← z]; exact hq))) (fun q hq => bt_41 r3 tp (nul_ref r6 hq)) wa l1 wm hz
theorem m_judgeA (H : HY T T2 h h2 N K C Z E n B R) (e : hget h2 49 27 = some (.inl (.ref p))) (a m : Int32) : PR h h2 (F_X4_judge h 0 a m) (F_X5_judgeA h2 49 a m) := m_judgeG H a m (fun h q => F_X5_wrongInA h 49 q m) (fun wa l1 wm hz => run_A H e wa l1 wm hz)
theorem m_wonA (H : HY T T2 h h2 N K C Z E n B R) (e : hget h2 49 27 = some (.inl (.ref p))) (a m : Int32) : PR h h2 (F_X4_won h 0 a m) (F_X5_wonA h2 49 a m) := m_wonG H a m (fun h q => F_X5_wrongInA h 49 q m) (fun wa l1 wm hz => run_A H e wa l1 wm hz)
end
