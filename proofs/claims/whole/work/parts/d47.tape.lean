def upB (B : Nat → Int32) (n : Nat) (a : Int32) (i : Nat) : Int32 := if i = n then a else B i
theorem ifc {c : Prop} [Decidable c] {α : Type} {x x' y y' : α} (h1 : c → x = x') (h2 : ¬ c → y = y') : (if c then x else y) = if c then x' else y' := by
  by_cases q : c
  · rw [if_pos q, if_pos q, h1 q]
  · rw [if_neg q, if_neg q, h2 q]
section
variable {T T2 : List Nat} {h h2 h' h2' : zH} {N N' S : ST} {K : Option ST} {C Z : Nat → Int32} {E : Nat → Nat → Int64} {n : Nat} {B R : Nat → Int32}
theorem t250 : ∀ m : Nat, m ≤ 250 → (nI m < (250 : Int32) ↔ m < 250) := by
  intro m hm
  have e : (250 : Int32) = nI 250 := rfl
  rw [e, i_lt, nI_t (by omega), nI_t (by decide)]
  omega
theorem m_wipe (H : HY T T2 h h2 N K C Z E n B R) : PR h h2 (F_X4_wipe h 0) (F_X5_wipe h2 49) := by
  have x := H.2.1
  have y := H.2.2.2.1
  have tp := x.2.2.2.2.2.1
  have t2 := y.2.2.2.2.1
  have h4 : hr h 0 4 = 29 := x.1.2.2.2.2.1
  have g := k_int H.1.1 (zT_at H.1.2 (q := 29) (τ := 2) rfl) (i := 1) (by decide) rfl
  have g2 := k_int H.2.2.1.1 (zT_at H.2.2.1.2.1 (q := 49) (τ := 5) rfl) (i := 7) (by decide) rfl
  unfold F_X4_wipe F_X5_wipe
  simp only [letf]
  rw [h4, tp.2.1, t2.1]
  obtain ⟨a1, a2⟩ := cx_tp (n' := 0) (B' := B) x (sO_put (q := 29) (d := 0) (w := 2) (i := 1) (v := .inl (.int 0)) (by decide)) ⟨(hr_ne (Or.inr (by decide))).trans tp.1, (hv_put g).trans rfl, by decide, fun i hi => absurd hi (by omega)⟩
  obtain ⟨b1, b2⟩ := rx_tp (n' := 0) (B' := B) y (h' := hput h2 49 7 (.inl (.int 0))) (fun m i u1 u2 => hget_put_ne (by omega)) ⟨(hv_put g2).trans rfl, fun i hi => absurd hi (by omega)⟩
  exact ⟨_, N, K, C, Z, E, 0, B, R, ⟨rfl, a1, a2⟩, ⟨rfl, b1, b2⟩, H.2.2.2.2⟩
theorem m_feed (H : HY T T2 h h2 N K C Z E n B R) (a : Int32) : PR h h2 (F_X4_feed h 0 a) (F_X5_feed h2 49 a) := by
  have x := H.2.1
  have y := H.2.2.2.1
  have tp := x.2.2.2.2.2.1
  have t2 := y.2.2.2.2.1
  have h4 : hr h 0 4 = 29 := x.1.2.2.2.2.1
  have h6 : hr h2 49 6 = 64 := y.1.1.2.2.2.2.2.2.1
  have n250 := tp.2.2.1
  unfold F_X4_feed F_X5_feed
  simp only [letf]
  rw [pair_in (a := a) (lo := 0) (hi := 255) (by decide) (by decide), h4, tp.2.1, t2.1, tp.1, h6, nI_c (by omega)]
  by_cases w : F_X4_isWithin a 0 255 = 0
  · rw [if_pos w, if_pos w]
    exact pr0 H
  · rw [if_neg w, if_neg w]
    have e250 : nI n = (250 : Int32) ↔ n = 250 := by
      have e : (250 : Int32) = nI 250 := rfl
      rw [e, i_eq, nI_t (by omega), nI_t (by decide)]
      omega
    by_cases z : n < 250
    · rw [if_pos ((t250 n n250).mpr z), if_neg (fun q => by have := e250.mp q; omega)]
      have g := k_int H.1.1 (zT_at H.1.2 (q := 29) (τ := 2) rfl) (i := 1) (by decide) rfl
      have g30 := k_int H.1.1 (zT_at H.1.2 (q := 30) (τ := 18) rfl) (i := n) z rfl
      have g2 := k_int H.2.2.1.1 (zT_at H.2.2.1.2.1 (q := 49) (τ := 5) rfl) (i := 7) (by decide) rfl
      have g64 := k_int H.2.2.1.1 (zT_at H.2.2.1.2.1 (q := 64) (τ := 18) rfl) (i := n) z rfl
      have k1 : hr (hput h 30 n (.inl (.int a))) 0 4 = 29 := (hr_ne (Or.inl (by decide))).trans h4
      have k2 : hv (hput h 30 n (.inl (.int a))) 29 1 = nI n := (hv_ne (Or.inl (by decide))).trans tp.2.1
      have g' : hget (hput h 30 n (.inl (.int a))) 29 1 = some (.inl (.int (hv h 29 1))) := (hget_put_ne (Or.inl (by decide))).trans g
      have k3 : hr (hput (hput h 30 n (.inl (.int a))) 29 1 (.inl (.int (nI n + 1)))) 0 4 = 29 := (hr_ne (Or.inl (by decide))).trans k1
      have g64' : hget (hput h2 49 7 (.inl (.int (nI n + 1)))) 64 n = some (.inl (.int (hv h2 64 n))) := (hget_put_ne (Or.inl (by decide))).trans g64
      have k4 : hr (hput h2 49 7 (.inl (.int (nI n + 1)))) 49 6 = 64 := (hr_ne (Or.inr (by decide))).trans h6
      have k5 : hv (hput (hput h2 49 7 (.inl (.int (nI n + 1)))) 64 n (.inl (.int a))) 49 7 = nI n + 1 := (hv_ne (Or.inl (by decide))).trans (hv_put g2)
      rw [k1, k2, k3, hv_put g', k5]
      obtain ⟨a1, a2⟩ := cx_tp (h' := hput (hput h 30 n (.inl (.int a))) 29 1 (.inl (.int (nI n + 1)))) (n' := n + 1) (B' := upB B n a) x (sO_t (sO_put (q := 29) (d := 1) (by decide)) (sO_put (q := 29) (d := 0) (by decide))) ⟨(hr_ne (Or.inr (by decide))).trans ((hr_ne (Or.inl (by decide))).trans tp.1), (hv_put g').trans (nI_s n), by omega, fun i hi => by
        unfold upB
        rw [hv_ne (Or.inl (by decide))]
        by_cases q : i = n
        · rw [if_pos q, q]
          exact hv_put g30
        · rw [if_neg q, hv_ne (Or.inr q)]
          exact tp.2.2.2 i (by omega)⟩
      obtain ⟨b1, b2⟩ := rx_tp (n' := n + 1) (B' := upB B n a) y (h' := hput (hput h2 49 7 (.inl (.int (nI n + 1)))) 64 n (.inl (.int a))) (fun m i u1 u2 => (hget_put_ne (Or.inl u1)).trans (hget_put_ne (by omega))) ⟨k5.trans (nI_s n), fun i hi => by
        unfold upB
        by_cases q : i = n
        · rw [if_pos q, q]
          exact hv_put g64'
        · rw [if_neg q, hv_ne (Or.inr q), hv_ne (Or.inl (by decide))]
          exact t2.2 i (by omega)⟩
      exact ⟨_, N, K, C, Z, E, _, _, R, ⟨rfl, a1, a2⟩, ⟨rfl, b1, b2⟩, H.2.2.2.2⟩
    · rw [if_neg (fun q => z ((t250 n n250).mp q)), if_pos (e250.mpr (by omega))]
      exact pr4 H
theorem n10 (t : Nat) (ht : t < 8) : nI (10 + t) ≠ -1 := by
  intro q
  have e : (-1 : Int32).toInt = -1 := rfl
  have := i_eq.mp q
  rw [e, nI_t (by omega)] at this
  omega
theorem row_m1 {x : Int32} (r : isRow x) : x ≠ -1 := by
  intro q
  have e : (-1 : Int32).toInt = -1 := rfl
  have r1 := r.1
  rw [q, e] at r1
  omega
theorem h_used (H : HY T T2 h h2 N K C Z E n B R) {s : Nat} (hs : s < 8) : hv h (33 + 2 * s) 0 = C s ∧ (hv h2 50 s = 0 ↔ C s = -1) := by
  refine ⟨(H.2.1.2.2.2.2.2.2.2 s hs).2.1, ?_⟩
  rcases H.2.2.2.1.2.2.2.2.2.2 s hs with ⟨a, b⟩ | ⟨a, b, -⟩ | ⟨a, t, b, c, d⟩
  · exact ⟨fun _ => b, fun _ => a⟩
  · exact ⟨fun q => by rw [a] at q; exact absurd q (by decide), fun q => absurd q (row_m1 b)⟩
  · refine ⟨fun q => by rw [a] at q; exact absurd q (by decide), fun q => ?_⟩
    rw [d] at q
    exact absurd q (n10 t b)
theorem lt8 : ∀ j : Nat, j ≤ 8 → (nI j < (8 : Int32) ↔ j < 8) := by decide
theorem m_used (H : HY T T2 h h2 N K C Z E n B R) (a : Int32) : F_X4_countShelvesInUse h 0 = fx (B_X5_status_116 h2 49 a) 0 ((0 : Int32), (0 : Int32)) := by
  have h5 : hr h 0 5 = 31 := H.2.1.1.2.2.2.2.2.1
  have h0 : hr h2 49 0 = 50 := H.2.2.2.1.1.1.1
  unfold F_X4_countShelvesInUse
  refine fx_sim (fun j (s t : Int32 × Int32) => s = t ∧ s.2 = nI j) (fun (r k : Int32) => r = k) 8 ?_ ?_ ⟨rfl, rfl⟩
  · rintro ⟨s1, s2⟩ t ⟨rfl, q⟩
    have q : s2 = nI 8 := q
    subst q
    unfold B_X4_countShelvesInUse_4 B_X5_status_116
    dsimp only
    rw [if_neg (by decide), if_neg (by decide)]
    exact ⟨_, _, rfl, rfl, rfl⟩
  · rintro j ⟨s1, s2⟩ t hj ⟨rfl, q⟩
    have q : s2 = nI j := q
    subst q
    obtain ⟨u1, u2⟩ := h_used H hj
    unfold B_X4_countShelvesInUse_4 B_X5_status_116
    dsimp only
    rw [if_pos ((lt8 j (by omega)).mpr hj), if_pos ((lt8 j (by omega)).mpr hj), h5, h0, nI_c (by omega), (H.2.1.2.2.2.2.2.2.2 j hj).1.1, u1]
    by_cases y : C j = -1
    · rw [if_pos y, if_pos (u2.mpr y), Int32.add_zero, nI_s]
      exact Or.inr ⟨_, _, rfl, rfl, rfl, rfl⟩
    · rw [if_neg y, if_neg (fun z => y (u2.mp z)), nI_s]
      exact Or.inr ⟨_, _, rfl, rfl, rfl, rfl⟩
theorem sub12 {a : Int32} (v : 12 ≤ a.toInt ∧ a.toInt ≤ 16) : (a - 12).toNatClampNeg = a.toNatClampNeg - 12 ∧ (a - 10).toNatClampNeg = a.toNatClampNeg - 12 + 2 ∧ a.toNatClampNeg - 12 < 5 := by
  have b := nI_back (x := a) (by omega)
  have c := clamp_i (x := a) (by omega)
  have e12 : (12 : Int32) = nI 12 := rfl
  have e10 : (10 : Int32) = nI 10 := rfl
  have s1 := sub_e (a := a.toNatClampNeg) (b := 12) (by omega) (by omega)
  have s2 := sub_e (a := a.toNatClampNeg) (b := 10) (by omega) (by omega)
  rw [← b] at s1 s2
  rw [e12, e10, s1, s2, nI_c (by omega), nI_c (by omega)]
  exact ⟨rfl, by omega, by omega⟩
theorem m_refus (H : HY T T2 h h2 N K C Z E n B R) {a : Int32} (w : ¬ F_X4_isWithin a 12 16 = 0) : hv h 32 (a - 12).toNatClampNeg = hv h2 65 (a - 10).toNatClampNeg := by
  have v := win w
  have i1 : (12 : Int32).toInt = 12 := rfl
  have i2 : (16 : Int32).toInt = 16 := rfl
  rw [i1, i2] at v
  clear i1 i2
  obtain ⟨s1, s2, s3⟩ := sub12 v
  rw [s1, s2]
  exact (H.2.1.2.2.2.2.2.2.1 _ s3).trans (H.2.2.2.1.2.2.2.2.2.1 _ s3).symm
theorem m_stw (H : HY T T2 h h2 N K C Z E n B R) (a : Int32) : (letf (F_X4_isWithin a (12 : Int32) (16 : Int32)) (fun y2 => (if y2 = (0 : Int32) then (-1 : Int32) else (hv h (hr h 0 6) (a - (12 : Int32)).toNatClampNeg)))) = (letf (F_X5_in (Int32.toInt64 a) (12 : Int64) (16 : Int64)) (fun y2 => (if y2 = (0 : Int32) then (-1 : Int32) else (hv h2 (hr h2 49 8) (a - (10 : Int32)).toNatClampNeg)))) := by
  have h6 : hr h 0 6 = 32 := H.2.1.1.2.2.2.2.2.2
  have h8 : hr h2 49 8 = 65 := H.2.2.2.1.1.1.2.2.2.2.2.2.2.1
  unfold letf
  rw [h6, h8, pair_in (a := a) (lo := 12) (hi := 16) (by decide) (by decide)]
  exact ifc (fun _ => rfl) (fun w => m_refus H w)
theorem m_status (H : HY T T2 h h2 N K C Z E n B R) (a : Int32) : F_X4_status h 0 a = F_X5_status h2 49 a := by
  have c0 := hc0 H
  have h4 : hr h 0 4 = 29 := H.2.1.1.2.2.2.2.1
  have h6 : hr h 0 6 = 32 := H.2.1.1.2.2.2.2.2.2
  have h8 : hr h2 49 8 = 65 := H.2.2.2.1.1.1.2.2.2.2.2.2.2.1
  have cm := hcm H
  have rm := hrm H
  have f0 : hv h (hr h 0 0) 0 = hv h2 49 9 := by rw [c0, cm_n0 cm, rm_n0 rm]
  have f1 : hv h (hr h 0 0) 1 = hv h2 49 10 := by rw [c0, cm_n1 cm, rm_n1 rm]
  have f2 : F_X1_countIn h (hr h 0 0) = F_X5_inside h2 49 := by rw [c0, (h_in H).1, (h_in H).2]
  have f3 : hv h (hr h 0 0) 4 = hv h2 49 13 := by rw [c0, cm_n4 cm, rm_n4 rm]
  have f4 : hv h (hr h 0 0) 8 = hv h2 49 17 := by rw [c0, cm_n7 cm, rm_n7 rm]
  have f5 : F_X1_standing h (hr h 0 0) = F_X5_standing h2 49 := by rw [c0, (h_std H).1, (h_std H).2]
  have f6 : hv h (hr h 0 0) 14 = hv h2 49 23 := by rw [c0, cm_n8 cm, rm_n8 rm]
  have f7 : hv h (hr h 0 0) 5 = hv h2 49 14 := by rw [c0, cm_n5 cm, rm_n5 rm]
  have f8 : hv h (hr h 0 4) 1 = hv h2 49 7 := by rw [h4, H.2.1.2.2.2.2.2.1.2.1, H.2.2.2.1.2.2.2.2.1.1]
  have f9 : hv h (hr h 0 0) 6 = hv h2 49 15 := by rw [c0, cm_n6 cm, rm_n6 rm]
  have f11 : F_X1_countDrawable h (hr h 0 0) = F_X5_drawableMany h2 49 := by rw [c0, (h_many H).1, (h_many H).2]
  have fw := m_stw H a
  unfold F_X4_status F_X5_status
  exact ifc (fun _ => f0) (fun _ => ifc (fun _ => f1) (fun _ => ifc (fun _ => (letf_id _).trans (f2.trans (letf_id _).symm)) (fun _ => ifc (fun _ => f3) (fun _ => ifc (fun _ => f4) (fun _ => ifc (fun _ => (letf_id _).trans (f5.trans (letf_id _).symm)) (fun _ => ifc (fun _ => f6) (fun _ => ifc (fun _ => f7) (fun _ => ifc (fun _ => f8) (fun _ => ifc (fun _ => f9) (fun _ => ifc (fun _ => (letf_id _).trans (m_used H a)) (fun _ => ifc (fun _ => (letf_id _).trans (f11.trans (letf_id _).symm)) (fun _ => fw))))))))))))
end
