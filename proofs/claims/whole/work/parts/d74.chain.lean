section
variable {T T2 : List Nat} {h h2 h' h2' hs : zH} {N S : ST} {K : Option ST} {C Z : Nat → Int32} {E : Nat → Nat → Int64} {n : Nat} {B R : Nat → Int32} {p : Nat}
theorem hZ_get {s : zH} {m : Nat} (hm : m < 256) : hget (hZ s) s.length m = some (.inl (.int 0)) := by
  unfold hZ hget
  rw [List.getElem?_append_right (Nat.le_refl _), Nat.sub_self]
  show (List.replicate 256 (.inl (.int 0) : zV))[m]? = _
  rw [List.getElem?_replicate, if_pos hm]
theorem hZ_v {s : zH} {m : Nat} (hm : m < 256) : hv (hZ s) s.length m = 0 := by
  unfold hv
  rw [hZ_get hm]
theorem hZ_lt {s : zH} {q i : Nat} (hq : q < s.length) : hget (hZ s) q i = hget s q i := hget_app hq
theorem hZ_ok (Ks : hOK kty T hs) (hl : hs.length + 1 ≤ 1000000) : hOK kty (T ++ [43]) (hZ hs) ∧ (T ++ [43])[hs.length]? = some 43 := by
  refine ⟨hOK_appk Ks hl ⟨okC_rep rfl rfl (fun _ => ⟨0, rfl, Int.le_refl 0, (by decide : (0 : Int) ≤ 1)⟩), trivial⟩, ?_⟩
  rw [Ks.1, List.getElem?_append_right (Nat.le_refl _), Nat.sub_self]
  rfl
theorem hZ_len (s : zH) : (hZ s).length = s.length + 1 := by
  unfold hZ
  rw [List.length_append]
  rfl
theorem k_at (Ks : hOK kty T hs) {q τ : Nat} (tq : T[q]? = some τ) : q < hs.length := by
  rw [Ks.1]
  exact (List.getElem?_eq_some_iff.mp tq).1
/-- the reference, where the heap has only grown -/
theorem rx_grow (re : RE T h) (x : RX h N K C Z E n B R) (e : ∀ m i, m < h.length → hget h' m i = hget h m i) : RX h' N K C Z E n B R ∧ fr0 h h' := by
  have l79 := re_79 re
  obtain ⟨r1, r2, r3, r4, r5, r6⟩ := id re
  refine ⟨rx_frame x (fun m i hm _ => e m i (by omega)) (fun q hq d i hd => e _ i (re_blk re (nul_ref r4 hq) d hd)) (fun q hq d i hd => e _ i (re_blk re (nul_ref r5 hq) d hd)) ?_, fun m i hm => e m i (by omega)⟩
  rcases x.2.2.2.1.2 with y | ⟨q, y1, y2, y3⟩
  · exact Or.inl ((e 49 35 (by omega)).trans y)
  · have := k_at r1 (nul_ref r6 y1)
    exact Or.inr ⟨q, (e 49 35 (by omega)).trans y1, y2, fun g hg => (hr_eq (e q g this)).trans (y3 g hg)⟩
/-- whether one of the next lacks the thing -/
theorem r_check {t0 : Nat} (h8 : t0 < 8) (c2 : Nat) (c3 : Int32) {k : Nat} (hk : k < 12) : (fx (B_X5_chain_103 hs 49 (nI t0) c2 c3 (nI k) p) (Sum.inr (Sum.inr (0, []))) (0 : Int32) = Sum.inr (Sum.inr (nI (k + 1), hs)) ∧ ∃ m, m < 256 ∧ hv hs p m ≠ 0 ∧ nb m t0 = 0) ∨ (fx (B_X5_chain_103 hs 49 (nI t0) c2 c3 (nI k) p) (Sum.inr (Sum.inr (0, []))) (0 : Int32) = Sum.inr (Sum.inl (p, nI (k + 1), hs)) ∧ ∀ m, m < 256 → hv hs p m ≠ 0 → nb m t0 ≠ 0) := by
  refine fx_forI (F := B_X5_chain_103 hs 49 (nI t0) c2 c3 (nI k) p) (d := (Sum.inr (Sum.inr (0, []))))
    (fun j (s : Int32) => s = nI j ∧ ∀ m, m < j → hv hs p m ≠ 0 → nb m t0 ≠ 0)
    (fun r => (r = Sum.inr (Sum.inr (nI (k + 1), hs)) ∧ ∃ m, m < 256 ∧ hv hs p m ≠ 0 ∧ nb m t0 = 0) ∨ (r = Sum.inr (Sum.inl (p, nI (k + 1), hs)) ∧ ∀ m, m < 256 → hv hs p m ≠ 0 → nb m t0 ≠ 0)) 256 (fun s hs2 => ?_) (fun j s hj hs2 => ?_) ⟨rfl, fun m hm => absurd hm (Nat.not_lt_zero m)⟩
  · obtain ⟨rfl, hn⟩ := hs2
    unfold B_X5_chain_103
    rw [if_neg (show ¬ nI 256 < (256 : Int32) by decide), nI_s]
    exact ⟨_, rfl, Or.inr ⟨rfl, hn⟩⟩
  · obtain ⟨rfl, hn⟩ := hs2
    have lt : nI j < (256 : Int32) := by
      rw [i_lt, nI_t (by omega), show (256 : Int32).toInt = 256 from rfl]
      omega
    unfold B_X5_chain_103
    rw [if_pos lt, nI_c (by omega), s_shr j hj t0 h8, nI_s]
    by_cases y : hv hs p j = 0
    · rw [if_pos y]
      refine Or.inr ⟨_, rfl, rfl, fun m hm q => ?_⟩
      by_cases e : m = j
      · rw [e] at q
        exact absurd y q
      · exact hn m (by omega) q
    · rw [if_neg y]
      by_cases z : nb j t0 = 0
      · rw [if_pos (by rw [z]; rfl), nI_s]
        exact Or.inl ⟨_, rfl, Or.inl ⟨rfl, j, hj, y, z⟩⟩
      · rw [if_neg (fun q => z ((nI_z (by have := nb_lt j t0; omega)).mp q))]
        refine Or.inr ⟨_, rfl, rfl, fun m hm q => ?_⟩
        by_cases e : m = j
        · rw [e]
          exact z
        · exact hn m (by omega) q
/-- the sets of a layer, one after the other -/
theorem r_layer (w : WF S) {h0 : zH} {T0 : List Nat} (rc : RC T0 h0 49) (ra : rAbs h0 49 = S) (hT : tExt T0 T) (Ks : hOK kty T hs) (f0 : ∀ m i, m < h0.length → hget hs m i = hget h0 m i) (l79 : 79 ≤ h0.length) (tp : T[p]? = some 43) (hp : h0.length ≤ p) {q : Nat} (hqp : q ≠ p) {t0 k : Nat} (h8 : t0 < 8) (hk : k < 12) (hr : ∀ m, m < 256 → (hv hs q m ≠ 0 ↔ rchC S k m)) (hz : ∀ m, m < 256 → hv hs p m = 0) (hh : ∀ m, rchC S k m → nb m t0 ≠ 0) :
    ∃ s', hOK kty T s' ∧ (∀ n i, n ≠ p → hget s' n i = hget hs n i) ∧ ((fx (B_X5_chain_65 49 (nI t0) q (nI (inN S)) (nI k) p) (Sum.inr (0, [])) ((0 : Int32), hs) = Sum.inr (nI (k + 1), s') ∧ hitL S t0 k) ∨ (fx (B_X5_chain_65 49 (nI t0) q (nI (inN S)) (nI k) p) (Sum.inr (0, [])) ((0 : Int32), hs) = Sum.inl (p, nI (k + 1), s') ∧ ¬ hitL S t0 k ∧ ∀ m, m < 256 → (hv s' p m ≠ 0 ↔ rchC S (k + 1) m))) := by
  have r256 : ∀ k m, rchC S k m → m < 256 := fun k m hm => (rch_sub w hm).1
  refine fx_forI (F := B_X5_chain_65 49 (nI t0) q (nI (inN S)) (nI k) p) (d := (Sum.inr (0, [])))
    (fun j (s : Int32 × zH) => s.1 = nI j ∧ hOK kty T s.2 ∧ (∀ n i, n ≠ p → hget s.2 n i = hget hs n i) ∧ ∀ m, m < 256 → (hv s.2 p m ≠ 0 ↔ stpB S k j m))
    (fun r => ∃ s', hOK kty T s' ∧ (∀ n i, n ≠ p → hget s' n i = hget hs n i) ∧ ((r = Sum.inr (nI (k + 1), s') ∧ hitL S t0 k) ∨ (r = Sum.inl (p, nI (k + 1), s') ∧ ¬ hitL S t0 k ∧ ∀ m, m < 256 → (hv s' p m ≠ 0 ↔ rchC S (k + 1) m)))) 256 (fun s hs2 => ?_) (fun j s hj hs2 => ?_) ⟨rfl, Ks, fun _ _ _ => rfl, fun m hm => ⟨fun y => absurd (hz m hm) y, fun ⟨x, a, _⟩ => absurd a (Nat.not_lt_zero x)⟩⟩
  · obtain ⟨s1, s2⟩ := s
    obtain ⟨e, K2, f2, v2⟩ := hs2
    have e : s1 = nI 256 := e
    subst e
    have K2 : hOK kty T s2 := K2
    have v3 : ∀ m, m < 256 → (hv s2 p m ≠ 0 ↔ rchC S (k + 1) m) := fun m hm => (v2 m hm).trans (stpB_all (r256 k))
    unfold B_X5_chain_65
    dsimp only
    rw [if_neg (show ¬ nI 256 < (256 : Int32) by decide)]
    rcases r_check (hs := s2) (p := p) h8 q (nI (inN S)) hk with ⟨e1, m, a, b, c⟩ | ⟨e1, e2⟩
    · exact ⟨_, e1, s2, K2, f2, Or.inl ⟨rfl, (hit_iff h8 hh).mpr ⟨m, (v3 m a).mp b, c⟩⟩⟩
    · refine ⟨_, e1, s2, K2, f2, Or.inr ⟨rfl, fun y => ?_, v3⟩⟩
      obtain ⟨m, a, b⟩ := (hit_iff h8 hh).mp y
      exact e2 m (r256 _ m a) ((v3 m (r256 _ m a)).mpr a) b
  · obtain ⟨s1, s2⟩ := s
    obtain ⟨e, K2, f2, v2⟩ := hs2
    have e : s1 = nI j := e
    subst e
    have K2 : hOK kty T s2 := K2
    have f2 : ∀ n i, n ≠ p → hget s2 n i = hget hs n i := f2
    have lt : nI j < (256 : Int32) := by
      rw [i_lt, nI_t (by omega), show (256 : Int32).toInt = 256 from rfl]
      omega
    have eq : hv s2 q j = hv hs q j := hv_eq (f2 q j hqp)
    unfold B_X5_chain_65
    simp only [letf]
    rw [if_pos lt, nI_c (by omega), eq, nI_s]
    by_cases y : hv hs q j = 0
    · rw [if_pos y]
      have nr : ¬ rchC S k j := fun z => (hr j hj).mpr z y
      exact Or.inr ⟨_, rfl, rfl, K2, f2, fun m hm => (v2 m hm).trans (stpB_n nr).symm⟩
    · rw [if_neg y]
      have rj := (hr j hj).mp y
      obtain ⟨rc2, ra2⟩ := RC_same rc K2 hT (fun d i hd => (f2 _ i (by omega)).trans (f0 _ i (by omega)))
      obtain ⟨K3, f3, v3⟩ := r_comesOn rc2 (ra2.trans ra) tp (by omega) (k := k) (rch_inT w rj)
      refine Or.inr ⟨_, rfl, rfl, K3, fun n i hn => (f3 n i hn).trans (f2 n i hn), fun m hm => ?_⟩
      rw [stpB_s rj]
      exact (v3 m hm).trans (or_congr_left (v2 m hm))
theorem r_chain (H : HY T T2 h h2 N K C Z E n B R) (hl : T2.length ≤ 900000) {t0 : Nat} (ht : t0 < nT N) (hst : nb (stN N) t0 ≠ 0) : chnR N t0 (fx (B_X5_chain_48 49 (nI t0) (nI (inN N))) (0, []) (h2.length, (0 : Int32), hput (hZ h2) h2.length (stN N) (.inl (.int 1)))).1 ∧ ∀ m i, m < h2.length → hget (fx (B_X5_chain_48 49 (nI t0) (nI (inN N))) (0, []) (h2.length, (0 : Int32), hput (hZ h2) h2.length (stN N) (.inl (.int 1)))).2 m i = hget h2 m i := by
  have w := hw H
  have n8 := nT_8 w
  have h8 : t0 < 8 := by omega
  have l79 := re_79 H.2.2.1
  have K0 := H.2.2.1.1
  have ln : h2.length = T2.length := K0.1
  have rc := hrc H
  have ra := hra H
  have st : stN N < 256 := own_lt w (-1)
  obtain ⟨k1, k2⟩ := hZ_ok K0 (by omega)
  have g := k_int k1 k2 (i := stN N) st rfl
  refine fx_forI (F := B_X5_chain_48 49 (nI t0) (nI (inN N))) (d := (0, []))
    (fun k (s : Nat × Int32 × zH) => s.2.1 = nI k ∧ (∀ j, j < k → ¬ hitL N t0 j) ∧ ∃ T', hOK kty T' s.2.2 ∧ tExt T2 T' ∧ T'.length ≤ T2.length + 1 + k ∧ (∀ m i, m < h2.length → hget s.2.2 m i = hget h2 m i) ∧ T'[s.1]? = some 43 ∧ h2.length ≤ s.1 ∧ ∀ m, m < 256 → (hv s.2.2 s.1 m ≠ 0 ↔ rchC N k m))
    (fun r => chnR N t0 r.1 ∧ ∀ m i, m < h2.length → hget r.2 m i = hget h2 m i) 12 (fun s hs2 => ?_) (fun k s hk hs2 => ?_) ⟨rfl, fun j hj => absurd hj (Nat.not_lt_zero j), T2 ++ [43], k_put k1 k2 rfl 1, tExt_app _ _, by rw [List.length_append]; exact Nat.le_refl _, fun m i hm => ?_, k2, Nat.le_refl _, fun m hm => ?_⟩
  · obtain ⟨q, s1, s2⟩ := s
    obtain ⟨e, hn, T', -, -, -, f, -⟩ := hs2
    have e : s1 = nI 12 := e
    subst e
    unfold B_X5_chain_48
    dsimp only
    rw [if_neg (show ¬ nI 12 < (12 : Int32) by decide)]
    exact ⟨_, rfl, Or.inr ⟨hn, rfl⟩, f⟩
  · obtain ⟨q, s1, s2⟩ := s
    obtain ⟨e, hn, T', a1, a2, a3, a4, a5, a6, a7⟩ := hs2
    have e : s1 = nI k := e
    subst e
    have a1 : hOK kty T' s2 := a1
    have a4 : ∀ m i, m < h2.length → hget s2 m i = hget h2 m i := a4
    have a5 : T'[q]? = some 43 := a5
    have a6 : h2.length ≤ q := a6
    have a7 : ∀ m, m < 256 → (hv s2 q m ≠ 0 ↔ rchC N k m) := a7
    have lt : nI k < (12 : Int32) := by
      rw [i_lt, nI_t (by omega), show (12 : Int32).toInt = 12 from rfl]
      omega
    have ls : s2.length = T'.length := a1.1
    obtain ⟨b1, b2⟩ := hZ_ok a1 (by omega)
    have ql := k_at a1 a5
    have lg : h2.length ≤ s2.length := by omega
    obtain ⟨s3, c1, c2, c3⟩ := r_layer w rc ra (tExt_tr a2 (tExt_app T' [43])) b1 (fun m i hm => (hZ_lt (by omega)).trans (a4 m i hm)) l79 b2 lg (q := q) (by omega) h8 hk (fun m hm => by
      rw [hv_eq (hZ_lt ql)]
      exact a7 m hm) (fun m hm => hZ_v hm) (rch_has h8 hst hn)
    have f3 : ∀ m i, m < h2.length → hget s3 m i = hget h2 m i := fun m i hm => (c2 m i (by omega)).trans ((hZ_lt (by omega)).trans (a4 m i hm))
    unfold B_X5_chain_48
    simp only [letf]
    rw [if_pos lt]
    rcases c3 with ⟨e1, e2⟩ | ⟨e1, e2, e3⟩
    · exact Or.inl ⟨_, e1, Or.inl ⟨k, hk, e2, hn, rfl⟩, f3⟩
    · refine Or.inr ⟨_, e1, rfl, fun j hj => ?_, T' ++ [43], c1, tExt_tr a2 (tExt_app T' [43]), ?_, f3, b2, lg, e3⟩
      · by_cases z : j = k
        · rw [z]
          exact e2
        · exact hn j (by omega)
      · rw [List.length_append, List.length_singleton]
        omega
  · show hget (hput (hZ h2) h2.length (stN N) (.inl (.int 1))) m i = hget h2 m i
    rw [hget_put_ne (by omega), hZ_lt hm]
  · show hv (hput (hZ h2) h2.length (stN N) (.inl (.int 1))) h2.length m ≠ 0 ↔ m = stN N
    by_cases z : m = stN N
    · rw [z, hv_put g]
      exact ⟨fun _ => rfl, fun _ => by decide⟩
    · rw [hv_ne (Or.inr z), hZ_v hm]
      exact ⟨fun y => absurd rfl y, fun y => absurd y z⟩
theorem m_chain (H : HY T T2 h h2 N K C Z E n B R) (hl : T2.length ≤ 900000) (a : Int32) : PR h h2 (F_X4_chain h 0 a) (F_X5_chain h2 49 a) := by
  have w := hw H
  have n8 := nT_8 w
  unfold F_X4_chain F_X5_chain
  simp only [letf]
  rw [hc0 H, H.2.1.1.2.2.2.1, hcT H, hrT H]
  by_cases u : isT N a
  · obtain ⟨u1, u2⟩ := isT_lt w u
    generalize a.toNatClampNeg = t0 at u1 u2
    subst u2
    have t8 : t0 < 8 := by omega
    rw [if_pos u, if_neg t10, if_neg t10, rm_a6 (hrm H) u1]
    obtain ⟨⟨f1, f2⟩, f3, f4⟩ := h_fewest H u1
    have nbz : nb (stN N) t0 = 0 ↔ ¬ N 6 t0 = -1 := by
      rw [stN_nb]
      by_cases y : N 6 t0 = -1
      · rw [if_pos ⟨u1, y⟩]
        exact ⟨fun z => absurd z (by decide), fun z => absurd y z⟩
      · rw [if_neg (fun z => y z.2)]
        exact ⟨fun _ => y, fun _ => rfl⟩
    by_cases y : N 6 t0 = -1
    · have hst : nb (stN N) t0 ≠ 0 := fun z => nbz.mp z y
      obtain ⟨r1, r2⟩ := r_chain H hl u1 hst
      have K0 := H.2.2.1.1
      have l79 := re_79 H.2.2.1
      have ln : h2.length = T2.length := K0.1
      obtain ⟨k1, k2⟩ := hZ_ok K0 (by omega)
      have st : stN N < 256 := own_lt w (-1)
      obtain ⟨c1, c2⟩ := RC_same (hrc H) k1 (tExt_app _ _) (fun d i hd => hZ_lt (by omega))
      obtain ⟨c3, c4⟩ := RC_same c1 (k_put k1 k2 rfl (i := stN N) 1) (tExt_rf _) (fun d i hd => hget_put_ne (Or.inl (by omega)))
      have es := r_std c1
      rw [c2, hra H] at es
      have ei := r_inside c3
      rw [c4, c2, hra H] at ei
      have one : (1 : Int32) &&& 1 = 1 := by decide
      rw [if_pos y, es, nI_c (by omega), one, ei]
      have e := chn_uniq (f4 hst) r1
      obtain ⟨x1, x2⟩ := rx_grow H.2.2.1 H.2.2.2.1 r2
      exact ⟨_, N, K, C, Z, E, n, B, R, ⟨e, f1, f2⟩, ⟨rfl, x1, x2⟩, H.2.2.2.2⟩
    · rw [if_neg y]
      exact ⟨0, N, K, C, Z, E, n, B, R, ⟨f3 (nbz.mpr y), f1, f2⟩, ⟨rfl, H.2.2.2.1, fr0_r⟩, H.2.2.2.2⟩
  · rw [if_neg u, if_pos rfl, if_pos rfl]
    exact pr0 H
end
