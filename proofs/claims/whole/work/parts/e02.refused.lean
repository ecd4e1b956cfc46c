theorem xq_of {scr : List zV} {W : List (Nat × Nat)} {T : List Nat} {D j : Nat} {args : List zV} {h : zH} {F : Int32 × zH} (x : xIH scr W T T j args h F) : XEq scr D j args h F (fun _ => True) := fun r h' hx => ⟨(x D r h' hx).1, (x D r h' hx).2.1, trivial⟩
theorem xqi_of {scr : List zV} {D j : Nat} {args : List zV} {h : zH} {u : Int32} {Q : zH → Prop} (x : xI scr j args h u) (q : Q h) : XEq scr D j args h (u, h) Q := fun r h' hx => ⟨(x D r h' hx).1, (x D r h' hx).2, (x D r h' hx).2 ▸ q⟩
theorem xq5 {scr : List zV} {W : List (Nat × Nat)} {T T' : List Nat} {D j : Nat} {args : List zV} {h : zH} {F : Int32 × zH} {v : Bool} (x : xIH scr W T T' j args h F) (ht : T[49]? = some 5) (hw : wIn W 5 35 = false) (hv : v = false → hget h 49 35 = some (.inl .null)) : XEq scr D j args h F (fun h' => v = false → hget h' 49 35 = some (.inl .null)) := fun r h' hx => ⟨(x D r h' hx).1, (x D r h' hx).2.1, fun e => ((x D r h' hx).2.2.2.2 49 5 35 ht hw).trans (hv e)⟩
theorem xq5d {scr : List zV} {W : List (Nat × Nat)} {T T' : List Nat} {D j : Nat} {args : List zV} {h : zH} {F : Int32 × zH} {Q : Int32 × zH → Prop} {v : Bool} (x : xIHd scr W T T' Q D j args h F) (ht : T[49]? = some 5) (hw : v = false → wIn W 5 35 = false) (hv : v = false → hget h 49 35 = some (.inl .null)) : XEq scr D j args h F (fun h' => v = false → hget h' 49 35 = some (.inl .null)) := fun r h' hx => ⟨(x r h' hx).1, (x r h' hx).2.1, fun e => ((x r h' hx).2.2.1.2.2 49 5 35 ht (hw e)).trans (hv e)⟩
theorem xq5e {scr : List zV} {W : List (Nat × Nat)} {T : List Nat} {D j : Nat} {args : List zV} {h : zH} {F : Int32 × zH} {v : Bool} (x : xIHe scr W T D j args h F) (ht : T[49]? = some 5) (hw : v = false → wIn W 5 35 = false) (hv : v = false → hget h 49 35 = some (.inl .null)) : XEq scr D j args h F (fun h' => v = false → hget h' 49 35 = some (.inl .null)) := fun r h' hx => ⟨(x r h' hx).1, (x r h' hx).2.1, fun e => by
  obtain ⟨T', K⟩ := (x r h' hx).2.2
  exact (K.2.2 49 5 35 ht (hw e)).trans (hv e)⟩
theorem isNl_t {h : zH} {i : Nat} (e : hget h 49 i = some (.inl .null)) : isNl h i = true := zB_iff.mpr e
theorem isNl_f {h : zH} {i w : Nat} (e : hget h 49 i = some (.inl (.ref w))) : isNl h i = false := by
  cases z : isNl h i with
  | false => rfl
  | true =>
    have := zB_iff.mp z
    rw [e] at this
    cases this
theorem kN_ref {T : List Nat} {h : zH} {i w τ : Nat} (e : hget h 49 i = some (.inl (.ref w))) (t : T[w]? = some τ) : kN T h 49 i τ := by
  have := hr_of e
  exact ⟨by rw [this]; exact e, by rw [this]; exact t⟩
theorem hi_f {h h' : zH} (f : fr49 h h') {m i : Nat} (hm : 49 ≤ m) : hi h' m i = hi h m i := by
  unfold hi
  rw [f m i hm]
theorem lenT {P : pP} {M : Nat} {T : List Nat} {h : zH} (ok : wOK (zPhi P) M T h) (hM : M ≤ 900000) : T.length ≤ 900000 := by
  rw [← ok.1.1]
  exact Nat.le_trans ok.2.2 hM
theorem hi_hv {T : List Nat} {h : zH} {q τ i : Nat} (K : hOK kty T h) (hq : T[q]? = some τ) (hl : i < (zty τ).2.1) (hk : ((zty τ).2.2 i).1 = 0) : hi h q i = (hv h q i).toInt := by
  unfold hi
  rw [k_int K hq hl hk]
section
variable {scr : List zV} {P : pP} {M d : Nat} {T : List Nat} {h : zH} {b : Int32}
theorem z_ref (hsc : cT scr) (hh : cH h) {D : Nat} (hD : 1 ≤ D) (IH : tBel (zPhi P) scr 1) (ok : wOK (zPhi P) M T h) : (∀ post, zD zprog scr D 216 [.inl (.ref 49), .inl (.int (-2 : Int32))] h post = post (some (.inl (.int (F_X5_refuse h 49 (-2 : Int32)).1))) (F_X5_refuse h 49 (-2 : Int32)).2) ∧ hget (F_X5_refuse h 49 (-2 : Int32)).2 49 35 = hget h 49 35 := by
  have hq := ok.2.1.1.2.2.1
  have l0 := ok.1.2.1
  have ty : TYr scr D P (h.length + 0) T h 216 [.inl (.ref 49), .inl (.int (-2 : Int32))] := fun post hp => by
    refine tLow_of IH hD 216 ze_X5_refuse te_X5_refuse_0 rfl (show te_X5_refuse_0 ∈ [te_X5_refuse_0] from List.mem_cons_self) (by decide +kernel) T h _ _ ok.1 ok.2.1 (by show h.length + 0 ≤ 1000000; omega) ⟨⟨_, rfl, hq⟩, okA_I (by decide) (by decide), trivial⟩ (fun r T' h' m k f l tr => ?_)
    obtain ⟨w, rfl, hw, -⟩ := tr
    obtain ⟨x, rfl, -, -⟩ := tint_sp rfl hw
    exact hp x T' h' m ⟨k, f, l⟩
  have x := x_X5_refuse (a1 := (-2 : Int32)) hsc (k_of ok.1) hq hh
  obtain ⟨T', -, -, -, q, z⟩ := ty_end hsc (cTb_ok rfl) hh ty (fun r h' hx => ⟨(x D r h' hx).1, (x D r h' hx).2.1, (x D r h' hx).2.2.2.2 49 5 35 hq rfl⟩ : XEq scr D 216 _ h (F_X5_refuse h 49 (-2 : Int32)) (fun h' => hget h' 49 35 = hget h 49 35))
  exact ⟨z, q⟩
theorem isB_0 (hsc : cT scr) (hh : cH h) (ok : wOK (zPhi P) M T h) (nd : ¬ (0 ≤ b.toInt ∧ b.toInt < hi h 49 23)) : F_X5_isBuyer h 49 b = 0 := by
  have hq := ok.2.1.1.2.2.1
  have z : zD zprog scr (0 + 2) 14 [.inl (.ref 49), .inl (.int b)] h (fun r _ => zB (r = some (.inl (.int (0 : Int32))))) = true := c_isBuyer ok hq (fun r f => zB_iff.mpr (by
    rcases f with ⟨-, x⟩ | ⟨e, -⟩
    · exact absurd x nd
    · rw [e]))
  obtain ⟨r, g, -, -, hx, hp⟩ := zD_xD hsc (cTb_ok rfl) hh z
  have e1 := (x_X5_isBuyer hsc (k_of ok.1) hq hh _ r g hx).1
  have e2 := zB_iff.mp hp
  rw [e1] at e2
  generalize F_X5_isBuyer h 49 b = y at e2 ⊢
  cases e2
  rfl
theorem isB_1 (hsc : cT scr) (hh : cH h) (ok : wOK (zPhi P) M T h) (nd : 0 ≤ b.toInt ∧ b.toInt < hi h 49 23) : F_X5_isBuyer h 49 b = 1 := by
  have hq := ok.2.1.1.2.2.1
  have z : zD zprog scr (0 + 2) 14 [.inl (.ref 49), .inl (.int b)] h (fun r _ => zB (r = some (.inl (.int (1 : Int32))))) = true := c_isBuyer ok hq (fun r f => zB_iff.mpr (by
    rcases f with ⟨e, -⟩ | ⟨-, x⟩
    · rw [e]
    · exact absurd nd x))
  obtain ⟨r, g, -, -, hx, hp⟩ := zD_xD hsc (cTb_ok rfl) hh z
  have e1 := (x_X5_isBuyer hsc (k_of ok.1) hq hh _ r g hx).1
  have e2 := zB_iff.mp hp
  rw [e1] at e2
  generalize F_X5_isBuyer h 49 b = y at e2 ⊢
  cases e2
  rfl
theorem n_plan (hsc : cT scr) (hh : cH h) (IH : tBel (zPhi P) scr 1) (ok : wOK (zPhi P) M T h) (nd : ¬ (0 ≤ b.toInt ∧ b.toInt < hi h 49 23)) {post : Option zV → zH → Bool} (hp : post (some (.inl (.int ((F_X5_refuse h 49 (-2 : Int32)).1)))) (F_X5_refuse h 49 (-2 : Int32)).2 = true) : zD zprog scr (d + 133) 254 [.inl (.ref 49), .inl (.int b)] h post = true := by
  have hq := ok.2.1.1.2.2.1
  obtain ⟨zf, -⟩ := z_ref (D := d + 132) hsc hh (by omega) IH ok
  refine zD_intro (E := ze_X5_planN) rfl rfl (fun G HW => ?_)
  refine zrn_ok HW 2 (zB_iff.mpr (?_ : G (2, [(0, .inl (.ref 49)), (1, .inl (.int b))], [.inl (.int b), .inl (.ref 49)], h, 0, 0)))
  refine g_callV (E' := ze_X5_isBuyer) HW rfl rfl (Nat.le_of_ble_eq_true rfl) (Nat.le_of_ble_eq_true rfl) (Nat.le_of_ble_eq_true rfl) ok.1 rfl hq rfl (Nat.le_of_ble_eq_true rfl) (c_isBuyer ok hq (fun r1 f1 => zB_iff.mpr ?_))
  show G (5, [(0, .inl (.ref 49)), (1, .inl (.int b))], [.inl (.int r1)], h, 0, 0)
  have r0 : r1 = 0 := by
    rcases f1 with ⟨-, x⟩ | ⟨e, -⟩
    · exact absurd x nd
    · exact e
  refine zrn_ok HW 1 (zbr_ex (cd := .eq) (x := r1) (y := (0 : Int32)) (fun _ => zB_iff.mpr ?_) (fun hc => (hc (zop_int.mpr (show r1.toInt = (0 : Int32).toInt by rw [r0]))).elim))
  show G (16, [(0, .inl (.ref 49)), (1, .inl (.int b))], [], h, 0, 0)
  refine zrn_ok HW 2 (zB_iff.mpr (?_ : G (19, [(0, .inl (.ref 49)), (1, .inl (.int b))], [.inl (.int (-2 : Int32)), .inl (.ref 49)], h, 0, 0)))
  refine g_callV (E' := ze_X5_refuse) HW rfl rfl (Nat.le_of_ble_eq_true rfl) (Nat.le_of_ble_eq_true rfl) (Nat.le_of_ble_eq_true rfl) ok.1 rfl hq rfl (Nat.le_of_ble_eq_true rfl) ((zf _).trans (zB_iff.mpr ?_))
  show G (22, [(0, .inl (.ref 49)), (1, .inl (.int b))], [.inl (.int (F_X5_refuse h 49 (-2 : Int32)).1)], (F_X5_refuse h 49 (-2 : Int32)).2, 0, 0)
  refine zrn_ok HW 1 ?_
  exact zret_i rfl rfl hp
theorem n_till (hsc : cT scr) (hh : cH h) (IH : tBel (zPhi P) scr 1) (ok : wOK (zPhi P) M T h) (nd : ¬ (0 ≤ b.toInt ∧ b.toInt < hi h 49 23)) {post : Option zV → zH → Bool} (hp : post (some (.inl (.int ((F_X5_refuse h 49 (-2 : Int32)).1)))) (F_X5_refuse h 49 (-2 : Int32)).2 = true) : zD zprog scr (d + 133) 255 [.inl (.ref 49), .inl (.int b)] h post = true := by
  have hq := ok.2.1.1.2.2.1
  obtain ⟨zf, -⟩ := z_ref (D := d + 132) hsc hh (by omega) IH ok
  refine zD_intro (E := ze_X5_tillN) rfl rfl (fun G HW => ?_)
  refine zrn_ok HW 2 (zB_iff.mpr (?_ : G (2, [(0, .inl (.ref 49)), (1, .inl (.int b))], [.inl (.int b), .inl (.ref 49)], h, 0, 0)))
  refine g_callV (E' := ze_X5_isBuyer) HW rfl rfl (Nat.le_of_ble_eq_true rfl) (Nat.le_of_ble_eq_true rfl) (Nat.le_of_ble_eq_true rfl) ok.1 rfl hq rfl (Nat.le_of_ble_eq_true rfl) (c_isBuyer ok hq (fun r1 f1 => zB_iff.mpr ?_))
  show G (5, [(0, .inl (.ref 49)), (1, .inl (.int b))], [.inl (.int r1)], h, 0, 0)
  have r0 : r1 = 0 := by
    rcases f1 with ⟨-, x⟩ | ⟨e, -⟩
    · exact absurd x nd
    · exact e
  refine zrn_ok HW 1 (zbr_ex (cd := .ne) (x := r1) (y := (0 : Int32)) (fun hc => absurd (by rw [r0] : r1.toInt = (0 : Int32).toInt) (zop_int.mp hc)) (fun _ => zB_iff.mpr ?_))
  show G (8, [(0, .inl (.ref 49)), (1, .inl (.int b))], [], h, 0, 0)
  refine zrn_ok HW 2 (zB_iff.mpr (?_ : G (11, [(0, .inl (.ref 49)), (1, .inl (.int b))], [.inl (.int (-2 : Int32)), .inl (.ref 49)], h, 0, 0)))
  refine g_callV (E' := ze_X5_refuse) HW rfl rfl (Nat.le_of_ble_eq_true rfl) (Nat.le_of_ble_eq_true rfl) (Nat.le_of_ble_eq_true rfl) ok.1 rfl hq rfl (Nat.le_of_ble_eq_true rfl) ((zf _).trans (zB_iff.mpr ?_))
  show G (14, [(0, .inl (.ref 49)), (1, .inl (.int b))], [.inl (.int (F_X5_refuse h 49 (-2 : Int32)).1)], (F_X5_refuse h 49 (-2 : Int32)).2, 0, 0)
  refine zrn_ok HW 1 ?_
  exact zret_i rfl rfl hp
theorem n_atOnce (hsc : cT scr) (hh : cH h) (IH : tBel (zPhi P) scr 1) (ok : wOK (zPhi P) M T h) (nd : ¬ (0 ≤ b.toInt ∧ b.toInt < hi h 49 23)) {post : Option zV → zH → Bool} (hp : post (some (.inl (.int ((-10000000 : Int32) + (F_X5_refuse h 49 (-2 : Int32)).1)))) (F_X5_refuse h 49 (-2 : Int32)).2 = true) : zD zprog scr (d + 133) 257 [.inl (.ref 49), .inl (.int b)] h post = true := by
  have hq := ok.2.1.1.2.2.1
  obtain ⟨zf, -⟩ := z_ref (D := d + 132) hsc hh (by omega) IH ok
  refine zD_intro (E := ze_X5_atOnceN) rfl rfl (fun G HW => ?_)
  refine zrn_ok HW 2 (zB_iff.mpr (?_ : G (2, [(0, .inl (.ref 49)), (1, .inl (.int b))], [.inl (.int b), .inl (.ref 49)], h, 0, 0)))
  refine g_callV (E' := ze_X5_isBuyer) HW rfl rfl (Nat.le_of_ble_eq_true rfl) (Nat.le_of_ble_eq_true rfl) (Nat.le_of_ble_eq_true rfl) ok.1 rfl hq rfl (Nat.le_of_ble_eq_true rfl) (c_isBuyer ok hq (fun r1 f1 => zB_iff.mpr ?_))
  show G (5, [(0, .inl (.ref 49)), (1, .inl (.int b))], [.inl (.int r1)], h, 0, 0)
  have r0 : r1 = 0 := by
    rcases f1 with ⟨-, x⟩ | ⟨e, -⟩
    · exact absurd x nd
    · exact e
  refine zrn_ok HW 1 (zbr_ex (cd := .ne) (x := r1) (y := (0 : Int32)) (fun hc => absurd (by rw [r0] : r1.toInt = (0 : Int32).toInt) (zop_int.mp hc)) (fun _ => zB_iff.mpr ?_))
  show G (8, [(0, .inl (.ref 49)), (1, .inl (.int b))], [], h, 0, 0)
  refine zrn_ok HW 3 (zB_iff.mpr (?_ : G (14, [(0, .inl (.ref 49)), (1, .inl (.int b))], [.inl (.int (-2 : Int32)), .inl (.ref 49), .inl (.int (-10000000 : Int32))], h, 0, 0)))
  refine g_callV (E' := ze_X5_refuse) HW rfl rfl (Nat.le_of_ble_eq_true rfl) (Nat.le_of_ble_eq_true rfl) (Nat.le_of_ble_eq_true rfl) ok.1 rfl hq rfl (Nat.le_of_ble_eq_true rfl) ((zf _).trans (zB_iff.mpr ?_))
  show G (17, [(0, .inl (.ref 49)), (1, .inl (.int b))], [.inl (.int (F_X5_refuse h 49 (-2 : Int32)).1), .inl (.int (-10000000 : Int32))], (F_X5_refuse h 49 (-2 : Int32)).2, 0, 0)
  refine zrn_ok HW 2 ?_
  exact zret_i rfl rfl hp
theorem n_playsR (hsc : cT scr) (hh : cH h) (IH : tBel (zPhi P) scr 1) (ok : wOK (zPhi P) M T h) (nd : ¬ (0 ≤ b.toInt ∧ b.toInt < hi h 49 23)) {post : Option zV → zH → Bool} (hp : post (some (.inl (.int ((F_X5_refuse h 49 (-2 : Int32)).1)))) (F_X5_refuse h 49 (-2 : Int32)).2 = true) : zD zprog scr (d + 131) 258 [.inl (.ref 49), .inl (.int b)] h post = true := by
  have hq := ok.2.1.1.2.2.1
  obtain ⟨zf, -⟩ := z_ref (D := d + 130) hsc hh (by omega) IH ok
  refine zD_intro (E := ze_X5_playsN) rfl rfl (fun G HW => ?_)
  refine zrn_ok HW 2 (zB_iff.mpr (?_ : G (2, [(0, .inl (.ref 49)), (1, .inl (.int b))], [.inl (.int b), .inl (.ref 49)], h, 0, 0)))
  refine g_callV (E' := ze_X5_isBuyer) HW rfl rfl (Nat.le_of_ble_eq_true rfl) (Nat.le_of_ble_eq_true rfl) (Nat.le_of_ble_eq_true rfl) ok.1 rfl hq rfl (Nat.le_of_ble_eq_true rfl) (c_isBuyer ok hq (fun r1 f1 => zB_iff.mpr ?_))
  show G (5, [(0, .inl (.ref 49)), (1, .inl (.int b))], [.inl (.int r1)], h, 0, 0)
  have r0 : r1 = 0 := by
    rcases f1 with ⟨-, x⟩ | ⟨e, -⟩
    · exact absurd x nd
    · exact e
  refine zrn_ok HW 1 (zbr_ex (cd := .ne) (x := r1) (y := (0 : Int32)) (fun hc => absurd (by rw [r0] : r1.toInt = (0 : Int32).toInt) (zop_int.mp hc)) (fun _ => zB_iff.mpr ?_))
  show G (8, [(0, .inl (.ref 49)), (1, .inl (.int b))], [], h, 0, 0)
  refine zrn_ok HW 2 (zB_iff.mpr (?_ : G (11, [(0, .inl (.ref 49)), (1, .inl (.int b))], [.inl (.int (-2 : Int32)), .inl (.ref 49)], h, 0, 0)))
  refine g_callV (E' := ze_X5_refuse) HW rfl rfl (Nat.le_of_ble_eq_true rfl) (Nat.le_of_ble_eq_true rfl) (Nat.le_of_ble_eq_true rfl) ok.1 rfl hq rfl (Nat.le_of_ble_eq_true rfl) ((zf _).trans (zB_iff.mpr ?_))
  show G (14, [(0, .inl (.ref 49)), (1, .inl (.int b))], [.inl (.int (F_X5_refuse h 49 (-2 : Int32)).1)], (F_X5_refuse h 49 (-2 : Int32)).2, 0, 0)
  refine zrn_ok HW 1 ?_
  exact zret_i rfl rfl hp
theorem n_mean (hsc : cT scr) (hh : cH h) {g0 : Int32} (IH : tBel (zPhi P) scr 1) (ok : wOK (zPhi P) M T h) (nd : ¬ ((0 ≤ b.toInt ∧ b.toInt < hi h 49 23) ∧ 0 ≤ g0.toInt ∧ g0.toInt ≤ 8)) {post : Option zV → zH → Bool} (hp : post (some (.inl (.int ((F_X5_refuse h 49 (-2 : Int32)).1)))) (F_X5_refuse h 49 (-2 : Int32)).2 = true) : zD zprog scr (d + 133) 256 [.inl (.ref 49), .inl (.int b), .inl (.int g0)] h post = true := by
  have hq := ok.2.1.1.2.2.1
  obtain ⟨zf, -⟩ := z_ref (D := d + 132) hsc hh (by omega) IH ok
  refine zD_intro (E := ze_X5_meanN) rfl rfl (fun G HW => ?_)
  refine zrn_ok HW 2 (zB_iff.mpr (?_ : G (2, [(0, .inl (.ref 49)), (1, .inl (.int b)), (2, .inl (.int g0))], [.inl (.int b), .inl (.ref 49)], h, 0, 0)))
  refine g_callV (E' := ze_X5_isBuyer) HW rfl rfl (Nat.le_of_ble_eq_true rfl) (Nat.le_of_ble_eq_true rfl) (Nat.le_of_ble_eq_true rfl) ok.1 rfl hq rfl (Nat.le_of_ble_eq_true rfl) (c_isBuyer ok hq (fun r1 f1 => zB_iff.mpr ?_))
  show G (5, [(0, .inl (.ref 49)), (1, .inl (.int b)), (2, .inl (.int g0))], [.inl (.int r1)], h, 0, 0)
  refine zrn_ok HW 1 (zbr_ex (cd := .eq) (x := r1) (y := (0 : Int32)) (fun _ => zB_iff.mpr ?_) (fun hc2 => zB_iff.mpr ?_))
  · show G (30, [(0, .inl (.ref 49)), (1, .inl (.int b)), (2, .inl (.int g0))], [], h, 0, 0)
    refine zrn_ok HW 2 (zB_iff.mpr (?_ : G (33, [(0, .inl (.ref 49)), (1, .inl (.int b)), (2, .inl (.int g0))], [.inl (.int (-2 : Int32)), .inl (.ref 49)], h, 0, 0)))
    refine g_callV (E' := ze_X5_refuse) HW rfl rfl (Nat.le_of_ble_eq_true rfl) (Nat.le_of_ble_eq_true rfl) (Nat.le_of_ble_eq_true rfl) ok.1 rfl hq rfl (Nat.le_of_ble_eq_true rfl) ((zf _).trans (zB_iff.mpr ?_))
    show G (36, [(0, .inl (.ref 49)), (1, .inl (.int b)), (2, .inl (.int g0))], [.inl (.int (F_X5_refuse h 49 (-2 : Int32)).1)], (F_X5_refuse h 49 (-2 : Int32)).2, 0, 0)
    refine zrn_ok HW 1 ?_
    exact zret_i rfl rfl hp
  · have i2 : ¬ r1 = 0 := fun e => hc2 (zop_int.mpr (show r1.toInt = (0 : Int32).toInt by rw [e]))
    have nb : 0 ≤ b.toInt ∧ b.toInt < hi h 49 23 := by
      rcases f1 with ⟨-, x⟩ | ⟨e, -⟩
      · exact x
      · exact absurd e i2
    show G (8, [(0, .inl (.ref 49)), (1, .inl (.int b)), (2, .inl (.int g0))], [], h, 0, 0)
    refine zrn_ok HW 4 (zB_iff.mpr (?_ : G (14, [(0, .inl (.ref 49)), (1, .inl (.int b)), (2, .inl (.int g0))], [.inl (.long (8 : Int64)), .inl (.long (0 : Int64)), .inl (.long (Int32.toInt64 g0))], h, 0, 0)))
    refine g_callS (b := 0) (E' := ze_X5_in) HW (Or.inl rfl) rfl rfl (Nat.le_of_ble_eq_true rfl) (Nat.le_of_ble_eq_true rfl) (Nat.le_of_ble_eq_true rfl) (Nat.le_of_ble_eq_true rfl) (c_in (fun a4 b4 => zB_iff.mpr ?_) (fun n4 => zB_iff.mpr ?_))
    · exfalso
      have a4' : (0 : Int) ≤ g0.toInt := by have r0 : (Int32.toInt64 g0).toInt = g0.toInt := q_i2l _; have r1 : (0 : Int64).toInt = 0 := rfl; have r2 : (8 : Int64).toInt = 8 := rfl; omega
      have b4' : g0.toInt ≤ (8 : Int) := by have r0 : (Int32.toInt64 g0).toInt = g0.toInt := q_i2l _; have r1 : (0 : Int64).toInt = 0 := rfl; have r2 : (8 : Int64).toInt = 8 := rfl; omega
      exact nd ⟨nb, a4', b4'⟩
    · show G (17, [(0, .inl (.ref 49)), (1, .inl (.int b)), (2, .inl (.int g0))], [.inl (.int (0 : Int32))], h, 0, 0)
      refine zrn_ok HW 3 (zB_iff.mpr (?_ : G (33, [(0, .inl (.ref 49)), (1, .inl (.int b)), (2, .inl (.int g0))], [.inl (.int (-2 : Int32)), .inl (.ref 49)], h, 0, 0)))
      refine g_callV (E' := ze_X5_refuse) HW rfl rfl (Nat.le_of_ble_eq_true rfl) (Nat.le_of_ble_eq_true rfl) (Nat.le_of_ble_eq_true rfl) ok.1 rfl hq rfl (Nat.le_of_ble_eq_true rfl) ((zf _).trans (zB_iff.mpr ?_))
      show G (36, [(0, .inl (.ref 49)), (1, .inl (.int b)), (2, .inl (.int g0))], [.inl (.int (F_X5_refuse h 49 (-2 : Int32)).1)], (F_X5_refuse h 49 (-2 : Int32)).2, 0, 0)
      refine zrn_ok HW 1 ?_
      exact zret_i rfl rfl hp
theorem n_plays0 (hh : cH h) (ok : wOK (zPhi P) M T h) (nb : 0 ≤ b.toInt ∧ b.toInt < hi h 49 23) (nd : ¬ hi h 49 11 ≤ hi h 72 b.toInt.toNat) {post : Option zV → zH → Bool} (hp : post (some (.inl (.int (0 : Int32)))) h = true) : zD zprog scr (d + 131) 258 [.inl (.ref 49), .inl (.int b)] h post = true := by
  have hq := ok.2.1.1.2.2.1
  have hq_q := hq
  refine zD_intro (E := ze_X5_playsN) rfl rfl (fun G HW => ?_)
  refine zrn_ok HW 2 (zB_iff.mpr (?_ : G (2, [(0, .inl (.ref 49)), (1, .inl (.int b))], [.inl (.int b), .inl (.ref 49)], h, 0, 0)))
  refine g_callV (E' := ze_X5_isBuyer) HW rfl rfl (Nat.le_of_ble_eq_true rfl) (Nat.le_of_ble_eq_true rfl) (Nat.le_of_ble_eq_true rfl) ok.1 rfl hq rfl (Nat.le_of_ble_eq_true rfl) (c_isBuyer ok hq (fun r1 f1 => zB_iff.mpr ?_))
  show G (5, [(0, .inl (.ref 49)), (1, .inl (.int b))], [.inl (.int r1)], h, 0, 0)
  have r0 : r1 = 1 := by
    rcases f1 with ⟨e, -⟩ | ⟨-, x⟩
    · exact e
    · exact absurd nb x
  obtain ⟨nb1, -, eb1, -, ub1⟩ := hi_val (i := 23) ok.1 hq_q (by decide) rfl
  have ub1 : nb1.toInt ≤ (4 : Int) := ub1
  refine zrn_ok HW 1 (zbr_ex (cd := .ne) (x := r1) (y := (0 : Int32)) (fun _ => zB_iff.mpr ?_) (fun hc => (hc (zop_int.mpr (show r1.toInt ≠ (0 : Int32).toInt by rw [r0]; decide))).elim))
  refine zrn_ok HW 2 (zB_iff.mpr (?_ : G (17, [(2, .inl (.int (0 : Int32))), (0, .inl (.ref 49)), (1, .inl (.int b))], [], h, 0, 0)))
  refine zrn_ok HW 1 (zB_iff.mpr (?_ : G (18, [(2, .inl (.int (0 : Int32))), (0, .inl (.ref 49)), (1, .inl (.int b))], [.inl (.ref 49)], h, 0, 0)))
  have o4 : hget h 49 24 = some (.inl (.ref 72)) := ((ok.2.1.2.1 49 5 hq_q (Or.inl rfl)).1.1 (24, 23, 37) (by decide +kernel)).1
  have t4 : T[72]? = some 37 := ((ok.2.1.2.1 49 5 hq_q (Or.inl rfl)).1.1 (24, 23, 37) (by decide +kernel)).2
  refine g_getf HW rfl ok.1 hq_q rfl o4 ?_
  refine zrn_ok HW 1 (zB_iff.mpr (?_ : G (22, [(2, .inl (.int (0 : Int32))), (0, .inl (.ref 49)), (1, .inl (.int b))], [.inl (.int b), .inl (.ref 72)], h, 0, 0)))
  obtain ⟨x5, g5, e5, l5, u5⟩ := hi_val (i := (b).toInt.toNat) ok.1 t4 (by show _ < 4; omega) rfl
  refine g_iald HW rfl ok.1 t4 rfl (by omega) g5 ?_
  refine zrn_ok HW 1 (zB_iff.mpr (?_ : G (24, [(2, .inl (.int (0 : Int32))), (0, .inl (.ref 49)), (1, .inl (.int b))], [.inl (.ref 49), .inl (.int x5)], h, 0, 0)))
  obtain ⟨x6, g6, e6, l6, u6⟩ := hi_val (i := 11) ok.1 hq_q (by decide) rfl
  refine g_getf HW rfl ok.1 hq_q rfl g6 ?_
  refine zrn_ok HW 1 (zbr_ex (cd := .lt) (x := x5) (y := x6) (fun hc7 => zB_iff.mpr ?_) (fun hc7 => zB_iff.mpr ?_))
  · refine zrn_ok HW 2 ?_
    exact zret_i rfl rfl hp
  · have i7 : ¬ (x5.toInt < x6.toInt) := fun e => hc7 (zop_int.mpr e)
    exfalso
    exact nd (by omega)
theorem xq_z {j D : Nat} {args : List zV} {F : Int32 × zH} {Q : zH → Prop} (z : ∀ post : Option zV → zH → Bool, post (some (.inl (.int F.1))) F.2 = true → zD zprog scr D j args h post = true) (q : Q F.2) : XEq scr D j args h F Q := fun r h' hx => by
  have e := z (fun v g => zB (v = some (.inl (.int F.1)) ∧ g = F.2)) (zB_iff.mpr ⟨rfl, rfl⟩)
  rw [hx] at e
  obtain ⟨e1, e2⟩ := zB_iff.mp e
  exact ⟨e1, e2, e2 ▸ q⟩
end
