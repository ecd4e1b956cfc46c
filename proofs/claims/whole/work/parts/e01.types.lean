theorem ty_X4_row {scr : List zV} {D : Nat} {P : pP} {M : Nat} {T : List Nat} {h : zH} {x1 x2 x3 : Int32} (hD : 300 ≤ D) (IHP : ∀ P : pP, tBel (zPhi P) scr 300) (ok : wOK (zPhi P) M T h) (hM : M + 0 ≤ 1000000) : TYr scr D P M T h 130 [.inl (.ref 0), .inl (.int x1), .inl (.int x2), .inl (.int x3)] := fun post hp => by
  have hq_0 := ok.2.1.1.1
  have l0 := ok.2.2
  refine tLow_of (IHP P) hD 130 ze_X4_row te_X4_row_0 rfl (show te_X4_row_0 ∈ [te_X4_row_0] from List.mem_cons_self) (by decide +kernel) T h _ _ ok.1 ok.2.1 (by show h.length + 0 ≤ 1000000; omega) ⟨⟨_, rfl, hq_0⟩, okA_If _, okA_If _, okA_If _, trivial⟩ (fun r T' h' m k f l tr => ?_)
  obtain ⟨w, rfl, hw, -⟩ := tr
  obtain ⟨x, rfl, -, -⟩ := tint_sp rfl hw
  have l1 : h'.length ≤ h.length + 0 := l
  exact hp x T' h' m ⟨k, f, by omega⟩
theorem ty_X5_row {scr : List zV} {D : Nat} {P : pP} {M : Nat} {T : List Nat} {h : zH} {x1 x2 x3 : Int32} (hD : 300 ≤ D) (IHP : ∀ P : pP, tBel (zPhi P) scr 300) (ok : wOK (zPhi P) M T h) (hM : M + 0 ≤ 1000000) : TYr scr D P M T h 217 [.inl (.ref 49), .inl (.int x1), .inl (.int x2), .inl (.int x3)] := fun post hp => by
  have hq_49 := ok.2.1.1.2.2.1
  have l0 := ok.2.2
  refine tLow_of (IHP P) hD 217 ze_X5_row te_X5_row_0 rfl (show te_X5_row_0 ∈ [te_X5_row_0] from List.mem_cons_self) (by decide +kernel) T h _ _ ok.1 ok.2.1 (by show h.length + 0 ≤ 1000000; omega) ⟨⟨_, rfl, hq_49⟩, okA_If _, okA_If _, okA_If _, trivial⟩ (fun r T' h' m k f l tr => ?_)
  obtain ⟨w, rfl, hw, -⟩ := tr
  obtain ⟨x, rfl, -, -⟩ := tint_sp rfl hw
  have l1 : h'.length ≤ h.length + 0 := l
  exact hp x T' h' m ⟨k, f, by omega⟩
theorem ty_X4_set {scr : List zV} {D : Nat} {P : pP} {M : Nat} {T : List Nat} {h : zH} {x1 x2 : Int32} {x3 : Int64} (hD : 300 ≤ D) (IHP : ∀ P : pP, tBel (zPhi P) scr 300) (ok : wOK (zPhi P) M T h) (hM : M + 0 ≤ 1000000) : TYr scr D P M T h 134 [.inl (.ref 0), .inl (.int x1), .inl (.int x2), .inl (.long x3)] := fun post hp => by
  have hq_0 := ok.2.1.1.1
  have l0 := ok.2.2
  refine tLow_of (IHP P) hD 134 ze_X4_set te_X4_set_0 rfl (show te_X4_set_0 ∈ [te_X4_set_0] from List.mem_cons_self) (by decide +kernel) T h _ _ ok.1 ok.2.1 (by show h.length + 0 ≤ 1000000; omega) ⟨⟨_, rfl, hq_0⟩, okA_If _, okA_If _, okA_Lf _, trivial⟩ (fun r T' h' m k f l tr => ?_)
  obtain ⟨w, rfl, hw, -⟩ := tr
  obtain ⟨x, rfl, -, -⟩ := tint_sp rfl hw
  have l1 : h'.length ≤ h.length + 0 := l
  exact hp x T' h' m ⟨k, f, by omega⟩
theorem ty_X5_set {scr : List zV} {D : Nat} {P : pP} {M : Nat} {T : List Nat} {h : zH} {x1 x2 : Int32} {x3 : Int64} (hD : 300 ≤ D) (IHP : ∀ P : pP, tBel (zPhi P) scr 300) (ok : wOK (zPhi P) M T h) (hM : M + 0 ≤ 1000000) : TYr scr D P M T h 221 [.inl (.ref 49), .inl (.int x1), .inl (.int x2), .inl (.long x3)] := fun post hp => by
  have hq_49 := ok.2.1.1.2.2.1
  have l0 := ok.2.2
  refine tLow_of (IHP P) hD 221 ze_X5_set te_X5_set_0 rfl (show te_X5_set_0 ∈ [te_X5_set_0] from List.mem_cons_self) (by decide +kernel) T h _ _ ok.1 ok.2.1 (by show h.length + 0 ≤ 1000000; omega) ⟨⟨_, rfl, hq_49⟩, okA_If _, okA_If _, okA_Lf _, trivial⟩ (fun r T' h' m k f l tr => ?_)
  obtain ⟨w, rfl, hw, -⟩ := tr
  obtain ⟨x, rfl, -, -⟩ := tint_sp rfl hw
  have l1 : h'.length ≤ h.length + 0 := l
  exact hp x T' h' m ⟨k, f, by omega⟩
theorem ty_X4_copy {scr : List zV} {D : Nat} {P : pP} {M : Nat} {T : List Nat} {h : zH} {x1 x2 x3 x4 x5 : Int32} (hD : 300 ≤ D) (IHP : ∀ P : pP, tBel (zPhi P) scr 300) (ok : wOK (zPhi P) M T h) (hM : M + 0 ≤ 1000000) : TYr scr D P M T h 99 [.inl (.ref 0), .inl (.int x1), .inl (.int x2), .inl (.int x3), .inl (.int x4), .inl (.int x5)] := fun post hp => by
  have hq_0 := ok.2.1.1.1
  have l0 := ok.2.2
  refine tLow_of (IHP P) hD 99 ze_X4_copy te_X4_copy_0 rfl (show te_X4_copy_0 ∈ [te_X4_copy_0] from List.mem_cons_self) (by decide +kernel) T h _ _ ok.1 ok.2.1 (by show h.length + 0 ≤ 1000000; omega) ⟨⟨_, rfl, hq_0⟩, okA_If _, okA_If _, okA_If _, okA_If _, okA_If _, trivial⟩ (fun r T' h' m k f l tr => ?_)
  obtain ⟨w, rfl, hw, -⟩ := tr
  obtain ⟨x, rfl, -, -⟩ := tint_sp rfl hw
  have l1 : h'.length ≤ h.length + 0 := l
  exact hp x T' h' m ⟨k, f, by omega⟩
theorem ty_X5_copy {scr : List zV} {D : Nat} {P : pP} {M : Nat} {T : List Nat} {h : zH} {x1 x2 x3 x4 x5 : Int32} (hD : 300 ≤ D) (IHP : ∀ P : pP, tBel (zPhi P) scr 300) (ok : wOK (zPhi P) M T h) (hM : M + 0 ≤ 1000000) : TYr scr D P M T h 170 [.inl (.ref 49), .inl (.int x1), .inl (.int x2), .inl (.int x3), .inl (.int x4), .inl (.int x5)] := fun post hp => by
  have hq_49 := ok.2.1.1.2.2.1
  have l0 := ok.2.2
  refine tLow_of (IHP P) hD 170 ze_X5_copy te_X5_copy_0 rfl (show te_X5_copy_0 ∈ [te_X5_copy_0] from List.mem_cons_self) (by decide +kernel) T h _ _ ok.1 ok.2.1 (by show h.length + 0 ≤ 1000000; omega) ⟨⟨_, rfl, hq_49⟩, okA_If _, okA_If _, okA_If _, okA_If _, okA_If _, trivial⟩ (fun r T' h' m k f l tr => ?_)
  obtain ⟨w, rfl, hw, -⟩ := tr
  obtain ⟨x, rfl, -, -⟩ := tint_sp rfl hw
  have l1 : h'.length ≤ h.length + 0 := l
  exact hp x T' h' m ⟨k, f, by omega⟩
theorem ty_X4_holds {scr : List zV} {D : Nat} {P : pP} {M : Nat} {T : List Nat} {h : zH} {x1 : Int32} (hD : 300 ≤ D) (IHP : ∀ P : pP, tBel (zPhi P) scr 300) (ok : wOK (zPhi P) M T h) (hM : M + 0 ≤ 1000000) : TYr scr D P M T h 113 [.inl (.ref 0), .inl (.int x1)] := fun post hp => by
  have hq_0 := ok.2.1.1.1
  have l0 := ok.2.2
  refine tLow_of (IHP P) hD 113 ze_X4_holds te_X4_holds_0 rfl (show te_X4_holds_0 ∈ [te_X4_holds_0] from List.mem_cons_self) (by decide +kernel) T h _ _ ok.1 ok.2.1 (by show h.length + 0 ≤ 1000000; omega) ⟨⟨_, rfl, hq_0⟩, okA_If _, trivial⟩ (fun r T' h' m k f l tr => ?_)
  obtain ⟨w, rfl, hw, -⟩ := tr
  obtain ⟨x, rfl, -, -⟩ := tint_sp rfl hw
  have l1 : h'.length ≤ h.length + 0 := l
  exact hp x T' h' m ⟨k, f, by omega⟩
theorem ty_X5_holds {scr : List zV} {D : Nat} {P : pP} {M : Nat} {T : List Nat} {h : zH} {x1 : Int32} (hD : 300 ≤ D) (IHP : ∀ P : pP, tBel (zPhi P) scr 300) (ok : wOK (zPhi P) M T h) (hM : M + 0 ≤ 1000000) : TYr scr D P M T h 189 [.inl (.ref 49), .inl (.int x1)] := fun post hp => by
  have hq_49 := ok.2.1.1.2.2.1
  have l0 := ok.2.2
  refine tLow_of (IHP P) hD 189 ze_X5_holds te_X5_holds_0 rfl (show te_X5_holds_0 ∈ [te_X5_holds_0] from List.mem_cons_self) (by decide +kernel) T h _ _ ok.1 ok.2.1 (by show h.length + 0 ≤ 1000000; omega) ⟨⟨_, rfl, hq_49⟩, okA_If _, trivial⟩ (fun r T' h' m k f l tr => ?_)
  obtain ⟨w, rfl, hw, -⟩ := tr
  obtain ⟨x, rfl, -, -⟩ := tint_sp rfl hw
  have l1 : h'.length ≤ h.length + 0 := l
  exact hp x T' h' m ⟨k, f, by omega⟩
theorem ty_X4_show {scr : List zV} {D : Nat} {P : pP} {M : Nat} {T : List Nat} {h : zH} {x1 x2 : Int32} (hD : 300 ≤ D) (IHP : ∀ P : pP, tBel (zPhi P) scr 300) (ok : wOK (zPhi P) M T h) (hM : M + 0 ≤ 1000000) : TYr scr D P M T h 135 [.inl (.ref 0), .inl (.int x1), .inl (.int x2)] := fun post hp => by
  have hq_0 := ok.2.1.1.1
  have l0 := ok.2.2
  refine tLow_of (IHP P) hD 135 ze_X4_show te_X4_show_0 rfl (show te_X4_show_0 ∈ [te_X4_show_0] from List.mem_cons_self) (by decide +kernel) T h _ _ ok.1 ok.2.1 (by show h.length + 0 ≤ 1000000; omega) ⟨⟨_, rfl, hq_0⟩, okA_If _, okA_If _, trivial⟩ (fun r T' h' m k f l tr => ?_)
  obtain ⟨w, rfl, hw, -⟩ := tr
  obtain ⟨x, rfl, -, -⟩ := tint_sp rfl hw
  have l1 : h'.length ≤ h.length + 0 := l
  exact hp x T' h' m ⟨k, f, by omega⟩
theorem ty_X5_show {scr : List zV} {D : Nat} {P : pP} {M : Nat} {T : List Nat} {h : zH} {x1 x2 : Int32} (hD : 300 ≤ D) (IHP : ∀ P : pP, tBel (zPhi P) scr 300) (ok : wOK (zPhi P) M T h) (hM : M + 0 ≤ 1000000) : TYr scr D P M T h 222 [.inl (.ref 49), .inl (.int x1), .inl (.int x2)] := fun post hp => by
  have hq_49 := ok.2.1.1.2.2.1
  have l0 := ok.2.2
  refine tLow_of (IHP P) hD 222 ze_X5_show te_X5_show_0 rfl (show te_X5_show_0 ∈ [te_X5_show_0] from List.mem_cons_self) (by decide +kernel) T h _ _ ok.1 ok.2.1 (by show h.length + 0 ≤ 1000000; omega) ⟨⟨_, rfl, hq_49⟩, okA_If _, okA_If _, trivial⟩ (fun r T' h' m k f l tr => ?_)
  obtain ⟨w, rfl, hw, -⟩ := tr
  obtain ⟨x, rfl, -, -⟩ := tint_sp rfl hw
  have l1 : h'.length ≤ h.length + 0 := l
  exact hp x T' h' m ⟨k, f, by omega⟩
theorem ty_X4_says {scr : List zV} {D : Nat} {P : pP} {M : Nat} {T : List Nat} {h : zH} {x1 x2 : Int32} (hD : 300 ≤ D) (IHP : ∀ P : pP, tBel (zPhi P) scr 300) (ok : wOK (zPhi P) M T h) (hM : M + 0 ≤ 1000000) : TYr scr D P M T h 132 [.inl (.ref 0), .inl (.int x1), .inl (.int x2)] := fun post hp => by
  have hq_0 := ok.2.1.1.1
  have l0 := ok.2.2
  refine tLow_of (IHP P) hD 132 ze_X4_says te_X4_says_0 rfl (show te_X4_says_0 ∈ [te_X4_says_0] from List.mem_cons_self) (by decide +kernel) T h _ _ ok.1 ok.2.1 (by show h.length + 0 ≤ 1000000; omega) ⟨⟨_, rfl, hq_0⟩, okA_If _, okA_If _, trivial⟩ (fun r T' h' m k f l tr => ?_)
  obtain ⟨w, rfl, hw, -⟩ := tr
  obtain ⟨x, rfl, -, -⟩ := tint_sp rfl hw
  have l1 : h'.length ≤ h.length + 0 := l
  exact hp x T' h' m ⟨k, f, by omega⟩
theorem ty_X5_says {scr : List zV} {D : Nat} {P : pP} {M : Nat} {T : List Nat} {h : zH} {x1 x2 : Int32} (hD : 300 ≤ D) (IHP : ∀ P : pP, tBel (zPhi P) scr 300) (ok : wOK (zPhi P) M T h) (hM : M + 0 ≤ 1000000) : TYr scr D P M T h 219 [.inl (.ref 49), .inl (.int x1), .inl (.int x2)] := fun post hp => by
  have hq_49 := ok.2.1.1.2.2.1
  have l0 := ok.2.2
  refine tLow_of (IHP P) hD 219 ze_X5_says te_X5_says_0 rfl (show te_X5_says_0 ∈ [te_X5_says_0] from List.mem_cons_self) (by decide +kernel) T h _ _ ok.1 ok.2.1 (by show h.length + 0 ≤ 1000000; omega) ⟨⟨_, rfl, hq_49⟩, okA_If _, okA_If _, trivial⟩ (fun r T' h' m k f l tr => ?_)
  obtain ⟨w, rfl, hw, -⟩ := tr
  obtain ⟨x, rfl, -, -⟩ := tint_sp rfl hw
  have l1 : h'.length ≤ h.length + 0 := l
  exact hp x T' h' m ⟨k, f, by omega⟩
theorem ty_X4_slips {scr : List zV} {D : Nat} {P : pP} {M : Nat} {T : List Nat} {h : zH} {x1 : Int32} (hD : 300 ≤ D) (IHP : ∀ P : pP, tBel (zPhi P) scr 300) (ok : wOK (zPhi P) M T h) (hM : M + 0 ≤ 1000000) : TYr scr D P M T h 137 [.inl (.ref 0), .inl (.int x1)] := fun post hp => by
  have hq_0 := ok.2.1.1.1
  have l0 := ok.2.2
  refine tLow_of (IHP P) hD 137 ze_X4_slips te_X4_slips_0 rfl (show te_X4_slips_0 ∈ [te_X4_slips_0] from List.mem_cons_self) (by decide +kernel) T h _ _ ok.1 ok.2.1 (by show h.length + 0 ≤ 1000000; omega) ⟨⟨_, rfl, hq_0⟩, okA_If _, trivial⟩ (fun r T' h' m k f l tr => ?_)
  obtain ⟨w, rfl, hw, -⟩ := tr
  obtain ⟨x, rfl, -, -⟩ := tint_sp rfl hw
  have l1 : h'.length ≤ h.length + 0 := l
  exact hp x T' h' m ⟨k, f, by omega⟩
theorem ty_X5_slips {scr : List zV} {D : Nat} {P : pP} {M : Nat} {T : List Nat} {h : zH} {x1 : Int32} (hD : 300 ≤ D) (IHP : ∀ P : pP, tBel (zPhi P) scr 300) (ok : wOK (zPhi P) M T h) (hM : M + 0 ≤ 1000000) : TYr scr D P M T h 224 [.inl (.ref 49), .inl (.int x1)] := fun post hp => by
  have hq_49 := ok.2.1.1.2.2.1
  have l0 := ok.2.2
  refine tLow_of (IHP P) hD 224 ze_X5_slips te_X5_slips_0 rfl (show te_X5_slips_0 ∈ [te_X5_slips_0] from List.mem_cons_self) (by decide +kernel) T h _ _ ok.1 ok.2.1 (by show h.length + 0 ≤ 1000000; omega) ⟨⟨_, rfl, hq_49⟩, okA_If _, trivial⟩ (fun r T' h' m k f l tr => ?_)
  obtain ⟨w, rfl, hw, -⟩ := tr
  obtain ⟨x, rfl, -, -⟩ := tint_sp rfl hw
  have l1 : h'.length ≤ h.length + 0 := l
  exact hp x T' h' m ⟨k, f, by omega⟩
theorem ty_X4_rule {scr : List zV} {D : Nat} {P : pP} {M : Nat} {T : List Nat} {h : zH} {x1 : Int32} (hD : 300 ≤ D) (IHP : ∀ P : pP, tBel (zPhi P) scr 300) (ok : wOK (zPhi P) M T h) (hM : M + 0 ≤ 1000000) : TYr scr D P M T h 131 [.inl (.ref 0), .inl (.int x1)] := fun post hp => by
  have hq_0 := ok.2.1.1.1
  have l0 := ok.2.2
  refine tLow_of (IHP P) hD 131 ze_X4_rule te_X4_rule_0 rfl (show te_X4_rule_0 ∈ [te_X4_rule_0] from List.mem_cons_self) (by decide +kernel) T h _ _ ok.1 ok.2.1 (by show h.length + 0 ≤ 1000000; omega) ⟨⟨_, rfl, hq_0⟩, okA_If _, trivial⟩ (fun r T' h' m k f l tr => ?_)
  obtain ⟨w, rfl, hw, -⟩ := tr
  obtain ⟨x, rfl, -, -⟩ := tint_sp rfl hw
  have l1 : h'.length ≤ h.length + 0 := l
  exact hp x T' h' m ⟨k, f, by omega⟩
theorem ty_X5_rule {scr : List zV} {D : Nat} {P : pP} {M : Nat} {T : List Nat} {h : zH} {x1 : Int32} (hD : 300 ≤ D) (IHP : ∀ P : pP, tBel (zPhi P) scr 300) (ok : wOK (zPhi P) M T h) (hM : M + 0 ≤ 1000000) : TYr scr D P M T h 218 [.inl (.ref 49), .inl (.int x1)] := fun post hp => by
  have hq_49 := ok.2.1.1.2.2.1
  have l0 := ok.2.2
  refine tLow_of (IHP P) hD 218 ze_X5_rule te_X5_rule_0 rfl (show te_X5_rule_0 ∈ [te_X5_rule_0] from List.mem_cons_self) (by decide +kernel) T h _ _ ok.1 ok.2.1 (by show h.length + 0 ≤ 1000000; omega) ⟨⟨_, rfl, hq_49⟩, okA_If _, trivial⟩ (fun r T' h' m k f l tr => ?_)
  obtain ⟨w, rfl, hw, -⟩ := tr
  obtain ⟨x, rfl, -, -⟩ := tint_sp rfl hw
  have l1 : h'.length ≤ h.length + 0 := l
  exact hp x T' h' m ⟨k, f, by omega⟩
theorem ty_X4_price {scr : List zV} {D : Nat} {P : pP} {M : Nat} {T : List Nat} {h : zH} {x1 x2 : Int32} (hD : 300 ≤ D) (IHP : ∀ P : pP, tBel (zPhi P) scr 300) (ok : wOK (zPhi P) M T h) (hM : M + 0 ≤ 1000000) : TYr scr D P M T h 127 [.inl (.ref 0), .inl (.int x1), .inl (.int x2)] := fun post hp => by
  have hq_0 := ok.2.1.1.1
  have l0 := ok.2.2
  refine tLow_of (IHP P) hD 127 ze_X4_price te_X4_price_0 rfl (show te_X4_price_0 ∈ [te_X4_price_0] from List.mem_cons_self) (by decide +kernel) T h _ _ ok.1 ok.2.1 (by show h.length + 0 ≤ 1000000; omega) ⟨⟨_, rfl, hq_0⟩, okA_If _, okA_If _, trivial⟩ (fun r T' h' m k f l tr => ?_)
  obtain ⟨w, rfl, hw, -⟩ := tr
  obtain ⟨x, rfl, -, -⟩ := tint_sp rfl hw
  have l1 : h'.length ≤ h.length + 0 := l
  exact hp x T' h' m ⟨k, f, by omega⟩
theorem ty_X5_price {scr : List zV} {D : Nat} {P : pP} {M : Nat} {T : List Nat} {h : zH} {x1 x2 : Int32} (hD : 300 ≤ D) (IHP : ∀ P : pP, tBel (zPhi P) scr 300) (ok : wOK (zPhi P) M T h) (hM : M + 0 ≤ 1000000) : TYr scr D P M T h 212 [.inl (.ref 49), .inl (.int x1), .inl (.int x2)] := fun post hp => by
  have hq_49 := ok.2.1.1.2.2.1
  have l0 := ok.2.2
  refine tLow_of (IHP P) hD 212 ze_X5_price te_X5_price_0 rfl (show te_X5_price_0 ∈ [te_X5_price_0] from List.mem_cons_self) (by decide +kernel) T h _ _ ok.1 ok.2.1 (by show h.length + 0 ≤ 1000000; omega) ⟨⟨_, rfl, hq_49⟩, okA_If _, okA_If _, trivial⟩ (fun r T' h' m k f l tr => ?_)
  obtain ⟨w, rfl, hw, -⟩ := tr
  obtain ⟨x, rfl, -, -⟩ := tint_sp rfl hw
  have l1 : h'.length ≤ h.length + 0 := l
  exact hp x T' h' m ⟨k, f, by omega⟩
theorem ty_X4_thing {scr : List zV} {D : Nat} {P : pP} {M : Nat} {T : List Nat} {h : zH} {x1 x2 x3 : Int32} (hD : 300 ≤ D) (IHP : ∀ P : pP, tBel (zPhi P) scr 300) (ok : wOK (zPhi P) M T h) (hM : M + 0 ≤ 1000000) : TYr scr D P M T h 144 [.inl (.ref 0), .inl (.int x1), .inl (.int x2), .inl (.int x3)] := fun post hp => by
  have hq_0 := ok.2.1.1.1
  have l0 := ok.2.2
  refine tLow_of (IHP P) hD 144 ze_X4_thing te_X4_thing_0 rfl (show te_X4_thing_0 ∈ [te_X4_thing_0] from List.mem_cons_self) (by decide +kernel) T h _ _ ok.1 ok.2.1 (by show h.length + 0 ≤ 1000000; omega) ⟨⟨_, rfl, hq_0⟩, okA_If _, okA_If _, okA_If _, trivial⟩ (fun r T' h' m k f l tr => ?_)
  obtain ⟨w, rfl, hw, -⟩ := tr
  obtain ⟨x, rfl, -, -⟩ := tint_sp rfl hw
  have l1 : h'.length ≤ h.length + 0 := l
  exact hp x T' h' m ⟨k, f, by omega⟩
theorem ty_X5_thing {scr : List zV} {D : Nat} {P : pP} {M : Nat} {T : List Nat} {h : zH} {x1 x2 x3 : Int32} (hD : 300 ≤ D) (IHP : ∀ P : pP, tBel (zPhi P) scr 300) (ok : wOK (zPhi P) M T h) (hM : M + 0 ≤ 1000000) : TYr scr D P M T h 236 [.inl (.ref 49), .inl (.int x1), .inl (.int x2), .inl (.int x3)] := fun post hp => by
  have hq_49 := ok.2.1.1.2.2.1
  have l0 := ok.2.2
  refine tLow_of (IHP P) hD 236 ze_X5_thing te_X5_thing_0 rfl (show te_X5_thing_0 ∈ [te_X5_thing_0] from List.mem_cons_self) (by decide +kernel) T h _ _ ok.1 ok.2.1 (by show h.length + 0 ≤ 1000000; omega) ⟨⟨_, rfl, hq_49⟩, okA_If _, okA_If _, okA_If _, trivial⟩ (fun r T' h' m k f l tr => ?_)
  obtain ⟨w, rfl, hw, -⟩ := tr
  obtain ⟨x, rfl, -, -⟩ := tint_sp rfl hw
  have l1 : h'.length ≤ h.length + 0 := l
  exact hp x T' h' m ⟨k, f, by omega⟩
theorem ty_X4_buyer {scr : List zV} {D : Nat} {P : pP} {M : Nat} {T : List Nat} {h : zH} {x1 : Int32} (hD : 300 ≤ D) (IHP : ∀ P : pP, tBel (zPhi P) scr 300) (ok : wOK (zPhi P) M T h) (hM : M + 0 ≤ 1000000) : TYr scr D P M T h 96 [.inl (.ref 0), .inl (.int x1)] := fun post hp => by
  have hq_0 := ok.2.1.1.1
  have l0 := ok.2.2
  refine tLow_of (IHP P) hD 96 ze_X4_buyer te_X4_buyer_0 rfl (show te_X4_buyer_0 ∈ [te_X4_buyer_0] from List.mem_cons_self) (by decide +kernel) T h _ _ ok.1 ok.2.1 (by show h.length + 0 ≤ 1000000; omega) ⟨⟨_, rfl, hq_0⟩, okA_If _, trivial⟩ (fun r T' h' m k f l tr => ?_)
  obtain ⟨w, rfl, hw, -⟩ := tr
  obtain ⟨x, rfl, -, -⟩ := tint_sp rfl hw
  have l1 : h'.length ≤ h.length + 0 := l
  exact hp x T' h' m ⟨k, f, by omega⟩
theorem ty_X5_buyer {scr : List zV} {D : Nat} {P : pP} {M : Nat} {T : List Nat} {h : zH} {x1 : Int32} (hD : 300 ≤ D) (IHP : ∀ P : pP, tBel (zPhi P) scr 300) (ok : wOK (zPhi P) M T h) (hM : M + 0 ≤ 1000000) : TYr scr D P M T h 164 [.inl (.ref 49), .inl (.int x1)] := fun post hp => by
  have hq_49 := ok.2.1.1.2.2.1
  have l0 := ok.2.2
  refine tLow_of (IHP P) hD 164 ze_X5_buyer te_X5_buyer_0 rfl (show te_X5_buyer_0 ∈ [te_X5_buyer_0] from List.mem_cons_self) (by decide +kernel) T h _ _ ok.1 ok.2.1 (by show h.length + 0 ≤ 1000000; omega) ⟨⟨_, rfl, hq_49⟩, okA_If _, trivial⟩ (fun r T' h' m k f l tr => ?_)
  obtain ⟨w, rfl, hw, -⟩ := tr
  obtain ⟨x, rfl, -, -⟩ := tint_sp rfl hw
  have l1 : h'.length ≤ h.length + 0 := l
  exact hp x T' h' m ⟨k, f, by omega⟩
theorem ty_X4_likes {scr : List zV} {D : Nat} {P : pP} {M : Nat} {T : List Nat} {h : zH} {x1 x2 x3 : Int32} (hD : 300 ≤ D) (IHP : ∀ P : pP, tBel (zPhi P) scr 300) (ok : wOK (zPhi P) M T h) (hM : M + 0 ≤ 1000000) : TYr scr D P M T h 120 [.inl (.ref 0), .inl (.int x1), .inl (.int x2), .inl (.int x3)] := fun post hp => by
  have hq_0 := ok.2.1.1.1
  have l0 := ok.2.2
  refine tLow_of (IHP P) hD 120 ze_X4_likes te_X4_likes_0 rfl (show te_X4_likes_0 ∈ [te_X4_likes_0] from List.mem_cons_self) (by decide +kernel) T h _ _ ok.1 ok.2.1 (by show h.length + 0 ≤ 1000000; omega) ⟨⟨_, rfl, hq_0⟩, okA_If _, okA_If _, okA_If _, trivial⟩ (fun r T' h' m k f l tr => ?_)
  obtain ⟨w, rfl, hw, -⟩ := tr
  obtain ⟨x, rfl, -, -⟩ := tint_sp rfl hw
  have l1 : h'.length ≤ h.length + 0 := l
  exact hp x T' h' m ⟨k, f, by omega⟩
theorem ty_X5_likes {scr : List zV} {D : Nat} {P : pP} {M : Nat} {T : List Nat} {h : zH} {x1 x2 x3 : Int32} (hD : 300 ≤ D) (IHP : ∀ P : pP, tBel (zPhi P) scr 300) (ok : wOK (zPhi P) M T h) (hM : M + 0 ≤ 1000000) : TYr scr D P M T h 197 [.inl (.ref 49), .inl (.int x1), .inl (.int x2), .inl (.int x3)] := fun post hp => by
  have hq_49 := ok.2.1.1.2.2.1
  have l0 := ok.2.2
  refine tLow_of (IHP P) hD 197 ze_X5_likes te_X5_likes_0 rfl (show te_X5_likes_0 ∈ [te_X5_likes_0] from List.mem_cons_self) (by decide +kernel) T h _ _ ok.1 ok.2.1 (by show h.length + 0 ≤ 1000000; omega) ⟨⟨_, rfl, hq_49⟩, okA_If _, okA_If _, okA_If _, trivial⟩ (fun r T' h' m k f l tr => ?_)
  obtain ⟨w, rfl, hw, -⟩ := tr
  obtain ⟨x, rfl, -, -⟩ := tint_sp rfl hw
  have l1 : h'.length ≤ h.length + 0 := l
  exact hp x T' h' m ⟨k, f, by omega⟩
theorem ty_X4_purse {scr : List zV} {D : Nat} {P : pP} {M : Nat} {T : List Nat} {h : zH} {x1 x2 : Int32} (hD : 300 ≤ D) (IHP : ∀ P : pP, tBel (zPhi P) scr 300) (ok : wOK (zPhi P) M T h) (hM : M + 0 ≤ 1000000) : TYr scr D P M T h 128 [.inl (.ref 0), .inl (.int x1), .inl (.int x2)] := fun post hp => by
  have hq_0 := ok.2.1.1.1
  have l0 := ok.2.2
  refine tLow_of (IHP P) hD 128 ze_X4_purse te_X4_purse_0 rfl (show te_X4_purse_0 ∈ [te_X4_purse_0] from List.mem_cons_self) (by decide +kernel) T h _ _ ok.1 ok.2.1 (by show h.length + 0 ≤ 1000000; omega) ⟨⟨_, rfl, hq_0⟩, okA_If _, okA_If _, trivial⟩ (fun r T' h' m k f l tr => ?_)
  obtain ⟨w, rfl, hw, -⟩ := tr
  obtain ⟨x, rfl, -, -⟩ := tint_sp rfl hw
  have l1 : h'.length ≤ h.length + 0 := l
  exact hp x T' h' m ⟨k, f, by omega⟩
theorem ty_X5_purse {scr : List zV} {D : Nat} {P : pP} {M : Nat} {T : List Nat} {h : zH} {x1 x2 : Int32} (hD : 300 ≤ D) (IHP : ∀ P : pP, tBel (zPhi P) scr 300) (ok : wOK (zPhi P) M T h) (hM : M + 0 ≤ 1000000) : TYr scr D P M T h 214 [.inl (.ref 49), .inl (.int x1), .inl (.int x2)] := fun post hp => by
  have hq_49 := ok.2.1.1.2.2.1
  have l0 := ok.2.2
  refine tLow_of (IHP P) hD 214 ze_X5_purse te_X5_purse_0 rfl (show te_X5_purse_0 ∈ [te_X5_purse_0] from List.mem_cons_self) (by decide +kernel) T h _ _ ok.1 ok.2.1 (by show h.length + 0 ≤ 1000000; omega) ⟨⟨_, rfl, hq_49⟩, okA_If _, okA_If _, trivial⟩ (fun r T' h' m k f l tr => ?_)
  obtain ⟨w, rfl, hw, -⟩ := tr
  obtain ⟨x, rfl, -, -⟩ := tint_sp rfl hw
  have l1 : h'.length ≤ h.length + 0 := l
  exact hp x T' h' m ⟨k, f, by omega⟩
theorem ty_X4_thingOf {scr : List zV} {D : Nat} {P : pP} {M : Nat} {T : List Nat} {h : zH} {x1 x2 : Int32} (hD : 300 ≤ D) (IHP : ∀ P : pP, tBel (zPhi P) scr 300) (ok : wOK (zPhi P) M T h) (hM : M + 0 ≤ 1000000) : TYr scr D P M T h 145 [.inl (.ref 0), .inl (.int x1), .inl (.int x2)] := fun post hp => by
  have hq_0 := ok.2.1.1.1
  have l0 := ok.2.2
  refine tLow_of (IHP P) hD 145 ze_X4_thingOf te_X4_thingOf_0 rfl (show te_X4_thingOf_0 ∈ [te_X4_thingOf_0] from List.mem_cons_self) (by decide +kernel) T h _ _ ok.1 ok.2.1 (by show h.length + 0 ≤ 1000000; omega) ⟨⟨_, rfl, hq_0⟩, okA_If _, okA_If _, trivial⟩ (fun r T' h' m k f l tr => ?_)
  obtain ⟨w, rfl, hw, -⟩ := tr
  obtain ⟨x, rfl, -, -⟩ := tint_sp rfl hw
  have l1 : h'.length ≤ h.length + 0 := l
  exact hp x T' h' m ⟨k, f, by omega⟩
theorem ty_X5_thingOf {scr : List zV} {D : Nat} {P : pP} {M : Nat} {T : List Nat} {h : zH} {x1 x2 : Int32} (hD : 300 ≤ D) (IHP : ∀ P : pP, tBel (zPhi P) scr 300) (ok : wOK (zPhi P) M T h) (hM : M + 0 ≤ 1000000) : TYr scr D P M T h 237 [.inl (.ref 49), .inl (.int x1), .inl (.int x2)] := fun post hp => by
  have hq_49 := ok.2.1.1.2.2.1
  have l0 := ok.2.2
  refine tLow_of (IHP P) hD 237 ze_X5_thingOf te_X5_thingOf_0 rfl (show te_X5_thingOf_0 ∈ [te_X5_thingOf_0] from List.mem_cons_self) (by decide +kernel) T h _ _ ok.1 ok.2.1 (by show h.length + 0 ≤ 1000000; omega) ⟨⟨_, rfl, hq_49⟩, okA_If _, okA_If _, trivial⟩ (fun r T' h' m k f l tr => ?_)
  obtain ⟨w, rfl, hw, -⟩ := tr
  obtain ⟨x, rfl, -, -⟩ := tint_sp rfl hw
  have l1 : h'.length ≤ h.length + 0 := l
  exact hp x T' h' m ⟨k, f, by omega⟩
theorem ty_X4_buyerOf {scr : List zV} {D : Nat} {P : pP} {M : Nat} {T : List Nat} {h : zH} {x1 x2 : Int32} (hD : 300 ≤ D) (IHP : ∀ P : pP, tBel (zPhi P) scr 300) (ok : wOK (zPhi P) M T h) (hM : M + 0 ≤ 1000000) : TYr scr D P M T h 97 [.inl (.ref 0), .inl (.int x1), .inl (.int x2)] := fun post hp => by
  have hq_0 := ok.2.1.1.1
  have l0 := ok.2.2
  refine tLow_of (IHP P) hD 97 ze_X4_buyerOf te_X4_buyerOf_0 rfl (show te_X4_buyerOf_0 ∈ [te_X4_buyerOf_0] from List.mem_cons_self) (by decide +kernel) T h _ _ ok.1 ok.2.1 (by show h.length + 0 ≤ 1000000; omega) ⟨⟨_, rfl, hq_0⟩, okA_If _, okA_If _, trivial⟩ (fun r T' h' m k f l tr => ?_)
  obtain ⟨w, rfl, hw, -⟩ := tr
  obtain ⟨x, rfl, -, -⟩ := tint_sp rfl hw
  have l1 : h'.length ≤ h.length + 0 := l
  exact hp x T' h' m ⟨k, f, by omega⟩
theorem ty_X5_buyerOf {scr : List zV} {D : Nat} {P : pP} {M : Nat} {T : List Nat} {h : zH} {x1 x2 : Int32} (hD : 300 ≤ D) (IHP : ∀ P : pP, tBel (zPhi P) scr 300) (ok : wOK (zPhi P) M T h) (hM : M + 0 ≤ 1000000) : TYr scr D P M T h 165 [.inl (.ref 49), .inl (.int x1), .inl (.int x2)] := fun post hp => by
  have hq_49 := ok.2.1.1.2.2.1
  have l0 := ok.2.2
  refine tLow_of (IHP P) hD 165 ze_X5_buyerOf te_X5_buyerOf_0 rfl (show te_X5_buyerOf_0 ∈ [te_X5_buyerOf_0] from List.mem_cons_self) (by decide +kernel) T h _ _ ok.1 ok.2.1 (by show h.length + 0 ≤ 1000000; omega) ⟨⟨_, rfl, hq_49⟩, okA_If _, okA_If _, trivial⟩ (fun r T' h' m k f l tr => ?_)
  obtain ⟨w, rfl, hw, -⟩ := tr
  obtain ⟨x, rfl, -, -⟩ := tint_sp rfl hw
  have l1 : h'.length ≤ h.length + 0 := l
  exact hp x T' h' m ⟨k, f, by omega⟩
theorem ty_X4_slipOf {scr : List zV} {D : Nat} {P : pP} {M : Nat} {T : List Nat} {h : zH} {x1 x2 : Int32} (hD : 300 ≤ D) (IHP : ∀ P : pP, tBel (zPhi P) scr 300) (ok : wOK (zPhi P) M T h) (hM : M + 0 ≤ 1000000) : TYr scr D P M T h 136 [.inl (.ref 0), .inl (.int x1), .inl (.int x2)] := fun post hp => by
  have hq_0 := ok.2.1.1.1
  have l0 := ok.2.2
  refine tLow_of (IHP P) hD 136 ze_X4_slipOf te_X4_slipOf_0 rfl (show te_X4_slipOf_0 ∈ [te_X4_slipOf_0] from List.mem_cons_self) (by decide +kernel) T h _ _ ok.1 ok.2.1 (by show h.length + 0 ≤ 1000000; omega) ⟨⟨_, rfl, hq_0⟩, okA_If _, okA_If _, trivial⟩ (fun r T' h' m k f l tr => ?_)
  obtain ⟨w, rfl, hw, -⟩ := tr
  obtain ⟨x, rfl, -, -⟩ := tint_sp rfl hw
  have l1 : h'.length ≤ h.length + 0 := l
  exact hp x T' h' m ⟨k, f, by omega⟩
theorem ty_X5_slipOf {scr : List zV} {D : Nat} {P : pP} {M : Nat} {T : List Nat} {h : zH} {x1 x2 : Int32} (hD : 300 ≤ D) (IHP : ∀ P : pP, tBel (zPhi P) scr 300) (ok : wOK (zPhi P) M T h) (hM : M + 0 ≤ 1000000) : TYr scr D P M T h 223 [.inl (.ref 49), .inl (.int x1), .inl (.int x2)] := fun post hp => by
  have hq_49 := ok.2.1.1.2.2.1
  have l0 := ok.2.2
  refine tLow_of (IHP P) hD 223 ze_X5_slipOf te_X5_slipOf_0 rfl (show te_X5_slipOf_0 ∈ [te_X5_slipOf_0] from List.mem_cons_self) (by decide +kernel) T h _ _ ok.1 ok.2.1 (by show h.length + 0 ≤ 1000000; omega) ⟨⟨_, rfl, hq_49⟩, okA_If _, okA_If _, trivial⟩ (fun r T' h' m k f l tr => ?_)
  obtain ⟨w, rfl, hw, -⟩ := tr
  obtain ⟨x, rfl, -, -⟩ := tint_sp rfl hw
  have l1 : h'.length ≤ h.length + 0 := l
  exact hp x T' h' m ⟨k, f, by omega⟩
theorem ty_X4_drawable {scr : List zV} {D : Nat} {P : pP} {M : Nat} {T : List Nat} {h : zH} (hD : 300 ≤ D) (IHP : ∀ P : pP, tBel (zPhi P) scr 300) (ok : wOK (zPhi P) M T h) (hM : M + 0 ≤ 1000000) : TYr scr D P M T h 102 [.inl (.ref 0)] := fun post hp => by
  have hq_0 := ok.2.1.1.1
  have l0 := ok.2.2
  refine tLow_of (IHP P) hD 102 ze_X4_drawable te_X4_drawable_0 rfl (show te_X4_drawable_0 ∈ [te_X4_drawable_0] from List.mem_cons_self) (by decide +kernel) T h _ _ ok.1 ok.2.1 (by show h.length + 0 ≤ 1000000; omega) ⟨⟨_, rfl, hq_0⟩, trivial⟩ (fun r T' h' m k f l tr => ?_)
  obtain ⟨w, rfl, hw, -⟩ := tr
  obtain ⟨x, rfl, -, -⟩ := tint_sp rfl hw
  have l1 : h'.length ≤ h.length + 0 := l
  exact hp x T' h' m ⟨k, f, by omega⟩
theorem ty_X5_drawable {scr : List zV} {D : Nat} {P : pP} {M : Nat} {T : List Nat} {h : zH} (hD : 300 ≤ D) (IHP : ∀ P : pP, tBel (zPhi P) scr 300) (ok : wOK (zPhi P) M T h) (hM : M + 0 ≤ 1000000) : TYr scr D P M T h 172 [.inl (.ref 49)] := fun post hp => by
  have hq_49 := ok.2.1.1.2.2.1
  have l0 := ok.2.2
  refine tLow_of (IHP P) hD 172 ze_X5_drawable te_X5_drawable_0 rfl (show te_X5_drawable_0 ∈ [te_X5_drawable_0] from List.mem_cons_self) (by decide +kernel) T h _ _ ok.1 ok.2.1 (by show h.length + 0 ≤ 1000000; omega) ⟨⟨_, rfl, hq_49⟩, trivial⟩ (fun r T' h' m k f l tr => ?_)
  obtain ⟨w, rfl, hw, -⟩ := tr
  obtain ⟨x, rfl, -, -⟩ := tint_sp rfl hw
  have l1 : h'.length ≤ h.length + 0 := l
  exact hp x T' h' m ⟨k, f, by omega⟩
theorem ty_X4_wins {scr : List zV} {D : Nat} {P : pP} {M : Nat} {T : List Nat} {h : zH} {x1 : Int32} (hD : 300 ≤ D) (IHP : ∀ P : pP, tBel (zPhi P) scr 300) (ok : wOK (zPhi P) M T h) (hM : M + 0 ≤ 1000000) : TYr scr D P M T h 147 [.inl (.ref 0), .inl (.int x1)] := fun post hp => by
  have hq_0 := ok.2.1.1.1
  have l0 := ok.2.2
  refine tLow_of (IHP P) hD 147 ze_X4_wins te_X4_wins_0 rfl (show te_X4_wins_0 ∈ [te_X4_wins_0] from List.mem_cons_self) (by decide +kernel) T h _ _ ok.1 ok.2.1 (by show h.length + 0 ≤ 1000000; omega) ⟨⟨_, rfl, hq_0⟩, okA_If _, trivial⟩ (fun r T' h' m k f l tr => ?_)
  obtain ⟨w, rfl, hw, -⟩ := tr
  obtain ⟨x, rfl, -, -⟩ := tint_sp rfl hw
  have l1 : h'.length ≤ h.length + 0 := l
  exact hp x T' h' m ⟨k, f, by omega⟩
theorem ty_X5_wins {scr : List zV} {D : Nat} {P : pP} {M : Nat} {T : List Nat} {h : zH} {x1 : Int32} (hD : 300 ≤ D) (IHP : ∀ P : pP, tBel (zPhi P) scr 300) (ok : wOK (zPhi P) M T h) (hM : M + 0 ≤ 1000000) : TYr scr D P M T h 242 [.inl (.ref 49), .inl (.int x1)] := fun post hp => by
  have hq_49 := ok.2.1.1.2.2.1
  have l0 := ok.2.2
  refine tLow_of (IHP P) hD 242 ze_X5_wins te_X5_wins_0 rfl (show te_X5_wins_0 ∈ [te_X5_wins_0] from List.mem_cons_self) (by decide +kernel) T h _ _ ok.1 ok.2.1 (by show h.length + 0 ≤ 1000000; omega) ⟨⟨_, rfl, hq_49⟩, okA_If _, trivial⟩ (fun r T' h' m k f l tr => ?_)
  obtain ⟨w, rfl, hw, -⟩ := tr
  obtain ⟨x, rfl, -, -⟩ := tint_sp rfl hw
  have l1 : h'.length ≤ h.length + 0 := l
  exact hp x T' h' m ⟨k, f, by omega⟩
theorem ty_X4_worth {scr : List zV} {D : Nat} {P : pP} {M : Nat} {T : List Nat} {h : zH} {x1 : Int32} (hD : 300 ≤ D) (IHP : ∀ P : pP, tBel (zPhi P) scr 300) (ok : wOK (zPhi P) M T h) (hM : M + 0 ≤ 1000000) : TYr scr D P M T h 151 [.inl (.ref 0), .inl (.int x1)] := fun post hp => by
  have hq_0 := ok.2.1.1.1
  have l0 := ok.2.2
  refine tLow_of (IHP P) hD 151 ze_X4_worth te_X4_worth_0 rfl (show te_X4_worth_0 ∈ [te_X4_worth_0] from List.mem_cons_self) (by decide +kernel) T h _ _ ok.1 ok.2.1 (by show h.length + 0 ≤ 1000000; omega) ⟨⟨_, rfl, hq_0⟩, okA_If _, trivial⟩ (fun r T' h' m k f l tr => ?_)
  obtain ⟨w, rfl, hw, -⟩ := tr
  obtain ⟨x, rfl, -, -⟩ := tint_sp rfl hw
  have l1 : h'.length ≤ h.length + 0 := l
  exact hp x T' h' m ⟨k, f, by omega⟩
theorem ty_X5_worth {scr : List zV} {D : Nat} {P : pP} {M : Nat} {T : List Nat} {h : zH} {x1 : Int32} (hD : 300 ≤ D) (IHP : ∀ P : pP, tBel (zPhi P) scr 300) (ok : wOK (zPhi P) M T h) (hM : M + 0 ≤ 1000000) : TYr scr D P M T h 247 [.inl (.ref 49), .inl (.int x1)] := fun post hp => by
  have hq_49 := ok.2.1.1.2.2.1
  have l0 := ok.2.2
  refine tLow_of (IHP P) hD 247 ze_X5_worth te_X5_worth_0 rfl (show te_X5_worth_0 ∈ [te_X5_worth_0] from List.mem_cons_self) (by decide +kernel) T h _ _ ok.1 ok.2.1 (by show h.length + 0 ≤ 1000000; omega) ⟨⟨_, rfl, hq_49⟩, okA_If _, trivial⟩ (fun r T' h' m k f l tr => ?_)
  obtain ⟨w, rfl, hw, -⟩ := tr
  obtain ⟨x, rfl, -, -⟩ := tint_sp rfl hw
  have l1 : h'.length ≤ h.length + 0 := l
  exact hp x T' h' m ⟨k, f, by omega⟩
theorem ty_X4_plan {scr : List zV} {D : Nat} {P : pP} {M : Nat} {T : List Nat} {h : zH} {x1 : Int32} (hD : 300 ≤ D) (IHP : ∀ P : pP, tBel (zPhi P) scr 300) (ok : wOK (zPhi P) M T h) (hM : M + 0 ≤ 1000000) : TYr scr D P M T h 124 [.inl (.ref 0), .inl (.int x1)] := fun post hp => by
  have hq_0 := ok.2.1.1.1
  have l0 := ok.2.2
  refine tLow_of (IHP P) hD 124 ze_X4_plan te_X4_plan_0 rfl (show te_X4_plan_0 ∈ [te_X4_plan_0] from List.mem_cons_self) (by decide +kernel) T h _ _ ok.1 ok.2.1 (by show h.length + 0 ≤ 1000000; omega) ⟨⟨_, rfl, hq_0⟩, okA_If _, trivial⟩ (fun r T' h' m k f l tr => ?_)
  obtain ⟨w, rfl, hw, -⟩ := tr
  obtain ⟨x, rfl, -, -⟩ := tint_sp rfl hw
  have l1 : h'.length ≤ h.length + 0 := l
  exact hp x T' h' m ⟨k, f, by omega⟩
theorem ty_X4_till {scr : List zV} {D : Nat} {P : pP} {M : Nat} {T : List Nat} {h : zH} {x1 : Int32} (hD : 300 ≤ D) (IHP : ∀ P : pP, tBel (zPhi P) scr 300) (ok : wOK (zPhi P) M T h) (hM : M + 0 ≤ 1000000) : TYr scr D P M T h 146 [.inl (.ref 0), .inl (.int x1)] := fun post hp => by
  have hq_0 := ok.2.1.1.1
  have l0 := ok.2.2
  refine tLow_of (IHP P) hD 146 ze_X4_till te_X4_till_0 rfl (show te_X4_till_0 ∈ [te_X4_till_0] from List.mem_cons_self) (by decide +kernel) T h _ _ ok.1 ok.2.1 (by show h.length + 0 ≤ 1000000; omega) ⟨⟨_, rfl, hq_0⟩, okA_If _, trivial⟩ (fun r T' h' m k f l tr => ?_)
  obtain ⟨w, rfl, hw, -⟩ := tr
  obtain ⟨x, rfl, -, -⟩ := tint_sp rfl hw
  have l1 : h'.length ≤ h.length + 0 := l
  exact hp x T' h' m ⟨k, f, by omega⟩
theorem ty_X4_atOnce {scr : List zV} {D : Nat} {P : pP} {M : Nat} {T : List Nat} {h : zH} {x1 : Int32} (hD : 300 ≤ D) (IHP : ∀ P : pP, tBel (zPhi P) scr 300) (ok : wOK (zPhi P) M T h) (hM : M + 0 ≤ 1000000) : TYr scr D P M T h 92 [.inl (.ref 0), .inl (.int x1)] := fun post hp => by
  have hq_0 := ok.2.1.1.1
  have l0 := ok.2.2
  refine tLow_of (IHP P) hD 92 ze_X4_atOnce te_X4_atOnce_0 rfl (show te_X4_atOnce_0 ∈ [te_X4_atOnce_0] from List.mem_cons_self) (by decide +kernel) T h _ _ ok.1 ok.2.1 (by show h.length + 0 ≤ 1000000; omega) ⟨⟨_, rfl, hq_0⟩, okA_If _, trivial⟩ (fun r T' h' m k f l tr => ?_)
  obtain ⟨w, rfl, hw, -⟩ := tr
  obtain ⟨x, rfl, -, -⟩ := tint_sp rfl hw
  have l1 : h'.length ≤ h.length + 0 := l
  exact hp x T' h' m ⟨k, f, by omega⟩
theorem ty_X4_mean {scr : List zV} {D : Nat} {P : pP} {M : Nat} {T : List Nat} {h : zH} {x1 x2 : Int32} (hD : 300 ≤ D) (IHP : ∀ P : pP, tBel (zPhi P) scr 300) (ok : wOK (zPhi P) M T h) (hM : M + 0 ≤ 1000000) : TYr scr D P M T h 121 [.inl (.ref 0), .inl (.int x1), .inl (.int x2)] := fun post hp => by
  have hq_0 := ok.2.1.1.1
  have l0 := ok.2.2
  refine tLow_of (IHP P) hD 121 ze_X4_mean te_X4_mean_0 rfl (show te_X4_mean_0 ∈ [te_X4_mean_0] from List.mem_cons_self) (by decide +kernel) T h _ _ ok.1 ok.2.1 (by show h.length + 0 ≤ 1000000; omega) ⟨⟨_, rfl, hq_0⟩, okA_If _, okA_If _, trivial⟩ (fun r T' h' m k f l tr => ?_)
  obtain ⟨w, rfl, hw, -⟩ := tr
  obtain ⟨x, rfl, -, -⟩ := tint_sp rfl hw
  have l1 : h'.length ≤ h.length + 0 := l
  exact hp x T' h' m ⟨k, f, by omega⟩
theorem ty_X4_all {scr : List zV} {D : Nat} {P : pP} {M : Nat} {T : List Nat} {h : zH} {x1 : Int32} (hD : 300 ≤ D) (IHP : ∀ P : pP, tBel (zPhi P) scr 300) (ok : wOK (zPhi P) M T h) (hM : M + 0 ≤ 1000000) : TYr scr D P M T h 90 [.inl (.ref 0), .inl (.int x1)] := fun post hp => by
  have hq_0 := ok.2.1.1.1
  have l0 := ok.2.2
  refine tLow_of (IHP P) hD 90 ze_X4_all te_X4_all_0 rfl (show te_X4_all_0 ∈ [te_X4_all_0] from List.mem_cons_self) (by decide +kernel) T h _ _ ok.1 ok.2.1 (by show h.length + 0 ≤ 1000000; omega) ⟨⟨_, rfl, hq_0⟩, okA_If _, trivial⟩ (fun r T' h' m k f l tr => ?_)
  obtain ⟨w, rfl, hw, -⟩ := tr
  obtain ⟨x, rfl, -, -⟩ := tint_sp rfl hw
  have l1 : h'.length ≤ h.length + 0 := l
  exact hp x T' h' m ⟨k, f, by omega⟩
theorem ty_X5_all {scr : List zV} {D : Nat} {P : pP} {M : Nat} {T : List Nat} {h : zH} {x1 : Int32} (hD : 300 ≤ D) (IHP : ∀ P : pP, tBel (zPhi P) scr 300) (ok : wOK (zPhi P) M T h) (hM : M + 0 ≤ 1000000) : TYr scr D P M T h 154 [.inl (.ref 49), .inl (.int x1)] := fun post hp => by
  have hq_49 := ok.2.1.1.2.2.1
  have l0 := ok.2.2
  refine tLow_of (IHP P) hD 154 ze_X5_all te_X5_all_0 rfl (show te_X5_all_0 ∈ [te_X5_all_0] from List.mem_cons_self) (by decide +kernel) T h _ _ ok.1 ok.2.1 (by show h.length + 0 ≤ 1000000; omega) ⟨⟨_, rfl, hq_49⟩, okA_If _, trivial⟩ (fun r T' h' m k f l tr => ?_)
  obtain ⟨w, rfl, hw, -⟩ := tr
  obtain ⟨x, rfl, -, -⟩ := tint_sp rfl hw
  have l1 : h'.length ≤ h.length + 0 := l
  exact hp x T' h' m ⟨k, f, by omega⟩
theorem ty_X4_takings {scr : List zV} {D : Nat} {P : pP} {M : Nat} {T : List Nat} {h : zH} {x1 : Int32} (hD : 300 ≤ D) (IHP : ∀ P : pP, tBel (zPhi P) scr 300) (ok : wOK (zPhi P) M T h) (hM : M + 0 ≤ 1000000) : TYr scr D P M T h 143 [.inl (.ref 0), .inl (.int x1)] := fun post hp => by
  have hq_0 := ok.2.1.1.1
  have l0 := ok.2.2
  refine tLow_of (IHP P) hD 143 ze_X4_takings te_X4_takings_0 rfl (show te_X4_takings_0 ∈ [te_X4_takings_0] from List.mem_cons_self) (by decide +kernel) T h _ _ ok.1 ok.2.1 (by show h.length + 0 ≤ 1000000; omega) ⟨⟨_, rfl, hq_0⟩, okA_If _, trivial⟩ (fun r T' h' m k f l tr => ?_)
  obtain ⟨w, rfl, hw, -⟩ := tr
  obtain ⟨x, rfl, -, -⟩ := tint_sp rfl hw
  have l1 : h'.length ≤ h.length + 0 := l
  exact hp x T' h' m ⟨k, f, by omega⟩
theorem ty_X5_takings {scr : List zV} {D : Nat} {P : pP} {M : Nat} {T : List Nat} {h : zH} {x1 : Int32} (hD : 300 ≤ D) (IHP : ∀ P : pP, tBel (zPhi P) scr 300) (ok : wOK (zPhi P) M T h) (hM : M + 0 ≤ 1000000) : TYr scr D P M T h 233 [.inl (.ref 49), .inl (.int x1)] := fun post hp => by
  have hq_49 := ok.2.1.1.2.2.1
  have l0 := ok.2.2
  refine tLow_of (IHP P) hD 233 ze_X5_takings te_X5_takings_0 rfl (show te_X5_takings_0 ∈ [te_X5_takings_0] from List.mem_cons_self) (by decide +kernel) T h _ _ ok.1 ok.2.1 (by show h.length + 0 ≤ 1000000; omega) ⟨⟨_, rfl, hq_49⟩, okA_If _, trivial⟩ (fun r T' h' m k f l tr => ?_)
  obtain ⟨w, rfl, hw, -⟩ := tr
  obtain ⟨x, rfl, -, -⟩ := tint_sp rfl hw
  have l1 : h'.length ≤ h.length + 0 := l
  exact hp x T' h' m ⟨k, f, by omega⟩
theorem ty_X4_bestPrice {scr : List zV} {D : Nat} {P : pP} {M : Nat} {T : List Nat} {h : zH} (hD : 300 ≤ D) (IHP : ∀ P : pP, tBel (zPhi P) scr 300) (ok : wOK (zPhi P) M T h) (hM : M + 0 ≤ 1000000) : TYr scr D P M T h 94 [.inl (.ref 0)] := fun post hp => by
  have hq_0 := ok.2.1.1.1
  have l0 := ok.2.2
  refine tLow_of (IHP P) hD 94 ze_X4_bestPrice te_X4_bestPrice_0 rfl (show te_X4_bestPrice_0 ∈ [te_X4_bestPrice_0] from List.mem_cons_self) (by decide +kernel) T h _ _ ok.1 ok.2.1 (by show h.length + 0 ≤ 1000000; omega) ⟨⟨_, rfl, hq_0⟩, trivial⟩ (fun r T' h' m k f l tr => ?_)
  obtain ⟨w, rfl, hw, -⟩ := tr
  obtain ⟨x, rfl, -, -⟩ := tint_sp rfl hw
  have l1 : h'.length ≤ h.length + 0 := l
  exact hp x T' h' m ⟨k, f, by omega⟩
theorem ty_X5_bestPrice {scr : List zV} {D : Nat} {P : pP} {M : Nat} {T : List Nat} {h : zH} (hD : 300 ≤ D) (IHP : ∀ P : pP, tBel (zPhi P) scr 300) (ok : wOK (zPhi P) M T h) (hM : M + 0 ≤ 1000000) : TYr scr D P M T h 160 [.inl (.ref 49)] := fun post hp => by
  have hq_49 := ok.2.1.1.2.2.1
  have l0 := ok.2.2
  refine tLow_of (IHP P) hD 160 ze_X5_bestPrice te_X5_bestPrice_0 rfl (show te_X5_bestPrice_0 ∈ [te_X5_bestPrice_0] from List.mem_cons_self) (by decide +kernel) T h _ _ ok.1 ok.2.1 (by show h.length + 0 ≤ 1000000; omega) ⟨⟨_, rfl, hq_49⟩, trivial⟩ (fun r T' h' m k f l tr => ?_)
  obtain ⟨w, rfl, hw, -⟩ := tr
  obtain ⟨x, rfl, -, -⟩ := tint_sp rfl hw
  have l1 : h'.length ≤ h.length + 0 := l
  exact hp x T' h' m ⟨k, f, by omega⟩
theorem ty_X4_full {scr : List zV} {D : Nat} {P : pP} {M : Nat} {T : List Nat} {h : zH} (hD : 300 ≤ D) (IHP : ∀ P : pP, tBel (zPhi P) scr 300) (ok : wOK (zPhi P) M T h) (hM : M + 0 ≤ 1000000) : TYr scr D P M T h 110 [.inl (.ref 0)] := fun post hp => by
  have hq_0 := ok.2.1.1.1
  have l0 := ok.2.2
  refine tLow_of (IHP P) hD 110 ze_X4_full te_X4_full_0 rfl (show te_X4_full_0 ∈ [te_X4_full_0] from List.mem_cons_self) (by decide +kernel) T h _ _ ok.1 ok.2.1 (by show h.length + 0 ≤ 1000000; omega) ⟨⟨_, rfl, hq_0⟩, trivial⟩ (fun r T' h' m k f l tr => ?_)
  obtain ⟨w, rfl, hw, -⟩ := tr
  obtain ⟨x, rfl, -, -⟩ := tint_sp rfl hw
  have l1 : h'.length ≤ h.length + 0 := l
  exact hp x T' h' m ⟨k, f, by omega⟩
theorem ty_X5_full {scr : List zV} {D : Nat} {P : pP} {M : Nat} {T : List Nat} {h : zH} (hD : 300 ≤ D) (IHP : ∀ P : pP, tBel (zPhi P) scr 300) (ok : wOK (zPhi P) M T h) (hM : M + 0 ≤ 1000000) : TYr scr D P M T h 184 [.inl (.ref 49)] := fun post hp => by
  have hq_49 := ok.2.1.1.2.2.1
  have l0 := ok.2.2
  refine tLow_of (IHP P) hD 184 ze_X5_full te_X5_full_0 rfl (show te_X5_full_0 ∈ [te_X5_full_0] from List.mem_cons_self) (by decide +kernel) T h _ _ ok.1 ok.2.1 (by show h.length + 0 ≤ 1000000; omega) ⟨⟨_, rfl, hq_49⟩, trivial⟩ (fun r T' h' m k f l tr => ?_)
  obtain ⟨w, rfl, hw, -⟩ := tr
  obtain ⟨x, rfl, -, -⟩ := tint_sp rfl hw
  have l1 : h'.length ≤ h.length + 0 := l
  exact hp x T' h' m ⟨k, f, by omega⟩
theorem ty_X4_guess {scr : List zV} {D : Nat} {P : pP} {M : Nat} {T : List Nat} {h : zH} {x1 x2 : Int32} (hD : 300 ≤ D) (IHP : ∀ P : pP, tBel (zPhi P) scr 300) (ok : wOK (zPhi P) M T h) (hM : M + 0 ≤ 1000000) : TYr scr D P M T h 112 [.inl (.ref 0), .inl (.int x1), .inl (.int x2)] := fun post hp => by
  have hq_0 := ok.2.1.1.1
  have l0 := ok.2.2
  refine tLow_of (IHP P) hD 112 ze_X4_guess te_X4_guess_0 rfl (show te_X4_guess_0 ∈ [te_X4_guess_0] from List.mem_cons_self) (by decide +kernel) T h _ _ ok.1 ok.2.1 (by show h.length + 0 ≤ 1000000; omega) ⟨⟨_, rfl, hq_0⟩, okA_If _, okA_If _, trivial⟩ (fun r T' h' m k f l tr => ?_)
  obtain ⟨w, rfl, hw, -⟩ := tr
  obtain ⟨x, rfl, -, -⟩ := tint_sp rfl hw
  have l1 : h'.length ≤ h.length + 0 := l
  exact hp x T' h' m ⟨k, f, by omega⟩
theorem ty_X5_guess {scr : List zV} {D : Nat} {P : pP} {M : Nat} {T : List Nat} {h : zH} {x1 x2 : Int32} (hD : 300 ≤ D) (IHP : ∀ P : pP, tBel (zPhi P) scr 300) (ok : wOK (zPhi P) M T h) (hM : M + 0 ≤ 1000000) : TYr scr D P M T h 188 [.inl (.ref 49), .inl (.int x1), .inl (.int x2)] := fun post hp => by
  have hq_49 := ok.2.1.1.2.2.1
  have l0 := ok.2.2
  refine tLow_of (IHP P) hD 188 ze_X5_guess te_X5_guess_0 rfl (show te_X5_guess_0 ∈ [te_X5_guess_0] from List.mem_cons_self) (by decide +kernel) T h _ _ ok.1 ok.2.1 (by show h.length + 0 ≤ 1000000; omega) ⟨⟨_, rfl, hq_49⟩, okA_If _, okA_If _, trivial⟩ (fun r T' h' m k f l tr => ?_)
  obtain ⟨w, rfl, hw, -⟩ := tr
  obtain ⟨x, rfl, -, -⟩ := tint_sp rfl hw
  have l1 : h'.length ≤ h.length + 0 := l
  exact hp x T' h' m ⟨k, f, by omega⟩
theorem ty_X4_suspect {scr : List zV} {D : Nat} {P : pP} {M : Nat} {T : List Nat} {h : zH} {x1 x2 : Int32} (hD : 300 ≤ D) (IHP : ∀ P : pP, tBel (zPhi P) scr 300) (ok : wOK (zPhi P) M T h) (hM : M + 0 ≤ 1000000) : TYr scr D P M T h 142 [.inl (.ref 0), .inl (.int x1), .inl (.int x2)] := fun post hp => by
  have hq_0 := ok.2.1.1.1
  have l0 := ok.2.2
  refine tLow_of (IHP P) hD 142 ze_X4_suspect te_X4_suspect_0 rfl (show te_X4_suspect_0 ∈ [te_X4_suspect_0] from List.mem_cons_self) (by decide +kernel) T h _ _ ok.1 ok.2.1 (by show h.length + 0 ≤ 1000000; omega) ⟨⟨_, rfl, hq_0⟩, okA_If _, okA_If _, trivial⟩ (fun r T' h' m k f l tr => ?_)
  obtain ⟨w, rfl, hw, -⟩ := tr
  obtain ⟨x, rfl, -, -⟩ := tint_sp rfl hw
  have l1 : h'.length ≤ h.length + 0 := l
  exact hp x T' h' m ⟨k, f, by omega⟩
theorem ty_X5_suspect {scr : List zV} {D : Nat} {P : pP} {M : Nat} {T : List Nat} {h : zH} {x1 x2 : Int32} (hD : 300 ≤ D) (IHP : ∀ P : pP, tBel (zPhi P) scr 300) (ok : wOK (zPhi P) M T h) (hM : M + 0 ≤ 1000000) : TYr scr D P M T h 230 [.inl (.ref 49), .inl (.int x1), .inl (.int x2)] := fun post hp => by
  have hq_49 := ok.2.1.1.2.2.1
  have l0 := ok.2.2
  refine tLow_of (IHP P) hD 230 ze_X5_suspect te_X5_suspect_0 rfl (show te_X5_suspect_0 ∈ [te_X5_suspect_0] from List.mem_cons_self) (by decide +kernel) T h _ _ ok.1 ok.2.1 (by show h.length + 0 ≤ 1000000; omega) ⟨⟨_, rfl, hq_49⟩, okA_If _, okA_If _, trivial⟩ (fun r T' h' m k f l tr => ?_)
  obtain ⟨w, rfl, hw, -⟩ := tr
  obtain ⟨x, rfl, -, -⟩ := tint_sp rfl hw
  have l1 : h'.length ≤ h.length + 0 := l
  exact hp x T' h' m ⟨k, f, by omega⟩
theorem ty_X4_sure {scr : List zV} {D : Nat} {P : pP} {M : Nat} {T : List Nat} {h : zH} {x1 x2 : Int32} (hD : 300 ≤ D) (IHP : ∀ P : pP, tBel (zPhi P) scr 300) (ok : wOK (zPhi P) M T h) (hM : M + 0 ≤ 1000000) : TYr scr D P M T h 140 [.inl (.ref 0), .inl (.int x1), .inl (.int x2)] := fun post hp => by
  have hq_0 := ok.2.1.1.1
  have l0 := ok.2.2
  refine tLow_of (IHP P) hD 140 ze_X4_sure te_X4_sure_0 rfl (show te_X4_sure_0 ∈ [te_X4_sure_0] from List.mem_cons_self) (by decide +kernel) T h _ _ ok.1 ok.2.1 (by show h.length + 0 ≤ 1000000; omega) ⟨⟨_, rfl, hq_0⟩, okA_If _, okA_If _, trivial⟩ (fun r T' h' m k f l tr => ?_)
  obtain ⟨w, rfl, hw, -⟩ := tr
  obtain ⟨x, rfl, -, -⟩ := tint_sp rfl hw
  have l1 : h'.length ≤ h.length + 0 := l
  exact hp x T' h' m ⟨k, f, by omega⟩
theorem ty_X5_sure {scr : List zV} {D : Nat} {P : pP} {M : Nat} {T : List Nat} {h : zH} {x1 x2 : Int32} (hD : 300 ≤ D) (IHP : ∀ P : pP, tBel (zPhi P) scr 300) (ok : wOK (zPhi P) M T h) (hM : M + 0 ≤ 1000000) : TYr scr D P M T h 229 [.inl (.ref 49), .inl (.int x1), .inl (.int x2)] := fun post hp => by
  have hq_49 := ok.2.1.1.2.2.1
  have l0 := ok.2.2
  refine tLow_of (IHP P) hD 229 ze_X5_sure te_X5_sure_0 rfl (show te_X5_sure_0 ∈ [te_X5_sure_0] from List.mem_cons_self) (by decide +kernel) T h _ _ ok.1 ok.2.1 (by show h.length + 0 ≤ 1000000; omega) ⟨⟨_, rfl, hq_49⟩, okA_If _, okA_If _, trivial⟩ (fun r T' h' m k f l tr => ?_)
  obtain ⟨w, rfl, hw, -⟩ := tr
  obtain ⟨x, rfl, -, -⟩ := tint_sp rfl hw
  have l1 : h'.length ≤ h.length + 0 := l
  exact hp x T' h' m ⟨k, f, by omega⟩
theorem ty_X4_left {scr : List zV} {D : Nat} {P : pP} {M : Nat} {T : List Nat} {h : zH} {x1 : Int32} (hD : 300 ≤ D) (IHP : ∀ P : pP, tBel (zPhi P) scr 300) (ok : wOK (zPhi P) M T h) (hM : M + 0 ≤ 1000000) : TYr scr D P M T h 119 [.inl (.ref 0), .inl (.int x1)] := fun post hp => by
  have hq_0 := ok.2.1.1.1
  have l0 := ok.2.2
  refine tLow_of (IHP P) hD 119 ze_X4_left te_X4_left_0 rfl (show te_X4_left_0 ∈ [te_X4_left_0] from List.mem_cons_self) (by decide +kernel) T h _ _ ok.1 ok.2.1 (by show h.length + 0 ≤ 1000000; omega) ⟨⟨_, rfl, hq_0⟩, okA_If _, trivial⟩ (fun r T' h' m k f l tr => ?_)
  obtain ⟨w, rfl, hw, -⟩ := tr
  obtain ⟨x, rfl, -, -⟩ := tint_sp rfl hw
  have l1 : h'.length ≤ h.length + 0 := l
  exact hp x T' h' m ⟨k, f, by omega⟩
theorem ty_X5_left {scr : List zV} {D : Nat} {P : pP} {M : Nat} {T : List Nat} {h : zH} {x1 : Int32} (hD : 300 ≤ D) (IHP : ∀ P : pP, tBel (zPhi P) scr 300) (ok : wOK (zPhi P) M T h) (hM : M + 0 ≤ 1000000) : TYr scr D P M T h 195 [.inl (.ref 49), .inl (.int x1)] := fun post hp => by
  have hq_49 := ok.2.1.1.2.2.1
  have l0 := ok.2.2
  refine tLow_of (IHP P) hD 195 ze_X5_left te_X5_left_0 rfl (show te_X5_left_0 ∈ [te_X5_left_0] from List.mem_cons_self) (by decide +kernel) T h _ _ ok.1 ok.2.1 (by show h.length + 0 ≤ 1000000; omega) ⟨⟨_, rfl, hq_49⟩, okA_If _, trivial⟩ (fun r T' h' m k f l tr => ?_)
  obtain ⟨w, rfl, hw, -⟩ := tr
  obtain ⟨x, rfl, -, -⟩ := tint_sp rfl hw
  have l1 : h'.length ≤ h.length + 0 := l
  exact hp x T' h' m ⟨k, f, by omega⟩
theorem ty_X4_judge {scr : List zV} {D : Nat} {P : pP} {M : Nat} {T : List Nat} {h : zH} {x1 x2 : Int32} (hD : 300 ≤ D) (IHP : ∀ P : pP, tBel (zPhi P) scr 300) (ok : wOK (zPhi P) M T h) (hM : M + 0 ≤ 1000000) : TYr scr D P M T h 116 [.inl (.ref 0), .inl (.int x1), .inl (.int x2)] := fun post hp => by
  have hq_0 := ok.2.1.1.1
  have l0 := ok.2.2
  refine tLow_of (IHP P) hD 116 ze_X4_judge te_X4_judge_0 rfl (show te_X4_judge_0 ∈ [te_X4_judge_0] from List.mem_cons_self) (by decide +kernel) T h _ _ ok.1 ok.2.1 (by show h.length + 0 ≤ 1000000; omega) ⟨⟨_, rfl, hq_0⟩, okA_If _, okA_If _, trivial⟩ (fun r T' h' m k f l tr => ?_)
  obtain ⟨w, rfl, hw, -⟩ := tr
  obtain ⟨x, rfl, -, -⟩ := tint_sp rfl hw
  have l1 : h'.length ≤ h.length + 0 := l
  exact hp x T' h' m ⟨k, f, by omega⟩
theorem ty_X5_judge {scr : List zV} {D : Nat} {P : pP} {M : Nat} {T : List Nat} {h : zH} {x1 x2 : Int32} (hD : 300 ≤ D) (IHP : ∀ P : pP, tBel (zPhi P) scr 300) (ok : wOK (zPhi P) M T h) (hM : M + 30 ≤ 1000000) : TYr scr D P (M + 30) T h 194 [.inl (.ref 49), .inl (.int x1), .inl (.int x2)] := fun post hp => by
  have hq_49 := ok.2.1.1.2.2.1
  have l0 := ok.2.2
  refine tLow_of (IHP P) hD 194 ze_X5_judge te_X5_judge_0 rfl (show te_X5_judge_0 ∈ [te_X5_judge_0] from List.mem_cons_self) (by decide +kernel) T h _ _ ok.1 ok.2.1 (by show h.length + 30 ≤ 1000000; omega) ⟨⟨_, rfl, hq_49⟩, okA_If _, okA_If _, trivial⟩ (fun r T' h' m k f l tr => ?_)
  obtain ⟨w, rfl, hw, -⟩ := tr
  obtain ⟨x, rfl, -, -⟩ := tint_sp rfl hw
  have l1 : h'.length ≤ h.length + 30 := l
  exact hp x T' h' m ⟨k, f, by omega⟩
theorem ty_X4_won {scr : List zV} {D : Nat} {P : pP} {M : Nat} {T : List Nat} {h : zH} {x1 x2 : Int32} (hD : 300 ≤ D) (IHP : ∀ P : pP, tBel (zPhi P) scr 300) (ok : wOK (zPhi P) M T h) (hM : M + 0 ≤ 1000000) : TYr scr D P M T h 149 [.inl (.ref 0), .inl (.int x1), .inl (.int x2)] := fun post hp => by
  have hq_0 := ok.2.1.1.1
  have l0 := ok.2.2
  refine tLow_of (IHP P) hD 149 ze_X4_won te_X4_won_0 rfl (show te_X4_won_0 ∈ [te_X4_won_0] from List.mem_cons_self) (by decide +kernel) T h _ _ ok.1 ok.2.1 (by show h.length + 0 ≤ 1000000; omega) ⟨⟨_, rfl, hq_0⟩, okA_If _, okA_If _, trivial⟩ (fun r T' h' m k f l tr => ?_)
  obtain ⟨w, rfl, hw, -⟩ := tr
  obtain ⟨x, rfl, -, -⟩ := tint_sp rfl hw
  have l1 : h'.length ≤ h.length + 0 := l
  exact hp x T' h' m ⟨k, f, by omega⟩
theorem ty_X5_won {scr : List zV} {D : Nat} {P : pP} {M : Nat} {T : List Nat} {h : zH} {x1 x2 : Int32} (hD : 300 ≤ D) (IHP : ∀ P : pP, tBel (zPhi P) scr 300) (ok : wOK (zPhi P) M T h) (hM : M + 30 ≤ 1000000) : TYr scr D P (M + 30) T h 245 [.inl (.ref 49), .inl (.int x1), .inl (.int x2)] := fun post hp => by
  have hq_49 := ok.2.1.1.2.2.1
  have l0 := ok.2.2
  refine tLow_of (IHP P) hD 245 ze_X5_won te_X5_won_0 rfl (show te_X5_won_0 ∈ [te_X5_won_0] from List.mem_cons_self) (by decide +kernel) T h _ _ ok.1 ok.2.1 (by show h.length + 30 ≤ 1000000; omega) ⟨⟨_, rfl, hq_49⟩, okA_If _, okA_If _, trivial⟩ (fun r T' h' m k f l tr => ?_)
  obtain ⟨w, rfl, hw, -⟩ := tr
  obtain ⟨x, rfl, -, -⟩ := tint_sp rfl hw
  have l1 : h'.length ≤ h.length + 30 := l
  exact hp x T' h' m ⟨k, f, by omega⟩
theorem ty_X4_booked {scr : List zV} {D : Nat} {P : pP} {M : Nat} {T : List Nat} {h : zH} {x1 x2 x3 : Int32} (hD : 300 ≤ D) (IHP : ∀ P : pP, tBel (zPhi P) scr 300) (ok : wOK (zPhi P) M T h) (hM : M + 0 ≤ 1000000) : TYr scr D P M T h 95 [.inl (.ref 0), .inl (.int x1), .inl (.int x2), .inl (.int x3)] := fun post hp => by
  have hq_0 := ok.2.1.1.1
  have l0 := ok.2.2
  refine tLow_of (IHP P) hD 95 ze_X4_booked te_X4_booked_0 rfl (show te_X4_booked_0 ∈ [te_X4_booked_0] from List.mem_cons_self) (by decide +kernel) T h _ _ ok.1 ok.2.1 (by show h.length + 0 ≤ 1000000; omega) ⟨⟨_, rfl, hq_0⟩, okA_If _, okA_If _, okA_If _, trivial⟩ (fun r T' h' m k f l tr => ?_)
  obtain ⟨w, rfl, hw, -⟩ := tr
  obtain ⟨x, rfl, -, -⟩ := tint_sp rfl hw
  have l1 : h'.length ≤ h.length + 0 := l
  exact hp x T' h' m ⟨k, f, by omega⟩
theorem ty_X5_booked {scr : List zV} {D : Nat} {P : pP} {M : Nat} {T : List Nat} {h : zH} {x1 x2 x3 : Int32} (hD : 300 ≤ D) (IHP : ∀ P : pP, tBel (zPhi P) scr 300) (ok : wOK (zPhi P) M T h) (hM : M + 30 ≤ 1000000) : TYr scr D P (M + 30) T h 162 [.inl (.ref 49), .inl (.int x1), .inl (.int x2), .inl (.int x3)] := fun post hp => by
  have hq_49 := ok.2.1.1.2.2.1
  have l0 := ok.2.2
  refine tLow_of (IHP P) hD 162 ze_X5_booked te_X5_booked_0 rfl (show te_X5_booked_0 ∈ [te_X5_booked_0] from List.mem_cons_self) (by decide +kernel) T h _ _ ok.1 ok.2.1 (by show h.length + 30 ≤ 1000000; omega) ⟨⟨_, rfl, hq_49⟩, okA_If _, okA_If _, okA_If _, trivial⟩ (fun r T' h' m k f l tr => ?_)
  obtain ⟨w, rfl, hw, -⟩ := tr
  obtain ⟨x, rfl, -, -⟩ := tint_sp rfl hw
  have l1 : h'.length ≤ h.length + 30 := l
  exact hp x T' h' m ⟨k, f, by omega⟩
theorem ty_X4_chain {scr : List zV} {D : Nat} {P : pP} {M : Nat} {T : List Nat} {h : zH} {x1 : Int32} (hD : 300 ≤ D) (IHP : ∀ P : pP, tBel (zPhi P) scr 300) (ok : wOK (zPhi P) M T h) (hM : M + 0 ≤ 1000000) : TYr scr D P M T h 98 [.inl (.ref 0), .inl (.int x1)] := fun post hp => by
  have hq_0 := ok.2.1.1.1
  have l0 := ok.2.2
  refine tLow_of (IHP P) hD 98 ze_X4_chain te_X4_chain_0 rfl (show te_X4_chain_0 ∈ [te_X4_chain_0] from List.mem_cons_self) (by decide +kernel) T h _ _ ok.1 ok.2.1 (by show h.length + 0 ≤ 1000000; omega) ⟨⟨_, rfl, hq_0⟩, okA_If _, trivial⟩ (fun r T' h' m k f l tr => ?_)
  obtain ⟨w, rfl, hw, -⟩ := tr
  obtain ⟨x, rfl, -, -⟩ := tint_sp rfl hw
  have l1 : h'.length ≤ h.length + 0 := l
  exact hp x T' h' m ⟨k, f, by omega⟩
theorem ty_X5_chain {scr : List zV} {D : Nat} {P : pP} {M : Nat} {T : List Nat} {h : zH} {x1 : Int32} (hD : 300 ≤ D) (IHP : ∀ P : pP, tBel (zPhi P) scr 300) (ok : wOK (zPhi P) M T h) (hM : M + 13 ≤ 1000000) : TYr scr D P (M + 13) T h 167 [.inl (.ref 49), .inl (.int x1)] := fun post hp => by
  have hq_49 := ok.2.1.1.2.2.1
  have l0 := ok.2.2
  refine tLow_of (IHP P) hD 167 ze_X5_chain te_X5_chain_0 rfl (show te_X5_chain_0 ∈ [te_X5_chain_0] from List.mem_cons_self) (by decide +kernel) T h _ _ ok.1 ok.2.1 (by show h.length + 13 ≤ 1000000; omega) ⟨⟨_, rfl, hq_49⟩, okA_If _, trivial⟩ (fun r T' h' m k f l tr => ?_)
  obtain ⟨w, rfl, hw, -⟩ := tr
  obtain ⟨x, rfl, -, -⟩ := tint_sp rfl hw
  have l1 : h'.length ≤ h.length + 13 := l
  exact hp x T' h' m ⟨k, f, by omega⟩
theorem ty_X4_dearest {scr : List zV} {D : Nat} {P : pP} {M : Nat} {T : List Nat} {h : zH} {x1 : Int32} (hD : 300 ≤ D) (IHP : ∀ P : pP, tBel (zPhi P) scr 300) (ok : wOK (zPhi P) M T h) (hM : M + 0 ≤ 1000000) : TYr scr D P M T h 101 [.inl (.ref 0), .inl (.int x1)] := fun post hp => by
  have hq_0 := ok.2.1.1.1
  have l0 := ok.2.2
  refine tLow_of (IHP P) hD 101 ze_X4_dearest te_X4_dearest_0 rfl (show te_X4_dearest_0 ∈ [te_X4_dearest_0] from List.mem_cons_self) (by decide +kernel) T h _ _ ok.1 ok.2.1 (by show h.length + 0 ≤ 1000000; omega) ⟨⟨_, rfl, hq_0⟩, okA_If _, trivial⟩ (fun r T' h' m k f l tr => ?_)
  obtain ⟨w, rfl, hw, -⟩ := tr
  obtain ⟨x, rfl, -, -⟩ := tint_sp rfl hw
  have l1 : h'.length ≤ h.length + 0 := l
  exact hp x T' h' m ⟨k, f, by omega⟩
theorem ty_X5_dearest {scr : List zV} {D : Nat} {P : pP} {M : Nat} {T : List Nat} {h : zH} {x1 : Int32} (hD : 300 ≤ D) (IHP : ∀ P : pP, tBel (zPhi P) scr 300) (ok : wOK (zPhi P) M T h) (hM : M + 0 ≤ 1000000) : TYr scr D P M T h 171 [.inl (.ref 49), .inl (.int x1)] := fun post hp => by
  have hq_49 := ok.2.1.1.2.2.1
  have l0 := ok.2.2
  refine tLow_of (IHP P) hD 171 ze_X5_dearest te_X5_dearest_0 rfl (show te_X5_dearest_0 ∈ [te_X5_dearest_0] from List.mem_cons_self) (by decide +kernel) T h _ _ ok.1 ok.2.1 (by show h.length + 0 ≤ 1000000; omega) ⟨⟨_, rfl, hq_49⟩, okA_If _, trivial⟩ (fun r T' h' m k f l tr => ?_)
  obtain ⟨w, rfl, hw, -⟩ := tr
  obtain ⟨x, rfl, -, -⟩ := tint_sp rfl hw
  have l1 : h'.length ≤ h.length + 0 := l
  exact hp x T' h' m ⟨k, f, by omega⟩
theorem ty_X4_fondest {scr : List zV} {D : Nat} {P : pP} {M : Nat} {T : List Nat} {h : zH} {x1 : Int32} (hD : 300 ≤ D) (IHP : ∀ P : pP, tBel (zPhi P) scr 300) (ok : wOK (zPhi P) M T h) (hM : M + 0 ≤ 1000000) : TYr scr D P M T h 109 [.inl (.ref 0), .inl (.int x1)] := fun post hp => by
  have hq_0 := ok.2.1.1.1
  have l0 := ok.2.2
  refine tLow_of (IHP P) hD 109 ze_X4_fondest te_X4_fondest_0 rfl (show te_X4_fondest_0 ∈ [te_X4_fondest_0] from List.mem_cons_self) (by decide +kernel) T h _ _ ok.1 ok.2.1 (by show h.length + 0 ≤ 1000000; omega) ⟨⟨_, rfl, hq_0⟩, okA_If _, trivial⟩ (fun r T' h' m k f l tr => ?_)
  obtain ⟨w, rfl, hw, -⟩ := tr
  obtain ⟨x, rfl, -, -⟩ := tint_sp rfl hw
  have l1 : h'.length ≤ h.length + 0 := l
  exact hp x T' h' m ⟨k, f, by omega⟩
theorem ty_X5_fondest {scr : List zV} {D : Nat} {P : pP} {M : Nat} {T : List Nat} {h : zH} {x1 : Int32} (hD : 300 ≤ D) (IHP : ∀ P : pP, tBel (zPhi P) scr 300) (ok : wOK (zPhi P) M T h) (hM : M + 0 ≤ 1000000) : TYr scr D P M T h 181 [.inl (.ref 49), .inl (.int x1)] := fun post hp => by
  have hq_49 := ok.2.1.1.2.2.1
  have l0 := ok.2.2
  refine tLow_of (IHP P) hD 181 ze_X5_fondest te_X5_fondest_0 rfl (show te_X5_fondest_0 ∈ [te_X5_fondest_0] from List.mem_cons_self) (by decide +kernel) T h _ _ ok.1 ok.2.1 (by show h.length + 0 ≤ 1000000; omega) ⟨⟨_, rfl, hq_49⟩, okA_If _, trivial⟩ (fun r T' h' m k f l tr => ?_)
  obtain ⟨w, rfl, hw, -⟩ := tr
  obtain ⟨x, rfl, -, -⟩ := tint_sp rfl hw
  have l1 : h'.length ≤ h.length + 0 := l
  exact hp x T' h' m ⟨k, f, by omega⟩
theorem ty_X4_envy {scr : List zV} {D : Nat} {P : pP} {M : Nat} {T : List Nat} {h : zH} (hD : 300 ≤ D) (IHP : ∀ P : pP, tBel (zPhi P) scr 300) (ok : wOK (zPhi P) M T h) (hM : M + 0 ≤ 1000000) : TYr scr D P M T h 104 [.inl (.ref 0)] := fun post hp => by
  have hq_0 := ok.2.1.1.1
  have l0 := ok.2.2
  refine tLow_of (IHP P) hD 104 ze_X4_envy te_X4_envy_0 rfl (show te_X4_envy_0 ∈ [te_X4_envy_0] from List.mem_cons_self) (by decide +kernel) T h _ _ ok.1 ok.2.1 (by show h.length + 0 ≤ 1000000; omega) ⟨⟨_, rfl, hq_0⟩, trivial⟩ (fun r T' h' m k f l tr => ?_)
  obtain ⟨w, rfl, hw, -⟩ := tr
  obtain ⟨x, rfl, -, -⟩ := tint_sp rfl hw
  have l1 : h'.length ≤ h.length + 0 := l
  exact hp x T' h' m ⟨k, f, by omega⟩
theorem ty_X5_envy {scr : List zV} {D : Nat} {P : pP} {M : Nat} {T : List Nat} {h : zH} (hD : 300 ≤ D) (IHP : ∀ P : pP, tBel (zPhi P) scr 300) (ok : wOK (zPhi P) M T h) (hM : M + 0 ≤ 1000000) : TYr scr D P M T h 176 [.inl (.ref 49)] := fun post hp => by
  have hq_49 := ok.2.1.1.2.2.1
  have l0 := ok.2.2
  refine tLow_of (IHP P) hD 176 ze_X5_envy te_X5_envy_0 rfl (show te_X5_envy_0 ∈ [te_X5_envy_0] from List.mem_cons_self) (by decide +kernel) T h _ _ ok.1 ok.2.1 (by show h.length + 0 ≤ 1000000; omega) ⟨⟨_, rfl, hq_49⟩, trivial⟩ (fun r T' h' m k f l tr => ?_)
  obtain ⟨w, rfl, hw, -⟩ := tr
  obtain ⟨x, rfl, -, -⟩ := tint_sp rfl hw
  have l1 : h'.length ≤ h.length + 0 := l
  exact hp x T' h' m ⟨k, f, by omega⟩
theorem ty_X4_poorest {scr : List zV} {D : Nat} {P : pP} {M : Nat} {T : List Nat} {h : zH} (hD : 300 ≤ D) (IHP : ∀ P : pP, tBel (zPhi P) scr 300) (ok : wOK (zPhi P) M T h) (hM : M + 0 ≤ 1000000) : TYr scr D P M T h 126 [.inl (.ref 0)] := fun post hp => by
  have hq_0 := ok.2.1.1.1
  have l0 := ok.2.2
  refine tLow_of (IHP P) hD 126 ze_X4_poorest te_X4_poorest_0 rfl (show te_X4_poorest_0 ∈ [te_X4_poorest_0] from List.mem_cons_self) (by decide +kernel) T h _ _ ok.1 ok.2.1 (by show h.length + 0 ≤ 1000000; omega) ⟨⟨_, rfl, hq_0⟩, trivial⟩ (fun r T' h' m k f l tr => ?_)
  obtain ⟨w, rfl, hw, -⟩ := tr
  obtain ⟨x, rfl, -, -⟩ := tint_sp rfl hw
  have l1 : h'.length ≤ h.length + 0 := l
  exact hp x T' h' m ⟨k, f, by omega⟩
theorem ty_X5_poorest {scr : List zV} {D : Nat} {P : pP} {M : Nat} {T : List Nat} {h : zH} (hD : 300 ≤ D) (IHP : ∀ P : pP, tBel (zPhi P) scr 300) (ok : wOK (zPhi P) M T h) (hM : M + 0 ≤ 1000000) : TYr scr D P M T h 211 [.inl (.ref 49)] := fun post hp => by
  have hq_49 := ok.2.1.1.2.2.1
  have l0 := ok.2.2
  refine tLow_of (IHP P) hD 211 ze_X5_poorest te_X5_poorest_0 rfl (show te_X5_poorest_0 ∈ [te_X5_poorest_0] from List.mem_cons_self) (by decide +kernel) T h _ _ ok.1 ok.2.1 (by show h.length + 0 ≤ 1000000; omega) ⟨⟨_, rfl, hq_49⟩, trivial⟩ (fun r T' h' m k f l tr => ?_)
  obtain ⟨w, rfl, hw, -⟩ := tr
  obtain ⟨x, rfl, -, -⟩ := tint_sp rfl hw
  have l1 : h'.length ≤ h.length + 0 := l
  exact hp x T' h' m ⟨k, f, by omega⟩
theorem ty_X4_oldest {scr : List zV} {D : Nat} {P : pP} {M : Nat} {T : List Nat} {h : zH} (hD : 300 ≤ D) (IHP : ∀ P : pP, tBel (zPhi P) scr 300) (ok : wOK (zPhi P) M T h) (hM : M + 0 ≤ 1000000) : TYr scr D P M T h 123 [.inl (.ref 0)] := fun post hp => by
  have hq_0 := ok.2.1.1.1
  have l0 := ok.2.2
  refine tLow_of (IHP P) hD 123 ze_X4_oldest te_X4_oldest_0 rfl (show te_X4_oldest_0 ∈ [te_X4_oldest_0] from List.mem_cons_self) (by decide +kernel) T h _ _ ok.1 ok.2.1 (by show h.length + 0 ≤ 1000000; omega) ⟨⟨_, rfl, hq_0⟩, trivial⟩ (fun r T' h' m k f l tr => ?_)
  obtain ⟨w, rfl, hw, -⟩ := tr
  obtain ⟨x, rfl, -, -⟩ := tint_sp rfl hw
  have l1 : h'.length ≤ h.length + 0 := l
  exact hp x T' h' m ⟨k, f, by omega⟩
theorem ty_X5_oldest {scr : List zV} {D : Nat} {P : pP} {M : Nat} {T : List Nat} {h : zH} (hD : 300 ≤ D) (IHP : ∀ P : pP, tBel (zPhi P) scr 300) (ok : wOK (zPhi P) M T h) (hM : M + 0 ≤ 1000000) : TYr scr D P M T h 204 [.inl (.ref 49)] := fun post hp => by
  have hq_49 := ok.2.1.1.2.2.1
  have l0 := ok.2.2
  refine tLow_of (IHP P) hD 204 ze_X5_oldest te_X5_oldest_0 rfl (show te_X5_oldest_0 ∈ [te_X5_oldest_0] from List.mem_cons_self) (by decide +kernel) T h _ _ ok.1 ok.2.1 (by show h.length + 0 ≤ 1000000; omega) ⟨⟨_, rfl, hq_49⟩, trivial⟩ (fun r T' h' m k f l tr => ?_)
  obtain ⟨w, rfl, hw, -⟩ := tr
  obtain ⟨x, rfl, -, -⟩ := tint_sp rfl hw
  have l1 : h'.length ≤ h.length + 0 := l
  exact hp x T' h' m ⟨k, f, by omega⟩
theorem ty_X4_go {scr : List zV} {D : Nat} {P : pP} {M : Nat} {T : List Nat} {h : zH} {x1 : Int32} (hD : 300 ≤ D) (IHP : ∀ P : pP, tBel (zPhi P) scr 300) (ok : wOK (zPhi P) M T h) (hM : M + 0 ≤ 1000000) : TYr scr D P M T h 111 [.inl (.ref 0), .inl (.int x1)] := fun post hp => by
  have hq_0 := ok.2.1.1.1
  have l0 := ok.2.2
  refine tLow_of (IHP P) hD 111 ze_X4_go te_X4_go_0 rfl (show te_X4_go_0 ∈ [te_X4_go_0] from List.mem_cons_self) (by decide +kernel) T h _ _ ok.1 ok.2.1 (by show h.length + 0 ≤ 1000000; omega) ⟨⟨_, rfl, hq_0⟩, okA_If _, trivial⟩ (fun r T' h' m k f l tr => ?_)
  obtain ⟨w, rfl, hw, -⟩ := tr
  obtain ⟨x, rfl, -, -⟩ := tint_sp rfl hw
  have l1 : h'.length ≤ h.length + 0 := l
  exact hp x T' h' m ⟨k, f, by omega⟩
theorem ty_X5_go {scr : List zV} {D : Nat} {P : pP} {M : Nat} {T : List Nat} {h : zH} {x1 : Int32} (hD : 300 ≤ D) (IHP : ∀ P : pP, tBel (zPhi P) scr 300) (ok : wOK (zPhi P) M T h) (hM : M + 0 ≤ 1000000) : TYr scr D P M T h 186 [.inl (.ref 49), .inl (.int x1)] := fun post hp => by
  have hq_49 := ok.2.1.1.2.2.1
  have l0 := ok.2.2
  refine tLow_of (IHP P) hD 186 ze_X5_go te_X5_go_0 rfl (show te_X5_go_0 ∈ [te_X5_go_0] from List.mem_cons_self) (by decide +kernel) T h _ _ ok.1 ok.2.1 (by show h.length + 0 ≤ 1000000; omega) ⟨⟨_, rfl, hq_49⟩, okA_If _, trivial⟩ (fun r T' h' m k f l tr => ?_)
  obtain ⟨w, rfl, hw, -⟩ := tr
  obtain ⟨x, rfl, -, -⟩ := tint_sp rfl hw
  have l1 : h'.length ≤ h.length + 0 := l
  exact hp x T' h' m ⟨k, f, by omega⟩
theorem ty_X4_five {scr : List zV} {D : Nat} {P : pP} {M : Nat} {T : List Nat} {h : zH} {x1 : Int32} (hD : 300 ≤ D) (IHP : ∀ P : pP, tBel (zPhi P) scr 300) (ok : wOK (zPhi P) M T h) (hM : M + 0 ≤ 1000000) : TYr scr D P M T h 108 [.inl (.ref 0), .inl (.int x1)] := fun post hp => by
  have hq_0 := ok.2.1.1.1
  have l0 := ok.2.2
  refine tLow_of (IHP P) hD 108 ze_X4_five te_X4_five_0 rfl (show te_X4_five_0 ∈ [te_X4_five_0] from List.mem_cons_self) (by decide +kernel) T h _ _ ok.1 ok.2.1 (by show h.length + 0 ≤ 1000000; omega) ⟨⟨_, rfl, hq_0⟩, okA_If _, trivial⟩ (fun r T' h' m k f l tr => ?_)
  obtain ⟨w, rfl, hw, -⟩ := tr
  obtain ⟨x, rfl, -, -⟩ := tint_sp rfl hw
  have l1 : h'.length ≤ h.length + 0 := l
  exact hp x T' h' m ⟨k, f, by omega⟩
theorem ty_X5_five {scr : List zV} {D : Nat} {P : pP} {M : Nat} {T : List Nat} {h : zH} {x1 : Int32} (hD : 300 ≤ D) (IHP : ∀ P : pP, tBel (zPhi P) scr 300) (ok : wOK (zPhi P) M T h) (hM : M + 0 ≤ 1000000) : TYr scr D P M T h 180 [.inl (.ref 49), .inl (.int x1)] := fun post hp => by
  have hq_49 := ok.2.1.1.2.2.1
  have l0 := ok.2.2
  refine tLow_of (IHP P) hD 180 ze_X5_five te_X5_five_0 rfl (show te_X5_five_0 ∈ [te_X5_five_0] from List.mem_cons_self) (by decide +kernel) T h _ _ ok.1 ok.2.1 (by show h.length + 0 ≤ 1000000; omega) ⟨⟨_, rfl, hq_49⟩, okA_If _, trivial⟩ (fun r T' h' m k f l tr => ?_)
  obtain ⟨w, rfl, hw, -⟩ := tr
  obtain ⟨x, rfl, -, -⟩ := tint_sp rfl hw
  have l1 : h'.length ≤ h.length + 0 := l
  exact hp x T' h' m ⟨k, f, by omega⟩
theorem ty_X4_plays {scr : List zV} {D : Nat} {P : pP} {M : Nat} {T : List Nat} {h : zH} {x1 : Int32} (hD : 300 ≤ D) (IHP : ∀ P : pP, tBel (zPhi P) scr 300) (ok : wOK (zPhi P) M T h) (hM : M + 0 ≤ 1000000) : TYr scr D P M T h 125 [.inl (.ref 0), .inl (.int x1)] := fun post hp => by
  have hq_0 := ok.2.1.1.1
  have l0 := ok.2.2
  refine tLow_of (IHP P) hD 125 ze_X4_plays te_X4_plays_0 rfl (show te_X4_plays_0 ∈ [te_X4_plays_0] from List.mem_cons_self) (by decide +kernel) T h _ _ ok.1 ok.2.1 (by show h.length + 0 ≤ 1000000; omega) ⟨⟨_, rfl, hq_0⟩, okA_If _, trivial⟩ (fun r T' h' m k f l tr => ?_)
  obtain ⟨w, rfl, hw, -⟩ := tr
  obtain ⟨x, rfl, -, -⟩ := tint_sp rfl hw
  have l1 : h'.length ≤ h.length + 0 := l
  exact hp x T' h' m ⟨k, f, by omega⟩
theorem ty_X4_fete {scr : List zV} {D : Nat} {P : pP} {M : Nat} {T : List Nat} {h : zH} {x1 : Int32} (hD : 300 ≤ D) (IHP : ∀ P : pP, tBel (zPhi P) scr 300) (ok : wOK (zPhi P) M T h) (hM : M + 0 ≤ 1000000) : TYr scr D P M T h 106 [.inl (.ref 0), .inl (.int x1)] := fun post hp => by
  have hq_0 := ok.2.1.1.1
  have l0 := ok.2.2
  refine tLow_of (IHP P) hD 106 ze_X4_fete te_X4_fete_0 rfl (show te_X4_fete_0 ∈ [te_X4_fete_0] from List.mem_cons_self) (by decide +kernel) T h _ _ ok.1 ok.2.1 (by show h.length + 0 ≤ 1000000; omega) ⟨⟨_, rfl, hq_0⟩, okA_If _, trivial⟩ (fun r T' h' m k f l tr => ?_)
  obtain ⟨w, rfl, hw, -⟩ := tr
  obtain ⟨x, rfl, -, -⟩ := tint_sp rfl hw
  have l1 : h'.length ≤ h.length + 0 := l
  exact hp x T' h' m ⟨k, f, by omega⟩
theorem ty_X5_fete {scr : List zV} {D : Nat} {P : pP} {M : Nat} {T : List Nat} {h : zH} {x1 : Int32} (hD : 300 ≤ D) (IHP : ∀ P : pP, tBel (zPhi P) scr 300) (ok : wOK (zPhi P) M T h) (hM : M + 0 ≤ 1000000) : TYr scr D P M T h 178 [.inl (.ref 49), .inl (.int x1)] := fun post hp => by
  have hq_49 := ok.2.1.1.2.2.1
  have l0 := ok.2.2
  refine tLow_of (IHP P) hD 178 ze_X5_fete te_X5_fete_0 rfl (show te_X5_fete_0 ∈ [te_X5_fete_0] from List.mem_cons_self) (by decide +kernel) T h _ _ ok.1 ok.2.1 (by show h.length + 0 ≤ 1000000; omega) ⟨⟨_, rfl, hq_49⟩, okA_If _, trivial⟩ (fun r T' h' m k f l tr => ?_)
  obtain ⟨w, rfl, hw, -⟩ := tr
  obtain ⟨x, rfl, -, -⟩ := tint_sp rfl hw
  have l1 : h'.length ≤ h.length + 0 := l
  exact hp x T' h' m ⟨k, f, by omega⟩
theorem ty_X4_seed {scr : List zV} {D : Nat} {P : pP} {M : Nat} {T : List Nat} {h : zH} {x1 : Int32} (hD : 300 ≤ D) (IHP : ∀ P : pP, tBel (zPhi P) scr 300) (ok : wOK (zPhi P) M T h) (hM : M + 0 ≤ 1000000) : TYr scr D P M T h 133 [.inl (.ref 0), .inl (.int x1)] := fun post hp => by
  have hq_0 := ok.2.1.1.1
  have l0 := ok.2.2
  refine tLow_of (IHP P) hD 133 ze_X4_seed te_X4_seed_0 rfl (show te_X4_seed_0 ∈ [te_X4_seed_0] from List.mem_cons_self) (by decide +kernel) T h _ _ ok.1 ok.2.1 (by show h.length + 0 ≤ 1000000; omega) ⟨⟨_, rfl, hq_0⟩, okA_If _, trivial⟩ (fun r T' h' m k f l tr => ?_)
  obtain ⟨w, rfl, hw, -⟩ := tr
  obtain ⟨x, rfl, -, -⟩ := tint_sp rfl hw
  have l1 : h'.length ≤ h.length + 0 := l
  exact hp x T' h' m ⟨k, f, by omega⟩
theorem ty_X5_seed {scr : List zV} {D : Nat} {P : pP} {M : Nat} {T : List Nat} {h : zH} {x1 : Int32} (hD : 300 ≤ D) (IHP : ∀ P : pP, tBel (zPhi P) scr 300) (ok : wOK (zPhi P) M T h) (hM : M + 0 ≤ 1000000) : TYr scr D P M T h 220 [.inl (.ref 49), .inl (.int x1)] := fun post hp => by
  have hq_49 := ok.2.1.1.2.2.1
  have l0 := ok.2.2
  refine tLow_of (IHP P) hD 220 ze_X5_seed te_X5_seed_0 rfl (show te_X5_seed_0 ∈ [te_X5_seed_0] from List.mem_cons_self) (by decide +kernel) T h _ _ ok.1 ok.2.1 (by show h.length + 0 ≤ 1000000; omega) ⟨⟨_, rfl, hq_49⟩, okA_If _, trivial⟩ (fun r T' h' m k f l tr => ?_)
  obtain ⟨w, rfl, hw, -⟩ := tr
  obtain ⟨x, rfl, -, -⟩ := tint_sp rfl hw
  have l1 : h'.length ≤ h.length + 0 := l
  exact hp x T' h' m ⟨k, f, by omega⟩
theorem ty_X4_image {scr : List zV} {D : Nat} {P : pP} {M : Nat} {T : List Nat} {h : zH} (hD : 300 ≤ D) (IHP : ∀ P : pP, tBel (zPhi P) scr 300) (ok : wOK (zPhi P) M T h) (hM : M + 0 ≤ 1000000) : TYr scr D P M T h 114 [.inl (.ref 0)] := fun post hp => by
  have hq_0 := ok.2.1.1.1
  have l0 := ok.2.2
  refine tLow_of (IHP P) hD 114 ze_X4_image te_X4_image_0 rfl (show te_X4_image_0 ∈ [te_X4_image_0] from List.mem_cons_self) (by decide +kernel) T h _ _ ok.1 ok.2.1 (by show h.length + 0 ≤ 1000000; omega) ⟨⟨_, rfl, hq_0⟩, trivial⟩ (fun r T' h' m k f l tr => ?_)
  obtain ⟨w, rfl, hw, -⟩ := tr
  obtain ⟨x, rfl, -, -⟩ := tint_sp rfl hw
  have l1 : h'.length ≤ h.length + 0 := l
  exact hp x T' h' m ⟨k, f, by omega⟩
theorem ty_X5_image {scr : List zV} {D : Nat} {P : pP} {M : Nat} {T : List Nat} {h : zH} (hD : 300 ≤ D) (IHP : ∀ P : pP, tBel (zPhi P) scr 300) (ok : wOK (zPhi P) M T h) (hM : M + 30 ≤ 1000000) : TYr scr D P (M + 30) T h 190 [.inl (.ref 49)] := fun post hp => by
  have hq_49 := ok.2.1.1.2.2.1
  have l0 := ok.2.2
  refine tLow_of (IHP P) hD 190 ze_X5_image te_X5_image_0 rfl (show te_X5_image_0 ∈ [te_X5_image_0] from List.mem_cons_self) (by decide +kernel) T h _ _ ok.1 ok.2.1 (by show h.length + 30 ≤ 1000000; omega) ⟨⟨_, rfl, hq_49⟩, trivial⟩ (fun r T' h' m k f l tr => ?_)
  obtain ⟨w, rfl, hw, -⟩ := tr
  obtain ⟨x, rfl, -, -⟩ := tint_sp rfl hw
  have l1 : h'.length ≤ h.length + 30 := l
  exact hp x T' h' m ⟨k, f, by omega⟩
theorem ty_X4_back {scr : List zV} {D : Nat} {P : pP} {M : Nat} {T : List Nat} {h : zH} (hD : 300 ≤ D) (IHP : ∀ P : pP, tBel (zPhi P) scr 300) (ok : wOK (zPhi P) M T h) (hM : M + 0 ≤ 1000000) : TYr scr D P M T h 93 [.inl (.ref 0)] := fun post hp => by
  have hq_0 := ok.2.1.1.1
  have l0 := ok.2.2
  refine tLow_of (IHP P) hD 93 ze_X4_back te_X4_back_0 rfl (show te_X4_back_0 ∈ [te_X4_back_0] from List.mem_cons_self) (by decide +kernel) T h _ _ ok.1 ok.2.1 (by show h.length + 0 ≤ 1000000; omega) ⟨⟨_, rfl, hq_0⟩, trivial⟩ (fun r T' h' m k f l tr => ?_)
  obtain ⟨w, rfl, hw, -⟩ := tr
  obtain ⟨x, rfl, -, -⟩ := tint_sp rfl hw
  have l1 : h'.length ≤ h.length + 0 := l
  exact hp x T' h' m ⟨k, f, by omega⟩
theorem ty_X5_back {scr : List zV} {D : Nat} {P : pP} {M : Nat} {T : List Nat} {h : zH} (hD : 300 ≤ D) (IHP : ∀ P : pP, tBel (zPhi P) scr 300) (ok : wOK (zPhi P) M T h) (hM : M + 0 ≤ 1000000) : TYr scr D P M T h 156 [.inl (.ref 49)] := fun post hp => by
  have hq_49 := ok.2.1.1.2.2.1
  have l0 := ok.2.2
  refine tLow_of (IHP P) hD 156 ze_X5_back te_X5_back_0 rfl (show te_X5_back_0 ∈ [te_X5_back_0] from List.mem_cons_self) (by decide +kernel) T h _ _ ok.1 ok.2.1 (by show h.length + 0 ≤ 1000000; omega) ⟨⟨_, rfl, hq_49⟩, trivial⟩ (fun r T' h' m k f l tr => ?_)
  obtain ⟨w, rfl, hw, -⟩ := tr
  obtain ⟨x, rfl, -, -⟩ := tint_sp rfl hw
  have l1 : h'.length ≤ h.length + 0 := l
  exact hp x T' h' m ⟨k, f, by omega⟩
theorem ty_X4_status {scr : List zV} {D : Nat} {P : pP} {M : Nat} {T : List Nat} {h : zH} {x1 : Int32} (hD : 300 ≤ D) (IHP : ∀ P : pP, tBel (zPhi P) scr 300) (ok : wOK (zPhi P) M T h) (hM : M + 0 ≤ 1000000) : TYr scr D P M T h 139 [.inl (.ref 0), .inl (.int x1)] := fun post hp => by
  have hq_0 := ok.2.1.1.1
  have l0 := ok.2.2
  refine tLow_of (IHP P) hD 139 ze_X4_status te_X4_status_0 rfl (show te_X4_status_0 ∈ [te_X4_status_0] from List.mem_cons_self) (by decide +kernel) T h _ _ ok.1 ok.2.1 (by show h.length + 0 ≤ 1000000; omega) ⟨⟨_, rfl, hq_0⟩, okA_If _, trivial⟩ (fun r T' h' m k f l tr => ?_)
  obtain ⟨w, rfl, hw, -⟩ := tr
  obtain ⟨x, rfl, -, -⟩ := tint_sp rfl hw
  have l1 : h'.length ≤ h.length + 0 := l
  exact hp x T' h' m ⟨k, f, by omega⟩
theorem ty_X5_status {scr : List zV} {D : Nat} {P : pP} {M : Nat} {T : List Nat} {h : zH} {x1 : Int32} (hD : 300 ≤ D) (IHP : ∀ P : pP, tBel (zPhi P) scr 300) (ok : wOK (zPhi P) M T h) (hM : M + 0 ≤ 1000000) : TYr scr D P M T h 228 [.inl (.ref 49), .inl (.int x1)] := fun post hp => by
  have hq_49 := ok.2.1.1.2.2.1
  have l0 := ok.2.2
  refine tLow_of (IHP P) hD 228 ze_X5_status te_X5_status_0 rfl (show te_X5_status_0 ∈ [te_X5_status_0] from List.mem_cons_self) (by decide +kernel) T h _ _ ok.1 ok.2.1 (by show h.length + 0 ≤ 1000000; omega) ⟨⟨_, rfl, hq_49⟩, okA_If _, trivial⟩ (fun r T' h' m k f l tr => ?_)
  obtain ⟨w, rfl, hw, -⟩ := tr
  obtain ⟨x, rfl, -, -⟩ := tint_sp rfl hw
  have l1 : h'.length ≤ h.length + 0 := l
  exact hp x T' h' m ⟨k, f, by omega⟩
theorem ty_X4_wipe {scr : List zV} {D : Nat} {P : pP} {M : Nat} {T : List Nat} {h : zH} (hD : 300 ≤ D) (ok : wOK (zPhi P) M T h) : TYr scr D (0, P.2) M T h 148 [.inl (.ref 0)] := fun post hp => by
  obtain ⟨D, rfl⟩ : ∃ D', D = D' + 1 := ⟨D - 1, by omega⟩
  exact c4_wipe ok ok.2.1.1.1 (fun r h' _ ok' => hp r T h' (tExt_rf T) ok')
theorem ty_X5_wipe {scr : List zV} {D : Nat} {n m : Int} {r : Option Int} {v : Bool} {M : Nat} {T : List Nat} {h : zH} (hD : 300 ≤ D) (ok : wOK (zPhi (n, m, r, v)) M T h) : TYr scr D (n, 0, none, v) M T h 244 [.inl (.ref 49)] := fun post hp => by
  obtain ⟨D, rfl⟩ : ∃ D', D = D' + 1 := ⟨D - 1, by omega⟩
  exact c5_wipe ok (fun y h' _ ok' => hp y T h' (tExt_rf T) ok')
theorem ty_X4_feed {scr : List zV} {D : Nat} {P : pP} {M : Nat} {T : List Nat} {h : zH} {x1 : Int32} (hD : 300 ≤ D) (IHP : ∀ P : pP, tBel (zPhi P) scr 300) (ok : wOK (zPhi P) M T h) : TYr scr D (pFeed x1.toInt P.1, P.2) M T h 105 [.inl (.ref 0), .inl (.int x1)] := fun post hp => by
  obtain ⟨D, rfl⟩ : ∃ D', D = D' + 2 := ⟨D - 2, by omega⟩
  exact c4_feed (fun P => tBel_le (IHP P) (by decide)) (by omega) ok ok.2.1.1.1 (fun r T' h' m ok' => hp r T' h' m ok')
theorem ty_X5_feed {scr : List zV} {D : Nat} {n m : Int} {r : Option Int} {v : Bool} {M : Nat} {T : List Nat} {h : zH} {x1 : Int32} (hD : 300 ≤ D) (IHP : ∀ P : pP, tBel (zPhi P) scr 300) (ok : wOK (zPhi (n, m, r, v)) M T h) : TYr scr D (n, pFeed x1.toInt m, none, v) M T h 177 [.inl (.ref 49), .inl (.int x1)] := fun post hp => by
  obtain ⟨D, rfl⟩ : ∃ D', D = D' + 2 := ⟨D - 2, by omega⟩
  exact c5_feed (tBel_le (IHP _) (by decide)) ok (fun y T' h' m ok' => hp y T' h' m ok')
theorem ty_X4_stall {scr : List zV} {D : Nat} {P : pP} {M : Nat} {T : List Nat} {h : zH} (hD : 300 ≤ D) (IHP : ∀ P : pP, tBel (zPhi P) scr 300) (ok : wOK (zPhi P) M T h) : TYr scr D (0, P.2) M T h 138 [.inl (.ref 0)] := fun post hp => by
  obtain ⟨D, rfl⟩ : ∃ D', D = D' + 1 := ⟨D - 1, by omega⟩
  exact c4_stall (fun P => tBel_le (IHP P) (by decide)) (by omega) ok ok.2.1.1.1 (fun r T' h' m ok' => hp r T' h' m ok')
theorem ty_X5_stall {scr : List zV} {D : Nat} {n m : Int} {r : Option Int} {v : Bool} {M : Nat} {T : List Nat} {h : zH} (hD : 300 ≤ D) (IHP : ∀ P : pP, tBel (zPhi P) scr 300) (ok : wOK (zPhi (n, m, r, v)) M T h) (hM : M + 30 ≤ 1000000) : TYr scr D (n, 0, none, v) (M + 30) T h 225 [.inl (.ref 49)] := fun post hp => by
  obtain ⟨D, rfl⟩ : ∃ D', D = D' + 8 := ⟨D - 8, by omega⟩
  have l0 := ok.2.2
  exact c5_stall (N := M + 30) (tBel_le (IHP _) (by decide)) (wOK_up ok (Nat.le_add_right _ _)) (by omega) hM (fun y T' h' m ok' => hp y T' h' m ok')
theorem ty_X5_planN {scr : List zV} {D : Nat} {n m : Int} {r : Option Int} {v : Bool} {M : Nat} {T : List Nat} {h : zH} {x1 : Int32} (hD : 300 ≤ D) (IHP : ∀ P : pP, tBel (zPhi P) scr 300) (ok : wOK (zPhi (n, m, r, v)) M T h) (hv : v = true ∨ ¬ (0 ≤ x1.toInt ∧ x1.toInt < hi h 49 23)) : TYr scr D (n, m, r, v) M T h 254 [.inl (.ref 49), .inl (.int x1)] := fun post hp => by
  obtain ⟨D, rfl⟩ : ∃ D', D = D' + 133 := ⟨D - 133, by omega⟩
  exact c_planN (tBel_le (IHP _) (by decide)) ok hv (fun y T' h' m ok' => hp y T' h' m ok')
theorem ty_X5_planM {scr : List zV} {D : Nat} {n m : Int} {r : Option Int} {v : Bool} {M : Nat} {T : List Nat} {h : zH} {x1 : Int32} (hD : 300 ≤ D) (IHP : ∀ P : pP, tBel (zPhi P) scr 300) (ok : wOK (zPhi (n, m, r, v)) M T h) (hM : M + 63 ≤ 1000000) (nd : 0 ≤ x1.toInt ∧ x1.toInt < hi h 49 23) : TYr scr D (n, m, r, true) (M + 63) T h 208 [.inl (.ref 49), .inl (.int x1)] := fun post hp => by
  obtain ⟨D, rfl⟩ : ∃ D', D = D' + 133 := ⟨D - 133, by omega⟩
  have l0 := ok.2.2
  exact c_plan (N := M + 63) (tBel_le (IHP _) (by decide)) (wOK_up ok (Nat.le_add_right _ _)) (by omega) hM nd (fun y T' h' m ok' => hp y T' h' m ok')
theorem ty_X5_tillN {scr : List zV} {D : Nat} {n m : Int} {r : Option Int} {v : Bool} {M : Nat} {T : List Nat} {h : zH} {x1 : Int32} (hD : 300 ≤ D) (IHP : ∀ P : pP, tBel (zPhi P) scr 300) (ok : wOK (zPhi (n, m, r, v)) M T h) (hv : v = true ∨ ¬ (0 ≤ x1.toInt ∧ x1.toInt < hi h 49 23)) : TYr scr D (n, m, r, v) M T h 255 [.inl (.ref 49), .inl (.int x1)] := fun post hp => by
  obtain ⟨D, rfl⟩ : ∃ D', D = D' + 133 := ⟨D - 133, by omega⟩
  exact c_tillN (tBel_le (IHP _) (by decide)) ok hv (fun y T' h' m ok' => hp y T' h' m ok')
theorem ty_X5_tillM {scr : List zV} {D : Nat} {n m : Int} {r : Option Int} {v : Bool} {M : Nat} {T : List Nat} {h : zH} {x1 : Int32} (hD : 300 ≤ D) (IHP : ∀ P : pP, tBel (zPhi P) scr 300) (ok : wOK (zPhi (n, m, r, v)) M T h) (hM : M + 63 ≤ 1000000) (nd : 0 ≤ x1.toInt ∧ x1.toInt < hi h 49 23) : TYr scr D (n, m, r, true) (M + 63) T h 240 [.inl (.ref 49), .inl (.int x1)] := fun post hp => by
  obtain ⟨D, rfl⟩ : ∃ D', D = D' + 133 := ⟨D - 133, by omega⟩
  have l0 := ok.2.2
  exact c_till (N := M + 63) (tBel_le (IHP _) (by decide)) (wOK_up ok (Nat.le_add_right _ _)) (by omega) hM nd (fun y T' h' m ok' => hp y T' h' m ok')
theorem ty_X5_atOnceN {scr : List zV} {D : Nat} {n m : Int} {r : Option Int} {v : Bool} {M : Nat} {T : List Nat} {h : zH} {x1 : Int32} (hD : 300 ≤ D) (IHP : ∀ P : pP, tBel (zPhi P) scr 300) (ok : wOK (zPhi (n, m, r, v)) M T h) (hv : v = true ∨ ¬ (0 ≤ x1.toInt ∧ x1.toInt < hi h 49 23)) : TYr scr D (n, m, r, v) M T h 257 [.inl (.ref 49), .inl (.int x1)] := fun post hp => by
  obtain ⟨D, rfl⟩ : ∃ D', D = D' + 133 := ⟨D - 133, by omega⟩
  exact c_atOnceN (tBel_le (IHP _) (by decide)) ok hv (fun y T' h' m ok' => hp y T' h' m ok')
theorem ty_X5_atOnceM {scr : List zV} {D : Nat} {n m : Int} {r : Option Int} {v : Bool} {M : Nat} {T : List Nat} {h : zH} {x1 : Int32} (hD : 300 ≤ D) (IHP : ∀ P : pP, tBel (zPhi P) scr 300) (ok : wOK (zPhi (n, m, r, v)) M T h) (hM : M + 63 ≤ 1000000) (nd : 0 ≤ x1.toInt ∧ x1.toInt < hi h 49 23) : TYr scr D (n, m, r, true) (M + 63) T h 155 [.inl (.ref 49), .inl (.int x1)] := fun post hp => by
  obtain ⟨D, rfl⟩ : ∃ D', D = D' + 133 := ⟨D - 133, by omega⟩
  have l0 := ok.2.2
  exact c_atOnce (N := M + 63) (tBel_le (IHP _) (by decide)) (wOK_up ok (Nat.le_add_right _ _)) (by omega) hM nd (fun y T' h' m ok' => hp y T' h' m ok')
theorem ty_X5_meanN {scr : List zV} {D : Nat} {n m : Int} {r : Option Int} {v : Bool} {M : Nat} {T : List Nat} {h : zH} {x1 x2 : Int32} (hD : 300 ≤ D) (IHP : ∀ P : pP, tBel (zPhi P) scr 300) (ok : wOK (zPhi (n, m, r, v)) M T h) (hv : v = true ∨ ¬ ((0 ≤ x1.toInt ∧ x1.toInt < hi h 49 23) ∧ 0 ≤ x2.toInt ∧ x2.toInt ≤ 8)) : TYr scr D (n, m, r, v) M T h 256 [.inl (.ref 49), .inl (.int x1), .inl (.int x2)] := fun post hp => by
  obtain ⟨D, rfl⟩ : ∃ D', D = D' + 133 := ⟨D - 133, by omega⟩
  exact c_meanN (tBel_le (IHP _) (by decide)) ok hv (fun y T' h' m ok' => hp y T' h' m ok')
theorem ty_X5_meanM {scr : List zV} {D : Nat} {n m : Int} {r : Option Int} {v : Bool} {M : Nat} {T : List Nat} {h : zH} {x1 x2 : Int32} (hD : 300 ≤ D) (IHP : ∀ P : pP, tBel (zPhi P) scr 300) (ok : wOK (zPhi (n, m, r, v)) M T h) (hM : M + 63 ≤ 1000000) (nd : (0 ≤ x1.toInt ∧ x1.toInt < hi h 49 23) ∧ 0 ≤ x2.toInt ∧ x2.toInt ≤ 8) : TYr scr D (n, m, r, true) (M + 63) T h 199 [.inl (.ref 49), .inl (.int x1), .inl (.int x2)] := fun post hp => by
  obtain ⟨D, rfl⟩ : ∃ D', D = D' + 133 := ⟨D - 133, by omega⟩
  have l0 := ok.2.2
  exact c_mean (N := M + 63) (tBel_le (IHP _) (by decide)) (wOK_up ok (Nat.le_add_right _ _)) (by omega) hM nd (fun y T' h' m ok' => hp y T' h' m ok')
theorem ty_X5_playsN {scr : List zV} {D : Nat} {n m : Int} {r : Option Int} {v : Bool} {M : Nat} {T : List Nat} {h : zH} {x1 : Int32} (hD : 300 ≤ D) (IHP : ∀ P : pP, tBel (zPhi P) scr 300) (ok : wOK (zPhi (n, m, r, v)) M T h) (hv : v = true ∨ ¬ ((0 ≤ x1.toInt ∧ x1.toInt < hi h 49 23) ∧ hi h 49 11 ≤ hi h 72 x1.toInt.toNat)) : TYr scr D (n, m, r, v) M T h 258 [.inl (.ref 49), .inl (.int x1)] := fun post hp => by
  obtain ⟨D, rfl⟩ : ∃ D', D = D' + 131 := ⟨D - 131, by omega⟩
  exact c_playsN (tBel_le (IHP _) (by decide)) ok hv (fun y T' h' m ok' => hp y T' h' m ok')
theorem ty_X5_playsM {scr : List zV} {D : Nat} {n m : Int} {r : Option Int} {v : Bool} {M : Nat} {T : List Nat} {h : zH} {x1 : Int32} (hD : 300 ≤ D) (ok : wOK (zPhi (n, m, r, v)) M T h) (hM : M + 3843 ≤ 1000000) (nd : (0 ≤ x1.toInt ∧ x1.toInt < hi h 49 23) ∧ hi h 49 11 ≤ hi h 72 x1.toInt.toNat) : TYr scr D (n, m, r, true) (M + 3843) T h 210 [.inl (.ref 49), .inl (.int x1)] := fun post hp => by
  obtain ⟨D, rfl⟩ : ∃ D', D = D' + 131 := ⟨D - 131, by omega⟩
  have l0 := ok.2.2
  exact c_plays (N := 0) ⟨ok.1, ok.2.1, Nat.le_refl _⟩ (by omega) nd (fun y T' h' m ok' => hp y T' h' m (wOK_up ok' (by omega)))
