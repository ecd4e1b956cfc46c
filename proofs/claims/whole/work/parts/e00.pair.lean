section
variable {T T2 T7 : List Nat} {h h' h2 : zH} {N : ST} {K : Option ST} {C Z : Nat → Int32} {E : Nat → Nat → Int64} {n : Nat} {B R : Nat → Int32} {P : pP}
theorem pO_tab : ∀ d, d < 30 → d = 0 ∨ (5 ≤ d ∧ d ≤ 12) ∨ (25 ≤ d ∧ d ≤ 28) ∨ ∃ o ∈ pOff, o.2.1 = d ∧ o.2.2 ≠ 41 ∧ o.2.2 ≠ 42 ∧ o.2.2 ≠ 6 := by decide
/-- what holds between the law's calls, for the reference -/
theorem re_of (hok : hOK zty T h) (hp : zPhi P T h) (ce : tExt zT0 T) : RE T h := by
  refine ⟨k_of hok, ce, fun q hq d hd => ?_, hp.2.2.2.2.2.2.2.1, hp.2.2.2.2.2.2.2.2.1, hp.2.2.2.2.2.2.2.2.2⟩
  obtain ⟨lay, -⟩ := hp.2.1 q 6 hq (Or.inr rfl)
  rcases pO_tab d hd with rfl | ⟨a, b⟩ | ⟨a, b⟩ | ⟨o, ho, e1, e2, e3, e4⟩
  · exact ⟨6, hq, by decide, by decide, fun y => absurd rfl y⟩
  · have := (lay.2.1 (d - 5) (by omega)).2
    rw [show 5 + (d - 5) = d by omega] at this
    exact ⟨28, this, by decide, by decide, fun _ => by decide⟩
  · have := (lay.2.2 (d - 25) (by omega)).2
    rw [show 25 + (d - 25) = d by omega] at this
    exact ⟨39, this, by decide, by decide, fun _ => by decide⟩
  · have := (lay.1 o ho).2
    rw [e1] at this
    exact ⟨o.2.2, this, e2, e3, fun _ => e4⟩
theorem rx_f49 (x : RX h N K C Z E n B R) (f : fr49 h h') : RX h' N K C Z E n B R := ⟨r0P_eq (fun i _ => f 49 i (by decide)) (fun s _ => f 53 s (by decide)) x.1, rNP_eq (fun m i _ h2 => f m i (by omega)) x.2.1, rKP_eq (f 49 26 (by decide)) (fun m i hm => f m i (by omega)) x.2.2.1, rXP_eq (f 49 26 (by decide)) (f 49 27 (by decide)) (f 49 35 (by decide)) (fun m i hm => f m i (by omega)) x.2.2.2.1, rTP_eq (f 49 7 (by decide)) (fun i => f 64 i (by decide)) x.2.2.2.2.1, rFP_eq (fun i => f 65 i (by decide)) x.2.2.2.2.2.1, rSP_eq (fun m i hm => f m i (by omega)) x.2.2.2.2.2.2⟩
theorem cx_f0 (x : CX h N K C Z E n B R) (f : fr0 h h') : CX h' N K C Z E n B R := by
  have er : ∀ a b, b ≤ 49 → eqR a b h h' := fun a b hb m i h1 h2 => f m i (by omega)
  obtain ⟨x0, x1, x2, x3, x4, x5, x6, x7⟩ := x
  exact ⟨c0P_eq (er _ _ (by decide)) x0, cNP_eq (er _ _ (by decide)) x1, cKP_eq (hv_eq (f 0 7 (by decide))) (er _ _ (by decide)) x2, cRP_eq (er _ _ (by decide)) x3, cHP_eq (er _ _ (by decide)) x4, cTP_eq (er _ _ (by decide)) x5, cFP_eq (er _ _ (by decide)) x6, cSP_eq (er _ _ (by decide)) (er _ _ (by decide)) x7⟩
/-- between the law's calls: both stand for the same -/
def REL (T : List Nat) (h : zH) (t : Int) (v : Bool) : Prop := wOK (zPhi (t, t, none, v)) h.length T h ∧ tExt zT0 T ∧ cH h ∧ (v = false → hget h 49 35 = some (.inl .null)) ∧ ∃ (N : ST) (K : Option ST) (C Z : Nat → Int32) (E : Nat → Nat → Int64) (n : Nat) (B R : Nat → Int32), CX h N K C Z E n B R ∧ RX h N K C Z E n B R ∧ okSh N K C
def TYr (scr : List zV) (D : Nat) (P : pP) (M : Nat) (T : List Nat) (h : zH) (j : Nat) (args : List zV) : Prop := ∀ post : Option zV → zH → Bool, (∀ (x : Int32) (T' : List Nat) (h' : zH), tExt T T' → wOK (zPhi P) M T' h' → post (some (.inl (.int x))) h' = true) → zD zprog scr D j args h post = true
def XEq (scr : List zV) (D j : Nat) (args : List zV) (h : zH) (F : Int32 × zH) (Q : zH → Prop) : Prop := ∀ r h', xD scr D j args h r h' → r = some (.inl (.int F.1)) ∧ h' = F.2 ∧ Q h'
theorem ty_end {scr : List zV} {D M j : Nat} {args : List zV} {F : Int32 × zH} {Q : zH → Prop} (hsc : cT scr) (ha : cT args) (hh : cH h) (ty : TYr scr D P M T h j args) (xe : XEq scr D j args h F Q) : ∃ T', tExt T T' ∧ wOK (zPhi P) M T' F.2 ∧ cH F.2 ∧ Q F.2 ∧ ∀ post, zD zprog scr D j args h post = post (some (.inl (.int F.1))) F.2 := by
  obtain ⟨r, g, -, ch, hx, hp⟩ := zD_xD hsc ha hh (ty (fun r h' => zB (∃ (x : Int32) (T' : List Nat), r = some (.inl (.int x)) ∧ tExt T T' ∧ wOK (zPhi P) M T' h')) (fun x T' h' m ok => zB_iff.mpr ⟨x, T', rfl, m, ok⟩))
  obtain ⟨x, T', e, m, ok⟩ := zB_iff.mp hp
  obtain ⟨rfl, rfl, q⟩ := xe r g hx
  exact ⟨T', m, ok, ch, q, hx⟩
theorem law_pair {scr : List zV} {D c j4 j5 : Nat} {t t' : Int} {v v' : Bool} {P7 : pP} {a4 a5 : List zV} {F4 : Int32 × zH} {F5 : zH → Int32 × zH} (hsc : cT scr) (rel : REL T h t v) (ha4 : cT a4) (ha5 : cT a5) (hl : h.length ≤ 900000) (ty4 : TYr scr D P7 h.length T h j4 a4) (x4 : XEq scr D j4 a4 h F4 (fun _ => True))
    (hm : ∀ (N : ST) (K : Option ST) (C Z : Nat → Int32) (E : Nat → Nat → Int64) (n : Nat) (B R : Nat → Int32) (T2 : List Nat) (h2 : zH), HY T T2 h h2 N K C Z E n B R → fr49 h h2 → T2.length ≤ 900000 → PR h h2 F4 (F5 h2))
    (ty5 : ∀ (T7 : List Nat) (h1 : zH), fr49 h h1 → tExt T T7 → wOK (zPhi P7) h.length T7 h1 → TYr scr D (t', t', none, v') (h.length + c) T7 h1 j5 a5)
    (x5 : ∀ (T7 : List Nat) (h1 : zH), fr49 h h1 → tExt T T7 → wOK (zPhi P7) h.length T7 h1 → cH h1 → XEq scr D j5 a5 h1 (F5 h1) (fun h' => v' = false → hget h' 49 35 = some (.inl .null)))
    (post4 : Option zV → zH → Bool) (kk : ∀ (a : Int32) (T7 : List Nat) (h1 : zH), tExt T T7 → wOK (zPhi P7) h.length T7 h1 → fr49 h h1 → (∀ post5 : Option zV → zH → Bool, (∀ (T14 : List Nat) (h2 : zH), tExt T T14 → REL T14 h2 t' v' → h2.length ≤ h.length + c → post5 (some (.inl (.int a))) h2 = true) → zD zprog scr D j5 a5 h1 post5 = true) → post4 (some (.inl (.int a))) h1 = true) : zD zprog scr D j4 a4 h post4 = true := by
  obtain ⟨ok, ce, hh, hv0, N, K, C, Z, E, n, B, R, cx, rx, os⟩ := rel
  obtain ⟨T7, m7, ok7, hh7, -, z4⟩ := ty_end hsc ha4 hh ty4 x4
  have re := re_of ok.1 ok.2.1 ce
  have lT : T.length ≤ 900000 := by
    rw [← ok.1.1]
    exact hl
  have lT7 : T7.length ≤ 900000 := by
    rw [← ok7.1.1]
    exact Nat.le_trans ok7.2.2 hl
  have cE : CE T h := ⟨k_of ok.1, ce⟩
  obtain ⟨a, N1, K1, C1, Z1, E1, n1, B1, R1, ⟨c1, c2, f49⟩, r1, o1⟩ := hm N K C Z E n B R T h ⟨cE, cx, re, rx, os⟩ fr49_r lT
  obtain ⟨a2, N2, K2, C2, Z2, E2, n2, B2, R2, ⟨d1, d2, d3⟩, ⟨e1, e2, e3⟩, o2⟩ := hm N K C Z E n B R T7 F4.2 ⟨cE, cx, re_of ok7.1 ok7.2.1 (tExt_tr ce m7), rx_f49 rx f49, os⟩ f49 lT7
  rw [z4]
  refine kk F4.1 T7 F4.2 m7 ok7 f49 (fun post5 hp => ?_)
  obtain ⟨T14, m14, ok14, hh14, q14, z5⟩ := ty_end hsc ha5 hh7 (ty5 T7 F4.2 f49 m7 ok7) (x5 T7 F4.2 f49 m7 ok7 hh7)
  rw [z5, e1, ← d1]
  exact hp T14 _ (tExt_tr m7 m14) ⟨⟨ok14.1, ok14.2.1, Nat.le_refl _⟩, tExt_tr ce (tExt_tr m7 m14), hh14, q14, N2, K2, C2, Z2, E2, n2, B2, R2, cx_f0 d2 e3, e2, o2⟩ ok14.2.2
/-- a longer answer, the heap as it was -/
theorem law_long {scr : List zV} {D j4 j5 : Nat} {t : Int} {v : Bool} {a4 a5 : List zV} {F4 : Int64} {F5 : Int64} (hsc : cT scr) (rel : REL T h t v) (ha4 : cT a4) (ha5 : cT a5) (hl : h.length ≤ 900000) (ty4 : ∀ post : Option zV → zH → Bool, (∀ r h', post r h' = true) → zD zprog scr D j4 a4 h post = true) (ty5 : ∀ post : Option zV → zH → Bool, (∀ r h', post r h' = true) → zD zprog scr D j5 a5 h post = true)
    (x4 : ∀ r h', xD scr D j4 a4 h r h' → r = some (.inl (.long F4)) ∧ h' = h) (x5 : ∀ r h', xD scr D j5 a5 h r h' → r = some (.inl (.long F5)) ∧ h' = h)
    (hm : ∀ (N : ST) (K : Option ST) (C Z : Nat → Int32) (E : Nat → Nat → Int64) (n : Nat) (B R : Nat → Int32), HY T T h h N K C Z E n B R → F4 = F5) : ∃ a : Int64, (∀ post, zD zprog scr D j4 a4 h post = post (some (.inl (.long a))) h) ∧ ∀ post, zD zprog scr D j5 a5 h post = post (some (.inl (.long a))) h := by
  obtain ⟨ok, ce, hh, hv0, N, K, C, Z, E, n, B, R, cx, rx, os⟩ := rel
  have e := hm N K C Z E n B R ⟨⟨k_of ok.1, ce⟩, cx, re_of ok.1 ok.2.1 ce, rx, os⟩
  subst e
  obtain ⟨r, g, -, -, hx, -⟩ := zD_xD hsc ha4 hh (ty4 (fun _ _ => true) (fun _ _ => rfl))
  obtain ⟨rfl, rfl⟩ := x4 r g hx
  obtain ⟨r2, g2, -, -, hx2, -⟩ := zD_xD hsc ha5 hh (ty5 (fun _ _ => true) (fun _ _ => rfl))
  obtain ⟨rfl, rfl⟩ := x5 r2 g2 hx2
  exact ⟨_, hx, hx2⟩
/-- a slot that is null -/
noncomputable def isNl (h : zH) (i : Nat) : Bool := zB (hget h 49 i = some (.inl .null))
end
