/-- the locals may be put in another row, and more may stand there -/
def uqL (L : zL) : Bool := match L with
  | [] => true
  | p :: L => !(L.any (fun q => Nat.beq q.1 p.1)) && uqL L
def lsub : zL → zL → Prop
  | [], _ => True
  | p :: L, L' => zget L' p.1 = some p.2 ∧ lsub L L'
def cLb (L : zL) : Bool := L.all (fun p => match p.2 with
  | .inl _ => true
  | .inr _ => false)
def Lle (L L' : zL) : Prop := ∀ i v, zget L i = some v → zget L' i = some v
theorem cLb_ok {L : zL} (h : cLb L = true) : cL L := fun p hp => by
  have h1 := List.all_eq_true.mp h p hp
  have h1 : (match p.2 with
    | .inl _ => true
    | .inr _ => false) = true := h1
  split at h1
  · next x hx => exact ⟨x, hx⟩
  · cases h1
theorem zget_cons {p : Nat × zV} {L : zL} {i : Nat} : zget (p :: L) i = if p.1 = i then some p.2 else zget L i := by
  unfold zget
  by_cases e : p.1 = i
  · rw [if_pos e, List.find?_cons_of_pos (by rw [e]; exact Nat.beq_refl i)]
  · rw [if_neg e, List.find?_cons_of_neg (by intro hb; exact e (Nat.eq_of_beq_eq_true hb))]
theorem lsub_ok : ∀ {L L' : zL}, lsub L L' → Lle L L'
  | [], _, _ => fun i v h => by cases h
  | p :: L, L', h => fun i v hv => by
    rw [zget_cons] at hv
    by_cases e : p.1 = i
    · rw [if_pos e] at hv
      cases hv
      rw [← e]
      exact h.1
    · rw [if_neg e] at hv
      exact lsub_ok h.2 i v hv
theorem zget_none {L : zL} {i : Nat} (h : L.any (fun q => Nat.beq q.1 i) = false) : zget L i = none := by
  unfold zget
  cases e : L.find? (fun q => Nat.beq q.1 i) with
  | none => rfl
  | some p =>
    exfalso
    have h1 := List.find?_some e
    have h2 := List.mem_of_find?_eq_some e
    have : L.any (fun q => Nat.beq q.1 i) = true := List.any_eq_true.mpr ⟨p, h2, h1⟩
    rw [h] at this
    cases this
theorem any_filter {L : zL} {f : Nat × zV → Bool} {i : Nat} (h : L.any (fun q => Nat.beq q.1 i) = false) : (L.filter f).any (fun q => Nat.beq q.1 i) = false := by
  cases e : (L.filter f).any (fun q => Nat.beq q.1 i) with
  | false => rfl
  | true =>
    obtain ⟨p, h1, h2⟩ := List.any_eq_true.mp e
    have : L.any (fun q => Nat.beq q.1 i) = true := List.any_eq_true.mpr ⟨p, (List.mem_filter.mp h1).1, h2⟩
    rw [h] at this
    cases this
theorem not_t {b : Bool} (h : (!b) = true) : b = false := by
  cases b
  · rfl
  · cases h
theorem uq_filter : ∀ {L : zL} {f : Nat × zV → Bool}, uqL L = true → uqL (L.filter f) = true
  | [], _, _ => rfl
  | p :: L, f, h => by
    have h : (!(L.any (fun q => Nat.beq q.1 p.1)) && uqL L) = true := h
    obtain ⟨h1, h2⟩ := z_and h
    by_cases e : f p = true
    · rw [List.filter_cons_of_pos e]
      show (!((L.filter f).any (fun q => Nat.beq q.1 p.1)) && uqL (L.filter f)) = true
      rw [any_filter (not_t h1), uq_filter h2]
      rfl
    · rw [List.filter_cons_of_neg e]
      exact uq_filter h2
/-- what is found behind a filter -/
theorem kget_filter : ∀ {L : zL} {f : Nat × zV → Bool} {i : Nat} {v : zV}, uqL L = true → zget (L.filter f) i = some v → zget L i = some v ∧ f (i, v) = true
  | [], _, _, _, _, h => by cases h
  | p :: L, f, i, v, hu, h => by
    have hu : (!(L.any (fun q => Nat.beq q.1 p.1)) && uqL L) = true := hu
    obtain ⟨h1, h2⟩ := z_and hu
    rw [zget_cons]
    by_cases e : f p = true
    · rw [List.filter_cons_of_pos e, zget_cons] at h
      by_cases e2 : p.1 = i
      · rw [if_pos e2] at h ⊢
        cases h
        refine ⟨rfl, ?_⟩
        rw [← e2]
        exact e
      · rw [if_neg e2] at h ⊢
        exact kget_filter h2 h
    · rw [List.filter_cons_of_neg e] at h
      by_cases e2 : p.1 = i
      · rw [← e2, zget_none (any_filter (not_t h1))] at h
        cases h
      · rw [if_neg e2]
        exact kget_filter h2 h
theorem zget_filter2 : ∀ {L : zL} {f : Nat × zV → Bool} {i : Nat} {v : zV}, zget L i = some v → f (i, v) = true → zget (L.filter f) i = some v
  | [], _, _, _, h, _ => by cases h
  | p :: L, f, i, v, h, hf => by
    rw [zget_cons] at h
    by_cases e2 : p.1 = i
    · rw [if_pos e2] at h
      cases h
      have e : f p = true := by
        rw [← e2] at hf
        exact hf
      rw [List.filter_cons_of_pos e, zget_cons, if_pos e2]
    · rw [if_neg e2] at h
      by_cases e : f p = true
      · rw [List.filter_cons_of_pos e, zget_cons, if_neg e2]
        exact zget_filter2 h hf
      · rw [List.filter_cons_of_neg e]
        exact zget_filter2 h hf
theorem any_self {L : zL} {i : Nat} {g : Nat × zV → Bool} : (L.filter (fun q => !(Nat.beq q.1 i) && g q)).any (fun q => Nat.beq q.1 i) = false := by
  cases e : (L.filter (fun q => !(Nat.beq q.1 i) && g q)).any (fun q => Nat.beq q.1 i) with
  | false => rfl
  | true =>
    obtain ⟨p, h1, h2⟩ := List.any_eq_true.mp e
    have h3 := (List.mem_filter.mp h1).2
    have h3 := not_t (z_and h3).1
    rw [h2] at h3
    cases h3
theorem R_st {L L' : zL} {i : Nat} {v : zV} {g : Nat × zV → Bool} (hu : uqL L = true) (hl : Lle L L') : uqL ((i, v) :: L.filter (fun q => !(Nat.beq q.1 i) && g q)) = true ∧ Lle ((i, v) :: L.filter (fun q => !(Nat.beq q.1 i) && g q)) ((i, v) :: L'.filter (fun q => !(Nat.beq q.1 i) && g q)) := by
  refine ⟨?_, fun k w hk => ?_⟩
  · show (!((L.filter (fun q => !(Nat.beq q.1 i) && g q)).any (fun q => Nat.beq q.1 i)) && uqL (L.filter (fun q => !(Nat.beq q.1 i) && g q))) = true
    rw [any_self, uq_filter hu]
    rfl
  · rw [zget_cons] at hk ⊢
    by_cases e : i = k
    · rw [if_pos e] at hk ⊢
      exact hk
    · rw [if_neg e] at hk ⊢
      obtain ⟨h1, h2⟩ := kget_filter hu hk
      exact zget_filter2 (hl _ _ h1) h2
theorem R_st1 {L L' : zL} {i : Nat} {v : zV} (hu : uqL L = true) (hl : Lle L L') : uqL (zst1 L i v) = true ∧ Lle (zst1 L i v) (zst1 L' i v) := R_st hu hl
theorem R_st2 {L L' : zL} {i : Nat} {v : zV} (hu : uqL L = true) (hl : Lle L L') : uqL (zst2 L i v) = true ∧ Lle (zst2 L i v) (zst2 L' i v) := R_st hu hl
theorem zld_pt {P : zV → Bool} {L : zL} {i : Nat} {f : zV → zS} {y : zS} (h : ∀ K : zS → Bool, zld P L i (fun v => K (f v)) = K y) : ∃ v, zget L i = some v ∧ P v = true ∧ y = f v := by
  have h1 := h (fun _ => true)
  unfold zld at h h1
  cases e : zget L i with
  | none =>
    rw [e] at h1
    cases h1
  | some v =>
    rw [e] at h1
    have h1 : (P v && true) = true := h1
    obtain ⟨p, -⟩ := z_and h1
    refine ⟨v, rfl, p, ?_⟩
    refine (K_inj (fun K => ?_)).symm
    have h2 := h K
    rw [e] at h2
    have h2 : (P v && K (f v)) = K y := h2
    rw [p] at h2
    exact h2
theorem zs1_pt {P : zV → Bool} {L : zL} {nL i : Nat} {st : List zV} {f : zL → List zV → zS} {y : zS} (h : ∀ K : zS → Bool, zs1 P L nL i st (fun L' r => K (f L' r)) = K y) : ∃ v r, st = v :: r ∧ P v = true ∧ Nat.blt i nL = true ∧ y = f (zst1 L i v) r := by
  have h1 := h (fun _ => true)
  cases st with
  | nil => cases h1
  | cons v r =>
    have h1 : (P v && (Nat.blt i nL && true)) = true := h1
    obtain ⟨p, h1⟩ := z_and h1
    obtain ⟨p2, -⟩ := z_and h1
    refine ⟨v, r, rfl, p, p2, (K_inj (fun K => ?_)).symm⟩
    have h2 : (P v && (Nat.blt i nL && K (f (zst1 L i v) r))) = K y := h K
    rw [p, p2] at h2
    exact h2
theorem zs2_pt {L : zL} {nL i : Nat} {st : List zV} {f : zL → List zV → zS} {y : zS} (h : ∀ K : zS → Bool, zs2 L nL i st (fun L' r => K (f L' r)) = K y) : ∃ v r, st = v :: r ∧ zisL v = true ∧ Nat.blt (i + 1) nL = true ∧ y = f (zst2 L i v) r := by
  have h1 := h (fun _ => true)
  cases st with
  | nil => cases h1
  | cons v r =>
    have h1 : (zisL v && (Nat.blt (i + 1) nL && true)) = true := h1
    obtain ⟨p, h1⟩ := z_and h1
    obtain ⟨p2, -⟩ := z_and h1
    refine ⟨v, r, rfl, p, p2, (K_inj (fun K => ?_)).symm⟩
    have h2 : (zisL v && (Nat.blt (i + 1) nL && K (f (zst2 L i v) r))) = K y := h K
    rw [p, p2] at h2
    exact h2
section
variable {nL rc rs : Nat} {scr : List zV} {cc : zK}
def simG (nL rc rs : Nat) (scr : List zV) (cc : zK) (ins : Instr) (cv : zV) (a b c pc : Nat) (L' : zL) (st : List zV) (h : zH) (nc ns : Nat) (y : zS) : Prop := ∃ L2, uqL y.2.1 = true ∧ Lle y.2.1 L2 ∧ cL L2 ∧ ∀ K, zstep zNf zdfl zslen zprog nL rc rs scr cc K ins cv a b c pc L' st h nc ns = K (y.1, L2, y.2.2)
theorem sim_pass {ins : Instr} {cv : zV} {a b c pc : Nat} {L L' : zL} {st : List zV} {h : zH} {nc ns : Nat} {y : zS} (hu : uqL L = true) (hl : Lle L L') (hc : cL L') (hK : ∀ K, zstep zNf zdfl zslen zprog nL rc rs scr cc K ins cv a b c pc L st h nc ns = K y)
    (hp : ∀ (K : zS → Bool) (L1 : zL), zstep zNf zdfl zslen zprog nL rc rs scr cc K ins cv a b c pc L1 st h nc ns = zstep zNf zdfl zslen zprog nL rc rs scr cc (fun z => K (z.1, L1, z.2.2)) ins cv a b c pc L st h nc ns) : simG nL rc rs scr cc ins cv a b c pc L' st h nc ns y := by
  have e : y = (y.1, L, y.2.2) := K_inj (fun K => (hK K).symm.trans ((hp K L).trans (hK _)))
  have e2 : y.2.1 = L := congrArg (fun z : zS => z.2.1) e
  exact ⟨L', by rw [e2]; exact hu, by rw [e2]; exact hl, hc, fun K => by rw [hp K L', hK]⟩
theorem sim_ld {P : zV → Bool} {ins : Instr} {cv : zV} {a b c pc pc' i : Nat} {L L' : zL} {st : List zV} {h : zH} {nc ns : Nat} {y : zS} (hu : uqL L = true) (hl : Lle L L') (hc : cL L') (hK : ∀ K, zstep zNf zdfl zslen zprog nL rc rs scr cc K ins cv a b c pc L st h nc ns = K y)
    (hp : ∀ (K : zS → Bool) (L1 : zL), zstep zNf zdfl zslen zprog nL rc rs scr cc K ins cv a b c pc L1 st h nc ns = zld P L1 i (fun v => K (pc', L1, v :: st, h, nc, ns))) : simG nL rc rs scr cc ins cv a b c pc L' st h nc ns y := by
  obtain ⟨v, h1, h2, rfl⟩ := zld_pt (P := P) (L := L) (i := i) (f := fun v => (pc', L, v :: st, h, nc, ns)) (y := y) (fun K => (hp K L).symm.trans (hK K))
  refine ⟨L', hu, hl, hc, fun K => ?_⟩
  rw [hp K L']
  unfold zld
  rw [hl _ _ h1]
  show (P v && _) = _
  rw [h2]
  rfl
theorem sim_s1 {P : zV → Bool} {ins : Instr} {cv : zV} {a b c pc pc' i : Nat} {L L' : zL} {st : List zV} {h : zH} {nc ns : Nat} {y : zS} (hs : cT st) (hu : uqL L = true) (hl : Lle L L') (hc : cL L') (hK : ∀ K, zstep zNf zdfl zslen zprog nL rc rs scr cc K ins cv a b c pc L st h nc ns = K y)
    (hp : ∀ (K : zS → Bool) (L1 : zL), zstep zNf zdfl zslen zprog nL rc rs scr cc K ins cv a b c pc L1 st h nc ns = zs1 P L1 nL i st (fun L2 r => K (pc', L2, r, h, nc, ns))) : simG nL rc rs scr cc ins cv a b c pc L' st h nc ns y := by
  obtain ⟨v, r, rfl, h2, h3, rfl⟩ := zs1_pt (P := P) (L := L) (i := i) (nL := nL) (f := fun L2 r => (pc', L2, r, h, nc, ns)) (y := y) (fun K => (hp K L).symm.trans (hK K))
  have e := R_st1 (i := i) (v := v) hu hl
  refine ⟨zst1 L' i v, e.1, e.2, cL_st1 hc (cT_hd hs), fun K => ?_⟩
  rw [hp K L']
  show (P v && (Nat.blt i nL && _)) = _
  rw [h2, h3]
  rfl
theorem sim_s2 {ins : Instr} {cv : zV} {a b c pc pc' i : Nat} {L L' : zL} {st : List zV} {h : zH} {nc ns : Nat} {y : zS} (hs : cT st) (hu : uqL L = true) (hl : Lle L L') (hc : cL L') (hK : ∀ K, zstep zNf zdfl zslen zprog nL rc rs scr cc K ins cv a b c pc L st h nc ns = K y)
    (hp : ∀ (K : zS → Bool) (L1 : zL), zstep zNf zdfl zslen zprog nL rc rs scr cc K ins cv a b c pc L1 st h nc ns = zs2 L1 nL i st (fun L2 r => K (pc', L2, r, h, nc, ns))) : simG nL rc rs scr cc ins cv a b c pc L' st h nc ns y := by
  obtain ⟨v, r, rfl, h2, h3, rfl⟩ := zs2_pt (L := L) (i := i) (nL := nL) (f := fun L2 r => (pc', L2, r, h, nc, ns)) (y := y) (fun K => (hp K L).symm.trans (hK K))
  have e := R_st2 (i := i) (v := v) hu hl
  refine ⟨zst2 L' i v, e.1, e.2, cL_st2 hc (cT_hd hs), fun K => ?_⟩
  rw [hp K L']
  show (zisL v && (Nat.blt (i + 1) nL && _)) = _
  rw [h2, h3]
  rfl
set_option maxHeartbeats 4000000 in
theorem zstep_sim {ins : Instr} {cv : zV} {a b c pc : Nat} {L L' : zL} {st : List zV} {h : zH} {nc ns : Nat} {y : zS} (hs : cT st) (hu : uqL L = true) (hl : Lle L L') (hc : cL L') (hK : ∀ K, zstep zNf zdfl zslen zprog nL rc rs scr cc K ins cv a b c pc L st h nc ns = K y) : simG nL rc rs scr cc ins cv a b c pc L' st h nc ns y := by
  cases ins
  case iload_n k => exact sim_ld (P := zisI) (i := k.val) (pc' := pc + 1) hu hl hc hK (fun _ _ => rfl)
  case iload k => exact sim_ld (P := zisI) (i := k) (pc' := pc + 2) hu hl hc hK (fun _ _ => rfl)
  case lload_n k => exact sim_ld (P := zisL) (i := k.val) (pc' := pc + 1) hu hl hc hK (fun _ _ => rfl)
  case lload k => exact sim_ld (P := zisL) (i := k) (pc' := pc + 2) hu hl hc hK (fun _ _ => rfl)
  case aload_n k => exact sim_ld (P := zisR) (i := k.val) (pc' := pc + 1) hu hl hc hK (fun _ _ => rfl)
  case aload k => exact sim_ld (P := zisR) (i := k) (pc' := pc + 2) hu hl hc hK (fun _ _ => rfl)
  case istore_n k => exact sim_s1 (P := zisI) (i := k.val) (pc' := pc + 1) hs hu hl hc hK (fun _ _ => rfl)
  case istore k => exact sim_s1 (P := zisI) (i := k) (pc' := pc + 2) hs hu hl hc hK (fun _ _ => rfl)
  case astore_n k => exact sim_s1 (P := zisR) (i := k.val) (pc' := pc + 1) hs hu hl hc hK (fun _ _ => rfl)
  case astore k => exact sim_s1 (P := zisR) (i := k) (pc' := pc + 2) hs hu hl hc hK (fun _ _ => rfl)
  case lstore_n k => exact sim_s2 (i := k.val) (pc' := pc + 1) hs hu hl hc hK (fun _ _ => rfl)
  case lstore k => exact sim_s2 (i := k) (pc' := pc + 2) hs hu hl hc hK (fun _ _ => rfl)
  case iinc k n =>
    have h1 := hK (fun _ => true)
    simp only [zstep] at h1
    cases e : zget L k with
    | none =>
      rw [e] at h1
      cases h1
    | some v =>
      rw [e] at h1
      have key : ∃ x, v = .inl (.int x) := by
        cases v with
        | inr z => cases h1
        | inl z => cases z <;> first | exact ⟨_, rfl⟩ | cases h1
      obtain ⟨x, rfl⟩ := key
      have h1 : (Nat.blt k nL && true) = true := h1
      obtain ⟨p, -⟩ := z_and h1
      have fw : ∀ (L1 : zL), zget L1 k = some (.inl (.int x)) → ∀ K : zS → Bool, zstep zNf zdfl zslen zprog nL rc rs scr cc K (.iinc k n) cv a b c pc L1 st h nc ns = K (pc + 3, zst1 L1 k (.inl (.int (x + Int32.ofInt n))), st, h, nc, ns) := by
        intro L1 e1 K
        simp only [zstep]
        rw [e1]
        show (Nat.blt k nL && _) = _
        rw [p]
        rfl
      have ey : y = (pc + 3, zst1 L k (.inl (.int (x + Int32.ofInt n))), st, h, nc, ns) := K_inj (fun K => (hK K).symm.trans (fw L e K))
      subst ey
      have e3 := R_st1 (i := k) (v := .inl (.int (x + Int32.ofInt n))) hu hl
      exact ⟨_, e3.1, e3.2, cL_st1 hc ⟨_, rfl⟩, fw L' (hl _ _ e)⟩
  all_goals exact sim_pass hu hl hc hK (fun _ _ => rfl)
end
theorem xAt_sim {E : zE} {scr : List zV} {rc rs : Nat} {cc : zK} {r : Option zV} {h' : zH} : ∀ {n pc : Nat} {L L' : zL} {z : List zV × zH × Nat × Nat}, uqL L = true → Lle L L' → cL L' → xAt E scr rc rs cc r h' n (pc, L, z) → xAt E scr rc rs cc r h' n (pc, L', z) := by
  intro n
  induction n with
  | zero => intro pc L L' z _ _ _ h; exact absurd h (fun h => h)
  | succ n ih =>
    intro pc L L' z hu hl hc h
    obtain ⟨h1, i, h2, h3⟩ := h
    refine ⟨⟨hc, h1.2⟩, i, h2, ?_⟩
    rcases h3 with h3 | ⟨h3, y, h4, h5⟩
    · exact Or.inl h3
    · obtain ⟨L2, e1, e2, e3, e4⟩ := zstep_sim h1.2.1 hu hl hc h4
      exact Or.inr ⟨h3, _, e4, ih e1 e2 e3 h5⟩
theorem k_ext {E : zE} {scr : List zV} {rc rs : Nat} {cc : zK} {r : Option zV} {h' : zH} {G : Nat → Prop → zS → Prop} {m : Nat} {P : Prop} {pc : Nat} {L L' : zL} {z : List zV × zH × Nat × Nat} (HG : G = GL E scr rc rs cc r h') (hu : uqL L = true) (hc : cLb L' = true) (hl : lsub L L') (hg : G m P (pc, L', z)) : G m P (pc, L, z) := by
  subst HG
  exact fun n hn hx => hg n hn (xAt_sim hu (lsub_ok hl) (cLb_ok hc) hx)
