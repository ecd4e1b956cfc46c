theorem zbt {o : Option Bool} {kt kf : Bool} (h : o = some true) (k : kt = true) : zbr o kt kf = true := by subst h; exact k
theorem zbf {o : Option Bool} {kt kf : Bool} (h : o = some false) (k : kf = true) : zbr o kt kf = true := by subst h; exact k
theorem zandi {P Q : Bool} (h : P = true) (k : Q = true) : (P && Q) = true := by rw [h, k]; rfl
theorem zlt1 {a b : Int32} (h : a.toInt < b.toInt) : zlt (.inl (.int a)) (.inl (.int b)) = some true := if_pos h
theorem zlt0 {a b : Int32} (h : b.toInt ≤ a.toInt) : zlt (.inl (.int a)) (.inl (.int b)) = some false := by
  show (if a.toInt < b.toInt then some true else if b.toInt ≤ a.toInt then some false else none) = _
  rw [if_neg (by omega), if_pos h]
theorem zeq_self (a : Int32) : zcond .eq (.inl (.int a)) (.inl (.int a)) = some true := by
  show (if a.toInt < a.toInt ∨ a.toInt < a.toInt then some false else if a.toInt ≤ a.toInt ∧ a.toInt ≤ a.toInt then some true else none) = _
  rw [if_neg (by omega), if_pos (by omega)]
theorem zcmp_nlt {a b : Int64} (h : b.toInt ≤ a.toInt) : zcond .lt (zcmpL (.inl (.long a)) (.inl (.long b))) (.inl (.int 0)) = some false := by
  show zlt (zmk (if b.toInt < a.toInt then 1 else if b.toInt ≤ a.toInt then 0 else -1) (if a.toInt < b.toInt then -1 else if a.toInt ≤ b.toInt then 0 else 1)) _ = _
  by_cases h2 : b.toInt < a.toInt
  · rw [if_pos h2, if_neg (by omega), if_neg (by omega)]
    decide +kernel
  · rw [if_neg h2, if_pos h, if_neg (by omega), if_pos (by omega)]
    decide +kernel
theorem zcmp_ngt {a b : Int64} (h : a.toInt ≤ b.toInt) : zcond .gt (zcmpL (.inl (.long a)) (.inl (.long b))) (.inl (.int 0)) = some false := by
  show zlt _ (zmk (if b.toInt < a.toInt then 1 else if b.toInt ≤ a.toInt then 0 else -1) (if a.toInt < b.toInt then -1 else if a.toInt ≤ b.toInt then 0 else 1)) = _
  by_cases h2 : a.toInt < b.toInt
  · rw [if_neg (by omega), if_neg (by omega), if_pos h2]
    decide +kernel
  · rw [if_neg (by omega), if_pos (by omega), if_neg h2, if_pos h]
    decide +kernel
theorem zn_at : ∀ n : Nat, n < 62 → Int32.ofInt (n : Int) = Int32.ofNat n ∧ (Int32.ofNat n).toInt = n ∧ Int32.ofNat n + Int32.ofInt 1 = Int32.ofNat (n + 1) := by decide +kernel
theorem zn_of {x : Int32} (h1 : 0 ≤ x.toInt) (h2 : x.toInt ≤ 60) : ∃ n : Nat, n ≤ 60 ∧ x = Int32.ofNat n := by
  refine ⟨x.toInt.toNat, by omega, ?_⟩
  have h3 := (zn_at x.toInt.toNat (by omega)).1
  rw [Int.toNat_of_nonneg h1, Int32.ofInt_toInt] at h3
  exact h3
def zq (m k : Int32) : Int32 := 1000000 * m / (Int32.ofInt 2 * m - k)
theorem zq_at : ∀ m : Nat, m < 61 → ∀ k : Nat, k < 61 → (1 ≤ m ∧ k ≤ m) → 0 < (Int32.ofInt 2 * Int32.ofNat m - Int32.ofNat k).toInt ∧ (Int32.ofInt 2 * Int32.ofNat m - Int32.ofNat k == 0) = false ∧ (k = m → (zq (Int32.ofNat m) (Int32.ofNat k)).toInt = 1000000) := by decide +kernel
def zTo (cc : zK) (j : Nat) (vs : List zV) (r : zV) : Prop := ∀ (h : zH) (post : Option zV → zH → Bool), post (some r) h = true → cc j vs h post = true
def zkf (m f : Int32) : Nat → Nat → Nat
  | 0, k => k
  | j + 1, k => if f.toInt ≤ (zq m (Int32.ofNat k)).toInt then k else zkf m f j (k + 1)
def zfu (q : Nat) : Nat → Nat
  | 0 => 30
  | j + 1 => zfu q j + q
section
variable {scr : List zV} {cc : zK} {h : zH} {post : Option zV → zH → Bool}
theorem zt_isW {a b c : Int32} (h1 : b.toInt ≤ a.toInt) (h2 : a.toInt ≤ c.toInt) (hp : post (some (.inl (.int 1))) h = true) : zrun zNf zdfl zslen zprog ze_X4_isWithin scr 0 0 cc (fun _ _ => false) post 12 (0, zarg 0 [.inl (.int a), .inl (.int b), .inl (.int c)], [], h, 0, 0) = true := by
  refine zbf (o := zcond .lt (.inl (.int a)) (.inl (.int b))) (zlt0 h1) ?_
  refine zbf (o := zcond .gt (.inl (.int a)) (.inl (.int c))) (zlt0 h2) ?_
  exact hp
theorem zcmp_I (a b : zV) : zisI (zcmpL a b) = true := by
  show zisI (zmk _ _) = true
  unfold zmk
  by_cases hq : (if zhi b < zlo a then (1 : Int) else if zhi b ≤ zlo a then 0 else -1) = (if zhi a < zlo b then -1 else if zhi a ≤ zlo b then 0 else 1)
  · rw [if_pos hq]; rfl
  · rw [if_neg hq]; rfl
theorem zt_in {a b c : Int64} (h1 : b.toInt ≤ a.toInt) (h2 : a.toInt ≤ c.toInt) (hp : post (some (.inl (.int 1))) h = true) : zrun zNf zdfl zslen zprog ze_X5_in scr 0 0 cc (fun _ _ => false) post 14 (0, zarg 0 [.inl (.long a), .inl (.long b), .inl (.long c)], [], h, 0, 0) = true := by
  refine zandi (P := zisI (zcmpL (.inl (.long a)) (.inl (.long b)))) (zcmp_I _ _) ?_
  refine zbf (o := zcond .lt (zcmpL (.inl (.long a)) (.inl (.long b))) (.inl (.int 0))) (zcmp_nlt h1) ?_
  refine zandi (P := zisI (zcmpL (.inl (.long a)) (.inl (.long c)))) (zcmp_I _ _) ?_
  refine zbf (o := zcond .gt (zcmpL (.inl (.long a)) (.inl (.long c))) (.inl (.int 0))) (zcmp_ngt h2) ?_
  exact hp
theorem zt_sureness {m k : Int32} (h1 : 0 < (Int32.ofInt 2 * m - k).toInt) (h2 : (Int32.ofInt 2 * m - k == 0) = false) (hp : post (some (.inl (.int (zq m k)))) h = true) : zrun zNf zdfl zslen zprog ze_X4_sureness scr 0 0 cc (fun _ _ => false) post 20 (0, zarg 0 [.inl (.int m), .inl (.int k)], [], h, 0, 0) = true := by
  refine zbt (o := zcond .gt (.inl (.int (Int32.ofInt 2 * m - k))) (.inl (.int 0))) (zlt1 h1) ?_
  refine zandi (P := !(Int32.ofInt 2 * m - k == 0)) (by rw [h2]; rfl) ?_
  exact hp
theorem zt_suspected {m k : Int32} (h2 : (Int32.ofInt 2 * m - k == 0) = false) (hp : post (some (.inl (.int (zq m k)))) h = true) : zrun zNf zdfl zslen zprog ze_X5_suspected scr 0 0 cc (fun _ _ => false) post 20 (0, zarg 0 [.inl (.int m), .inl (.int k)], [], h, 0, 0) = true := by
  refine zandi (P := !(Int32.ofInt 2 * m - k == 0)) (by rw [h2]; rfl) ?_
  exact hp
theorem zz1 : zcond .eq (.inl (.int 1)) (.inl (.int 0)) = some false := by decide +kernel
theorem zz2 : zcond .ne (.inl (.int 1)) (.inl (.int 0)) = some true := by decide +kernel
theorem zt_suspect4 {r m k : Int32} {q : Nat} (hW : ∀ a b c : Int32, b.toInt ≤ a.toInt → a.toInt ≤ c.toInt → zTo cc 0 [.inl (.int a), .inl (.int b), .inl (.int c)] (.inl (.int 1))) (hS : zTo cc 66 [.inl (.int m), .inl (.int k)] (.inl (.int r)))
    (h1 : 1 ≤ m.toInt) (h2 : m.toInt ≤ 60) (h3 : 0 ≤ k.toInt) (h4 : k.toInt ≤ m.toInt) (hp : post (some (.inl (.int r))) h = true) : zrun zNf zdfl zslen zprog ze_X4_suspect scr 0 0 cc (fun _ _ => false) post 40 (0, zarg 0 [.inl (.ref q), .inl (.int m), .inl (.int k)], [], h, 0, 0) = true := by
  refine hW m (Int32.ofInt 1) (Int8.ofInt 60).toInt32 h1 h2 _ _ ?_
  refine hW k (Int32.ofInt 0) m h3 h4 _ _ ?_
  refine hS _ _ ?_
  exact hp
theorem zt_suspect5 {r m k : Int32} {q : Nat} (hW : ∀ a b c : Int64, b.toInt ≤ a.toInt → a.toInt ≤ c.toInt → zTo cc 1 [.inl (.long a), .inl (.long b), .inl (.long c)] (.inl (.int 1))) (hS : zTo cc 65 [.inl (.int m), .inl (.int k)] (.inl (.int r)))
    (h1 : 1 ≤ m.toInt) (h2 : m.toInt ≤ 60) (h3 : 0 ≤ k.toInt) (h4 : k.toInt ≤ m.toInt) (hp : post (some (.inl (.int r))) h = true) : zrun zNf zdfl zslen zprog ze_X5_suspect scr 0 0 cc (fun _ _ => false) post 40 (0, zarg 0 [.inl (.ref q), .inl (.int m), .inl (.int k)], [], h, 0, 0) = true := by
  refine hW m.toInt64 (Int64.ofNat 1) 60 (by rw [Int32.toInt_toInt64]; exact h1) (by rw [Int32.toInt_toInt64]; exact h2) _ _ ?_
  refine hW k.toInt64 (Int64.ofNat 0) m.toInt64 (by rw [Int32.toInt_toInt64]; exact h3) (by rw [Int32.toInt_toInt64, Int32.toInt_toInt64]; exact h4) _ _ ?_
  refine hS _ _ ?_
  exact hp
theorem zt_loop4 {m f : Int32} {mN q : Nat} (hm : m = Int32.ofNat mN) (hm60 : mN ≤ 60) (hS : ∀ k : Nat, k ≤ mN → zTo cc 66 [.inl (.int m), .inl (.int (Int32.ofNat k))] (.inl (.int (zq m (Int32.ofNat k))))) :
    ∀ (j k : Nat) (kx : Int32), kx = Int32.ofNat k → k + j = mN → post (some (.inl (.int (Int32.ofNat (zkf m f j k))))) h = true → zrun zNf zdfl zslen zprog ze_X4_sure scr 0 0 cc (fun _ _ => false) post (zfu 10 j) (29, [(3, .inl (.int kx)), (0, .inl (.ref q)), (1, .inl (.int m)), (2, .inl (.int f))], [], h, 0, 0) = true := by
  intro j
  induction j with
  | zero =>
    intro k kx hk hkm hp
    subst hk
    have e : k = mN := hkm
    subst e
    refine zbt (o := zcond .ge (.inl (.int (Int32.ofNat k))) (.inl (.int m))) (congrArg znot (zlt0 (by rw [hm]; exact Int.le_refl _))) ?_
    exact hp
  | succ j ih =>
    intro k kx hk hkm hp
    subst hk
    have a1 := zn_at k (by omega)
    have a2 := zn_at mN (by omega)
    refine zbf (o := zcond .ge (.inl (.int (Int32.ofNat k))) (.inl (.int m))) (congrArg znot (zlt1 (by rw [hm, a1.2.1, a2.2.1]; omega))) ?_
    refine hS k (by omega) _ _ ?_
    unfold zkf at hp
    by_cases hf : f.toInt ≤ (zq m (Int32.ofNat k)).toInt
    · rw [if_pos hf] at hp
      refine zbt (o := zcond .ge (.inl (.int (zq m (Int32.ofNat k)))) (.inl (.int f))) (congrArg znot (zlt0 hf)) ?_
      exact hp
    · rw [if_neg hf] at hp
      refine zbf (o := zcond .ge (.inl (.int (zq m (Int32.ofNat k)))) (.inl (.int f))) (congrArg znot (zlt1 (by omega))) ?_
      exact ih (k + 1) (Int32.ofNat k + Int32.ofInt 1) a1.2.2 (by omega) hp
theorem zt_loop5 {m f : Int32} {mN q : Nat} (hm : m = Int32.ofNat mN) (hm60 : mN ≤ 60) (hm1 : 1 ≤ mN) (hf6 : f.toInt ≤ 1000000) (hS : ∀ k : Nat, k ≤ mN → zTo cc 65 [.inl (.int m), .inl (.int (Int32.ofNat k))] (.inl (.int (zq m (Int32.ofNat k))))) :
    ∀ (j k : Nat) (kx : Int32), kx = Int32.ofNat k → k + j = mN → post (some (.inl (.int (Int32.ofNat (zkf m f j k))))) h = true → zrun zNf zdfl zslen zprog ze_X5_sure scr 0 0 cc (fun _ _ => false) post (zfu 7 j) (33, [(3, .inl (.int kx)), (0, .inl (.ref q)), (1, .inl (.int m)), (2, .inl (.int f))], [], h, 0, 0) = true := by
  intro j
  induction j with
  | zero =>
    intro k kx hk hkm hp
    subst hk
    have e : k = mN := hkm
    subst e
    refine hS k (Nat.le_refl _) _ _ ?_
    have a3 := (zq_at k (by omega) k (by omega) ⟨hm1, Nat.le_refl _⟩).2.2 rfl
    rw [← hm] at a3
    refine zbt (o := zcond .ge (.inl (.int (zq m (Int32.ofNat k)))) (.inl (.int f))) (congrArg znot (zlt0 (by rw [← hm, a3]; exact hf6))) ?_
    exact hp
  | succ j ih =>
    intro k kx hk hkm hp
    subst hk
    have a1 := zn_at k (by omega)
    refine hS k (by omega) _ _ ?_
    unfold zkf at hp
    by_cases hf : f.toInt ≤ (zq m (Int32.ofNat k)).toInt
    · rw [if_pos hf] at hp
      refine zbt (o := zcond .ge (.inl (.int (zq m (Int32.ofNat k)))) (.inl (.int f))) (congrArg znot (zlt0 hf)) ?_
      exact hp
    · rw [if_neg hf] at hp
      refine zbf (o := zcond .ge (.inl (.int (zq m (Int32.ofNat k)))) (.inl (.int f))) (congrArg znot (zlt1 (by omega))) ?_
      exact ih (k + 1) (Int32.ofNat k + Int32.ofInt 1) a1.2.2 (by omega) hp
theorem zt_sure4 {m f : Int32} {mN q : Nat} (hW : ∀ a b c : Int32, b.toInt ≤ a.toInt → a.toInt ≤ c.toInt → zTo cc 0 [.inl (.int a), .inl (.int b), .inl (.int c)] (.inl (.int 1))) (hm : m = Int32.ofNat mN) (hm60 : mN ≤ 60) (hm1 : 1 ≤ mN) (hf0 : 0 ≤ f.toInt) (hf6 : f.toInt ≤ 1000000) (hS : ∀ k : Nat, k ≤ mN → zTo cc 66 [.inl (.int m), .inl (.int (Int32.ofNat k))] (.inl (.int (zq m (Int32.ofNat k)))))
    (hp : post (some (.inl (.int (Int32.ofNat (zkf m f mN 0))))) h = true) : zrun zNf zdfl zslen zprog ze_X4_sure scr 0 0 cc (fun _ _ => false) post (zfu 10 mN + 12) (0, zarg 0 [.inl (.ref q), .inl (.int m), .inl (.int f)], [], h, 0, 0) = true := by
  have a2 := zn_at mN (by omega)
  have m1 : m.toInt = mN := by rw [hm]; exact a2.2.1
  refine hW m (Int32.ofInt 1) (Int8.ofInt 60).toInt32 (show (1 : Int) ≤ m.toInt by omega) (show m.toInt ≤ (60 : Int) by omega) _ _ ?_
  refine hW f (Int32.ofInt 0) 1000000 hf0 hf6 _ _ ?_
  exact zt_loop4 hm hm60 hS mN 0 _ rfl (Nat.zero_add _) hp
theorem zt_sure5 {m f : Int32} {mN q : Nat} (hW : ∀ a b c : Int64, b.toInt ≤ a.toInt → a.toInt ≤ c.toInt → zTo cc 1 [.inl (.long a), .inl (.long b), .inl (.long c)] (.inl (.int 1))) (hm : m = Int32.ofNat mN) (hm60 : mN ≤ 60) (hm1 : 1 ≤ mN) (hf0 : 0 ≤ f.toInt) (hf6 : f.toInt ≤ 1000000) (hS : ∀ k : Nat, k ≤ mN → zTo cc 65 [.inl (.int m), .inl (.int (Int32.ofNat k))] (.inl (.int (zq m (Int32.ofNat k)))))
    (hp : post (some (.inl (.int (Int32.ofNat (zkf m f mN 0))))) h = true) : zrun zNf zdfl zslen zprog ze_X5_sure scr 0 0 cc (fun _ _ => false) post (zfu 7 mN + 14) (0, zarg 0 [.inl (.ref q), .inl (.int m), .inl (.int f)], [], h, 0, 0) = true := by
  have a2 := zn_at mN (by omega)
  have m1 : m.toInt = mN := by rw [hm]; exact a2.2.1
  refine hW m.toInt64 (Int64.ofNat 1) 60 (by rw [Int32.toInt_toInt64]; exact (show (1 : Int) ≤ m.toInt by omega)) (by rw [Int32.toInt_toInt64]; exact (show m.toInt ≤ (60 : Int) by omega)) _ _ ?_
  refine hW f.toInt64 (Int64.ofNat 0) 1000000 (by rw [Int32.toInt_toInt64]; exact hf0) (by rw [Int32.toInt_toInt64]; exact hf6) _ _ ?_
  exact zt_loop5 hm hm60 hm1 hf6 hS mN 0 _ rfl (Nat.zero_add _) hp
end
theorem zfin_go {E : zE} {scr : List zV} {rc rs : Nat} {cc : zK} {fin : Nat → zS → Bool} {post : Option zV → zH → Bool} {n : Nat} {x : zS} (h : fin x.1 x = true) : zrun zNf zdfl zslen zprog E scr rc rs cc fin post (n + 1) x = true := by
  show (if fin x.1 x then true else _) = true
  rw [if_pos h]
section
variable {cc : zK} {fb : Bool} {post : Option zV → zH → Bool}
set_option maxRecDepth 20000 in
theorem zt_law32 {a b r : Int32} {P : zS → Bool} (hP : P (1663, zl0s, [], zh0, 79, 2750) = true) (h4 : zTo cc 83 [.inl (.ref 0), .inl (.int a), .inl (.int b)] (.inl (.int r))) (h5 : zTo cc 84 [.inl (.ref 49), .inl (.int a), .inl (.int b)] (.inl (.int r))) : zrun zNf zdfl zslen zprog ze_L_law (zscr [.inl (.int a), .inl (.int b)]) 600000 7302250 cc (fun pc x => Nat.beq pc 1663 && P x) post 40 (1193, zl0s, [], zh0, 79, 2750) = true := by
  refine h4 _ _ ?_
  refine h5 _ _ ?_
  refine zbt (o := zcond .eq (.inl (.int r)) (.inl (.int r))) (zeq_self r) ?_
  exact zfin_go (E := ze_L_law) (scr := zscr [.inl (.int a), .inl (.int b)]) (rc := 600000) (rs := 7302250) (cc := cc) (post := post) (n := 14) (fin := fun pc x => Nat.beq pc 1663 && P x) (x := (1663, zl0s, [], zh0, 79, 2750)) (zandi rfl hP)
set_option maxRecDepth 20000 in
theorem zt_law33 {a b r : Int32} {P : zS → Bool} (hP : P (1663, zl0s, [], zh0, 79, 2750) = true) (h4 : zTo cc 81 [.inl (.ref 0), .inl (.int a), .inl (.int b)] (.inl (.int r))) (h5 : zTo cc 82 [.inl (.ref 49), .inl (.int a), .inl (.int b)] (.inl (.int r))) : zrun zNf zdfl zslen zprog ze_L_law (zscr [.inl (.int a), .inl (.int b)]) 600000 7302250 cc (fun pc x => Nat.beq pc 1663 && P x) post 40 (1226, zl0s, [], zh0, 79, 2750) = true := by
  refine h4 _ _ ?_
  refine h5 _ _ ?_
  refine zbt (o := zcond .eq (.inl (.int r)) (.inl (.int r))) (zeq_self r) ?_
  exact zfin_go (E := ze_L_law) (scr := zscr [.inl (.int a), .inl (.int b)]) (rc := 600000) (rs := 7302250) (cc := cc) (post := post) (n := 14) (fin := fun pc x => Nat.beq pc 1663 && P x) (x := (1663, zl0s, [], zh0, 79, 2750)) (zandi rfl hP)
end
theorem zret_no {ret : Option FieldType} {i : Instr} {st : List zV} {h : zH} : ¬ zret ret i st h (fun _ _ => false) = true := by
  intro hr
  rcases zret_sp hr with ⟨v, -, -, -, hp⟩ | ⟨v, -, -, -, -, hp⟩ | ⟨v, n, -, -, -, -, hp⟩ | ⟨-, -, -, hp⟩ <;> exact Bool.false_ne_true hp
noncomputable def zcc (l : Launch) (scr : List zV) (adK adV : Nat → Nat) (ext : Nat → Option Nat) (D : va_G) (ct : Nat → ClassId) (d : Nat) : zK := fun j vs h post => @decide (zMet l zprog zst zTG zTN scr adK adV ext D ct d j vs h post) (Classical.propDecidable _)
section
variable {l : Launch} {scr : List zV} {adK adV : Nat → Nat} {ext : Nat → Option Nat} {D : va_G} {ct : Nat → ClassId} {d : Nat}
theorem zcc_of {j : Nat} {vs : List zV} {h : zH} {post : Option zV → zH → Bool} (H : zMet l zprog zst zTG zTN scr adK adV ext D ct d j vs h post) : zcc l scr adK adV ext D ct d j vs h post = true :=
  @decide_eq_true _ (Classical.propDecidable _) H
theorem zcc_met (j : Nat) (vs : List zV) (h : zH) (post : Option zV → zH → Bool) (H : zcc l scr adK adV ext D ct d j vs h post = true) : zMet l zprog zst zTG zTN scr adK adV ext D ct d j vs h post :=
  @of_decide_eq_true _ (Classical.propDecidable _) H
theorem z_sym {j : Nat} {E : zE} {vs : List zV} {h : zH} {post : Option zV → zH → Bool} {n : Nat} (hE : zprog j = some E) (hsum : zsum vs ≤ zEm E) (hz : zrun zNf zdfl zslen zprog E scr (zEc E) (zEs E) (zcc l scr adK adV ext D ct d) (fun _ _ => false) post n (0, zarg 0 vs, [], h, 0, 0) = true) : zcc l scr adK adV ext D ct (d + 1) j vs h post = true := by
  refine zcc_of ?_
  intro E' hE' ws sz argv hv hH
  have e : E = E' := Option.some.inj (hE.symm.trans hE')
  subst e
  exact z_met zGood_TG zTNok_TN z_okP z_uwsin (z_slen zGood_TG zTNok_TN z_slw z_uwsin d) z_eslw z_glob zcc_met hE hsum hz hv hH
theorem zc_isW (a b c : Int32) (h1 : b.toInt ≤ a.toInt) (h2 : a.toInt ≤ c.toInt) : zTo (zcc l scr adK adV ext D ct (d + 1)) 0 [.inl (.int a), .inl (.int b), .inl (.int c)] (.inl (.int 1)) := fun h post hp =>
  z_sym (E := ze_X4_isWithin) (n := 12) rfl (Nat.le_of_ble_eq_true rfl) (zt_isW h1 h2 hp)
theorem zc_in (a b c : Int64) (h1 : b.toInt ≤ a.toInt) (h2 : a.toInt ≤ c.toInt) : zTo (zcc l scr adK adV ext D ct (d + 1)) 1 [.inl (.long a), .inl (.long b), .inl (.long c)] (.inl (.int 1)) := fun h post hp =>
  z_sym (E := ze_X5_in) (n := 14) rfl (Nat.le_of_ble_eq_true rfl) (zt_in h1 h2 hp)
theorem zc_sureness {mN k : Nat} (h0 : mN ≤ 60) (h1 : 1 ≤ mN) (h2 : k ≤ mN) : zTo (zcc l scr adK adV ext D ct (d + 1)) 66 [.inl (.int (Int32.ofNat mN)), .inl (.int (Int32.ofNat k))] (.inl (.int (zq (Int32.ofNat mN) (Int32.ofNat k)))) := fun h post hp => by
  have a := zq_at mN (by omega) k (by omega) ⟨h1, h2⟩
  exact z_sym (E := ze_X4_sureness) (n := 20) rfl (Nat.le_of_ble_eq_true rfl) (zt_sureness a.1 a.2.1 hp)
theorem zc_suspected {mN k : Nat} (h0 : mN ≤ 60) (h1 : 1 ≤ mN) (h2 : k ≤ mN) : zTo (zcc l scr adK adV ext D ct (d + 1)) 65 [.inl (.int (Int32.ofNat mN)), .inl (.int (Int32.ofNat k))] (.inl (.int (zq (Int32.ofNat mN) (Int32.ofNat k)))) := fun h post hp => by
  have a := zq_at mN (by omega) k (by omega) ⟨h1, h2⟩
  exact z_sym (E := ze_X5_suspected) (n := 20) rfl (Nat.le_of_ble_eq_true rfl) (zt_suspected a.2.1 hp)
theorem zn_le {mN k : Nat} (h0 : mN ≤ 60) (h2 : k ≤ mN) : (Int32.ofNat k).toInt ≤ (Int32.ofNat mN).toInt ∧ 0 ≤ (Int32.ofNat k).toInt ∧ (Int32.ofNat mN).toInt ≤ 60 := by
  rw [(zn_at k (by omega)).2.1, (zn_at mN (by omega)).2.1]
  omega
theorem zn_ge {mN : Nat} (h0 : mN ≤ 60) (h1 : 1 ≤ mN) : 1 ≤ (Int32.ofNat mN).toInt := by
  rw [(zn_at mN (by omega)).2.1]
  omega
theorem zc_suspect4 {q mN k : Nat} (h0 : mN ≤ 60) (h1 : 1 ≤ mN) (h2 : k ≤ mN) : zTo (zcc l scr adK adV ext D ct (d + 2)) 83 [.inl (.ref q), .inl (.int (Int32.ofNat mN)), .inl (.int (Int32.ofNat k))] (.inl (.int (zq (Int32.ofNat mN) (Int32.ofNat k)))) := fun h post hp => by
  have a := zn_le h0 h2
  exact z_sym (E := ze_X4_suspect) (n := 40) rfl (Nat.le_of_ble_eq_true rfl) (zt_suspect4 zc_isW (zc_sureness h0 h1 h2) (zn_ge h0 h1) a.2.2 a.2.1 a.1 hp)
theorem zc_suspect5 {q mN k : Nat} (h0 : mN ≤ 60) (h1 : 1 ≤ mN) (h2 : k ≤ mN) : zTo (zcc l scr adK adV ext D ct (d + 2)) 84 [.inl (.ref q), .inl (.int (Int32.ofNat mN)), .inl (.int (Int32.ofNat k))] (.inl (.int (zq (Int32.ofNat mN) (Int32.ofNat k)))) := fun h post hp => by
  have a := zn_le h0 h2
  exact z_sym (E := ze_X5_suspect) (n := 40) rfl (Nat.le_of_ble_eq_true rfl) (zt_suspect5 zc_in (zc_suspected h0 h1 h2) (zn_ge h0 h1) a.2.2 a.2.1 a.1 hp)
theorem zc_sure4 {q mN : Nat} {f : Int32} (h0 : mN ≤ 60) (h1 : 1 ≤ mN) (hf0 : 0 ≤ f.toInt) (hf6 : f.toInt ≤ 1000000) : zTo (zcc l scr adK adV ext D ct (d + 2)) 81 [.inl (.ref q), .inl (.int (Int32.ofNat mN)), .inl (.int f)] (.inl (.int (Int32.ofNat (zkf (Int32.ofNat mN) f mN 0)))) := fun h post hp =>
  z_sym (E := ze_X4_sure) rfl (Nat.le_of_ble_eq_true rfl) (zt_sure4 zc_isW rfl h0 h1 hf0 hf6 (fun k hk => zc_sureness h0 h1 hk) hp)
theorem zc_sure5 {q mN : Nat} {f : Int32} (h0 : mN ≤ 60) (h1 : 1 ≤ mN) (hf0 : 0 ≤ f.toInt) (hf6 : f.toInt ≤ 1000000) : zTo (zcc l scr adK adV ext D ct (d + 2)) 82 [.inl (.ref q), .inl (.int (Int32.ofNat mN)), .inl (.int f)] (.inl (.int (Int32.ofNat (zkf (Int32.ofNat mN) f mN 0)))) := fun h post hp =>
  z_sym (E := ze_X5_sure) rfl (Nat.le_of_ble_eq_true rfl) (zt_sure5 zc_in rfl h0 h1 hf0 hf6 (fun k hk => zc_suspected h0 h1 hk) hp)
end
theorem zx1 : zop1 1193 (zscr [zmk (-2147483648) 0, zI0]) = true := by decide +kernel
theorem zx2 : zop1 1193 (zscr [zmk 61 2147483647, zI0]) = true := by decide +kernel
theorem zx3 : zop1 1193 (zscr [zmk 1 60, zmk (-2147483648) (-1)]) = true := by decide +kernel
theorem zx4 : ∀ i : Nat, i < 60 → zop1 1193 (zscr [zmk (i + 1) (i + 1), zmk (i + 2) 2147483647]) = true := by decide +kernel
theorem zx5 : zop1 1226 (zscr [zmk (-2147483648) 0, zI0]) = true := by decide +kernel
theorem zx6 : zop1 1226 (zscr [zmk 61 2147483647, zI0]) = true := by decide +kernel
theorem zx7 : zop1 1226 (zscr [zmk 1 60, zmk (-2147483648) (-1)]) = true := by decide +kernel
theorem zx8 : zop1 1226 (zscr [zmk 1 60, zmk 1000001 2147483647]) = true := by decide +kernel
section
variable {p : Program} {l : Launch} {e : Env} {s : State} {m : MethodId} {below : List Frame} {meth : Method} {c : Code} {b : Nat} {D : va_G} {ct : Nat → ClassId} {adK adV : Nat → Nat}
theorem z_two {v w : zV} {xs : Nat → Int32} (h1 : zisI v = true ∧ zg (fun _ => none) v (.int (xs 1))) (h2 : zisI w = true ∧ zg (fun _ => none) w (.int (xs 2))) : ∀ (j : Nat) (u : zV), [v, w][j]? = some u → zisI u = true ∧ zg (fun _ => none) u (.int (xs (j + 1)))
  | 0, u, h => by cases h; exact h1
  | 1, u, h => by cases h; exact h2
  | j + 2, u, h => by simp at h
theorem z_iv {lo hi : Int} {x : Int32} (h1 : lo ≤ x.toInt) (h2 : x.toInt ≤ hi) : zisI (zmk lo hi) = true ∧ zg (fun _ => none) (zmk lo hi) (.int x) := ⟨zmk_I _ _, zmk_g h1 h2⟩
theorem z_xx (x : Int32) : zisI (.inl (.int x)) = true ∧ zg (fun _ => none) (.inl (.int x)) (.int x) := ⟨rfl, rfl⟩
theorem z_x0 (x : Int32) : zisI zI0 = true ∧ zg (fun _ => none) zI0 (.int x) := ⟨rfl, zg_I0 _ _⟩
theorem z_opg1 {xs : Nat → Int32} (C0 : lw_At p s m meth c b 6 xs) (hK : va_K D vwCl (ztys ct) s) (hN : ∀ w ∈ zTN, va_Nw w s) (hO : va_AO RX0 s) (hO1 : va_AOA .long s) (hO2 : va_AOA .int s)
    (hFs : ∀ (scr : List zV) (xs : Nat → Int32), va_X b scr.length xs s s.heap → (∀ (j : Nat) (v : zV), scr[j]? = some v → zisI v = true ∧ zg (fun _ => none) v (.int (xs j))) → zFacts zst scr adK adV (zext b adK) (fun q : Nat => s.heap.size ≤ q) s s.heap)
    {v w : zV} {tg : Nat} (hz : zop1 tg (zscr [v, w]) = true) (h1 : zisI v = true ∧ zg (fun _ => none) v (.int (xs 1))) (h2 : zisI w = true ∧ zg (fun _ => none) w (.int (xs 2))) : zGL p l e s m below meth c b D ct adK (tg, zl0s, [], zh0, 79, 2750) := by
  obtain ⟨h4, h5⟩ := zscr_rel (t := [v, w]) (xs := xs) (Nat.le_of_ble_eq_true rfl) (z_two h1 h2)
  have hX : va_X b (zscr [v, w]).length xs s s.heap := by
    rw [h4]
    exact C0.2.2.2.2.2.2.1
  exact z_lawrun C0 (z_lawcx C0 hK hN hO hO1 hO2 (hFs (zscr [v, w]) xs hX h5)) (fun x hx => absurd hx Bool.false_ne_true) (fun x i h => h) 2000 _ hz
theorem z_opsym {xs : Nat → Int32} (C0 : lw_At p s m meth c b 6 xs) (hK : va_K D vwCl (ztys ct) s) (hN : ∀ w ∈ zTN, va_Nw w s) (hO : va_AO RX0 s) (hO1 : va_AOA .long s) (hO2 : va_AOA .int s)
    (hFs : ∀ (scr : List zV) (xs : Nat → Int32), va_X b scr.length xs s s.heap → (∀ (j : Nat) (v : zV), scr[j]? = some v → zisI v = true ∧ zg (fun _ => none) v (.int (xs j))) → zFacts zst scr adK adV (zext b adK) (fun q : Nat => s.heap.size ≤ q) s s.heap)
    (h52 : zGL p l e s m below meth c b D ct adK (1663, zl0s, [], zh0, 79, 2750)) {tg : Nat}
    (hz : ∀ P : zS → Bool, P (1663, zl0s, [], zh0, 79, 2750) = true → zrun zNf zdfl zslen zprog ze_L_law (zscr [.inl (.int (xs 1)), .inl (.int (xs 2))]) 600000 7302250 (zcc l (zscr [.inl (.int (xs 1)), .inl (.int (xs 2))]) adK adV (zext b adK) D ct 10) (fun pc x => Nat.beq pc 1663 && P x) (fun _ _ => false) 40 (tg, zl0s, [], zh0, 79, 2750) = true) :
    zGL p l e s m below meth c b D ct adK (tg, zl0s, [], zh0, 79, 2750) := by
  obtain ⟨h4, h5⟩ := zscr_rel (t := [.inl (.int (xs 1)), .inl (.int (xs 2))]) (xs := xs) (Nat.le_of_ble_eq_true rfl) (z_two (z_xx _) (z_xx _))
  have hX : va_X b (zscr [.inl (.int (xs 1)), .inl (.int (xs 2))]).length xs s s.heap := by
    rw [h4]
    exact C0.2.2.2.2.2.2.1
  have C := z_lawcx C0 hK hN hO hO1 hO2 (hFs _ xs hX h5)
  exact zrun_sound C zGood_TG zTNok_TN z_okP (z_slen zGood_TG zTNok_TN z_slw z_uwsin 10) z_eslw z_glob zcc_met (fin := fun pc x => Nat.beq pc 1663 && @decide (zGL p l e s m below meth c b D ct adK x) (Classical.propDecidable _)) (post := fun _ _ => false)
    (fun x hx => @of_decide_eq_true _ (Classical.propDecidable _) (z_and hx).2) (fun x i _ _ hr => absurd hr zret_no) 40 _ (hz _ (@decide_eq_true _ (Classical.propDecidable _) h52))
theorem z_op32 {xs : Nat → Int32} (C0 : lw_At p s m meth c b 6 xs) (hK : va_K D vwCl (ztys ct) s) (hN : ∀ w ∈ zTN, va_Nw w s) (hO : va_AO RX0 s) (hO1 : va_AOA .long s) (hO2 : va_AOA .int s)
    (hFs : ∀ (scr : List zV) (xs : Nat → Int32), va_X b scr.length xs s s.heap → (∀ (j : Nat) (v : zV), scr[j]? = some v → zisI v = true ∧ zg (fun _ => none) v (.int (xs j))) → zFacts zst scr adK adV (zext b adK) (fun q : Nat => s.heap.size ≤ q) s s.heap)
    (h52 : zGL p l e s m below meth c b D ct adK (1663, zl0s, [], zh0, 79, 2750)) : zGL p l e s m below meth c b D ct adK (1193, zl0s, [], zh0, 79, 2750) := by
  have r1 := z_i32 (xs 1)
  have r2 := z_i32 (xs 2)
  by_cases a1 : (xs 1).toInt ≤ 0
  · exact z_opg1 C0 hK hN hO hO1 hO2 hFs zx1 (z_iv r1.1 a1) (z_x0 _)
  by_cases a2 : 61 ≤ (xs 1).toInt
  · exact z_opg1 C0 hK hN hO hO1 hO2 hFs zx2 (z_iv a2 r1.2) (z_x0 _)
  by_cases a3 : (xs 2).toInt ≤ -1
  · exact z_opg1 C0 hK hN hO hO1 hO2 hFs zx3 (z_iv (by omega) (by omega)) (z_iv r2.1 a3)
  obtain ⟨mN, b1, b2⟩ := zn_of (x := xs 1) (by omega) (by omega)
  have b3 : (xs 1).toInt = mN := by rw [b2]; exact (zn_at mN (by omega)).2.1
  by_cases a4 : (xs 1).toInt < (xs 2).toInt
  · exact z_opg1 C0 hK hN hO hO1 hO2 hFs (zx4 (mN - 1) (by omega)) (z_iv (by omega) (by omega)) (z_iv (by omega) r2.2)
  obtain ⟨k, b4, b5⟩ := zn_of (x := xs 2) (by omega) (by omega)
  have b6 : (xs 2).toInt = k := by rw [b5]; exact (zn_at k (by omega)).2.1
  refine z_opsym C0 hK hN hO hO1 hO2 hFs h52 (fun P hP => ?_)
  rw [b2, b5]
  exact zt_law32 hP (zc_suspect4 b1 (by omega) (by omega)) (zc_suspect5 b1 (by omega) (by omega))
theorem z_op33 {xs : Nat → Int32} (C0 : lw_At p s m meth c b 6 xs) (hK : va_K D vwCl (ztys ct) s) (hN : ∀ w ∈ zTN, va_Nw w s) (hO : va_AO RX0 s) (hO1 : va_AOA .long s) (hO2 : va_AOA .int s)
    (hFs : ∀ (scr : List zV) (xs : Nat → Int32), va_X b scr.length xs s s.heap → (∀ (j : Nat) (v : zV), scr[j]? = some v → zisI v = true ∧ zg (fun _ => none) v (.int (xs j))) → zFacts zst scr adK adV (zext b adK) (fun q : Nat => s.heap.size ≤ q) s s.heap)
    (h52 : zGL p l e s m below meth c b D ct adK (1663, zl0s, [], zh0, 79, 2750)) : zGL p l e s m below meth c b D ct adK (1226, zl0s, [], zh0, 79, 2750) := by
  have r1 := z_i32 (xs 1)
  have r2 := z_i32 (xs 2)
  by_cases a1 : (xs 1).toInt ≤ 0
  · exact z_opg1 C0 hK hN hO hO1 hO2 hFs zx5 (z_iv r1.1 a1) (z_x0 _)
  by_cases a2 : 61 ≤ (xs 1).toInt
  · exact z_opg1 C0 hK hN hO hO1 hO2 hFs zx6 (z_iv a2 r1.2) (z_x0 _)
  by_cases a3 : (xs 2).toInt ≤ -1
  · exact z_opg1 C0 hK hN hO hO1 hO2 hFs zx7 (z_iv (by omega) (by omega)) (z_iv r2.1 a3)
  by_cases a4 : 1000001 ≤ (xs 2).toInt
  · exact z_opg1 C0 hK hN hO hO1 hO2 hFs zx8 (z_iv (by omega) (by omega)) (z_iv a4 r2.2)
  obtain ⟨mN, b1, b2⟩ := zn_of (x := xs 1) (by omega) (by omega)
  have b3 : (xs 1).toInt = mN := by rw [b2]; exact (zn_at mN (by omega)).2.1
  refine z_opsym C0 hK hN hO hO1 hO2 hFs h52 (fun P hP => ?_)
  rw [b2]
  exact zt_law33 hP (zc_sure4 b1 (by omega) (by omega) (by omega)) (zc_sure5 b1 (by omega) (by omega) (by omega))
end
