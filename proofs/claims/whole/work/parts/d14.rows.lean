theorem mkC_r2 {rd : Nat → Nat → Int32} {jj : Int64} {t : Nat} {x : Int32} (ht : t < (rd 0 8).toNatClampNeg) : mkC (upR rd 1 t x) jj = uS (mkC rd jj) 2 t x := by
  funext c k
  match c with
  | 0 => rfl
  | 1 => rfl
  | 2 =>
    show (if k < (rd 0 8).toNatClampNeg then (if 1 = 1 ∧ k = t then x else rd 1 k) else 0) = (if 2 = 2 ∧ k = t then x else (if k < (rd 0 8).toNatClampNeg then rd 1 k else 0))
    by_cases e : k = t
    · subst e
      simp [ht]
    · simp [e]
  | 3 => rfl
  | 4 => rfl
  | 5 => rfl
  | 6 => rfl
  | 7 => rfl
  | 8 => rfl
  | _ + 9 => rfl
theorem mkC_o2 {rd : Nat → Nat → Int32} {jj : Int64} {t : Nat} {x : Int32} (ht : ¬ t < (rd 0 8).toNatClampNeg) : mkC (upR rd 1 t x) jj = mkC rd jj := by
  funext c k
  match c with
  | 0 => rfl
  | 1 => rfl
  | 2 =>
    show (if k < (rd 0 8).toNatClampNeg then (if 1 = 1 ∧ k = t then x else rd 1 k) else 0) = (if k < (rd 0 8).toNatClampNeg then rd 1 k else 0)
    by_cases e : k < (rd 0 8).toNatClampNeg
    · have hk : ¬ k = t := by omega
      simp [hk]
    · simp [e]
  | 3 => rfl
  | 4 => rfl
  | 5 => rfl
  | 6 => rfl
  | 7 => rfl
  | 8 => rfl
  | _ + 9 => rfl
theorem mkC_r3 {rd : Nat → Nat → Int32} {jj : Int64} {t : Nat} {x : Int32} (ht : t < (rd 0 8).toNatClampNeg) : mkC (upR rd 2 t x) jj = uS (mkC rd jj) 3 t x := by
  funext c k
  match c with
  | 0 => rfl
  | 1 => rfl
  | 2 => rfl
  | 3 =>
    show (if k < (rd 0 8).toNatClampNeg then (if 2 = 2 ∧ k = t then x else rd 2 k) else 0) = (if 3 = 3 ∧ k = t then x else (if k < (rd 0 8).toNatClampNeg then rd 2 k else 0))
    by_cases e : k = t
    · subst e
      simp [ht]
    · simp [e]
  | 4 => rfl
  | 5 => rfl
  | 6 => rfl
  | 7 => rfl
  | 8 => rfl
  | _ + 9 => rfl
theorem mkC_o3 {rd : Nat → Nat → Int32} {jj : Int64} {t : Nat} {x : Int32} (ht : ¬ t < (rd 0 8).toNatClampNeg) : mkC (upR rd 2 t x) jj = mkC rd jj := by
  funext c k
  match c with
  | 0 => rfl
  | 1 => rfl
  | 2 => rfl
  | 3 =>
    show (if k < (rd 0 8).toNatClampNeg then (if 2 = 2 ∧ k = t then x else rd 2 k) else 0) = (if k < (rd 0 8).toNatClampNeg then rd 2 k else 0)
    by_cases e : k < (rd 0 8).toNatClampNeg
    · have hk : ¬ k = t := by omega
      simp [hk]
    · simp [e]
  | 4 => rfl
  | 5 => rfl
  | 6 => rfl
  | 7 => rfl
  | 8 => rfl
  | _ + 9 => rfl
theorem mkC_r4 {rd : Nat → Nat → Int32} {jj : Int64} {t : Nat} {x : Int32} (ht : t < (rd 0 8).toNatClampNeg) : mkC (upR rd 3 t x) jj = uS (mkC rd jj) 4 t x := by
  funext c k
  match c with
  | 0 => rfl
  | 1 => rfl
  | 2 => rfl
  | 3 => rfl
  | 4 =>
    show (if k < (rd 0 8).toNatClampNeg then (if 3 = 3 ∧ k = t then x else rd 3 k) else 0) = (if 4 = 4 ∧ k = t then x else (if k < (rd 0 8).toNatClampNeg then rd 3 k else 0))
    by_cases e : k = t
    · subst e
      simp [ht]
    · simp [e]
  | 5 => rfl
  | 6 => rfl
  | 7 => rfl
  | 8 => rfl
  | _ + 9 => rfl
theorem mkC_o4 {rd : Nat → Nat → Int32} {jj : Int64} {t : Nat} {x : Int32} (ht : ¬ t < (rd 0 8).toNatClampNeg) : mkC (upR rd 3 t x) jj = mkC rd jj := by
  funext c k
  match c with
  | 0 => rfl
  | 1 => rfl
  | 2 => rfl
  | 3 => rfl
  | 4 =>
    show (if k < (rd 0 8).toNatClampNeg then (if 3 = 3 ∧ k = t then x else rd 3 k) else 0) = (if k < (rd 0 8).toNatClampNeg then rd 3 k else 0)
    by_cases e : k < (rd 0 8).toNatClampNeg
    · have hk : ¬ k = t := by omega
      simp [hk]
    · simp [e]
  | 5 => rfl
  | 6 => rfl
  | 7 => rfl
  | 8 => rfl
  | _ + 9 => rfl
theorem mkC_r5 {rd : Nat → Nat → Int32} {jj : Int64} {t : Nat} {x : Int32} (ht : t < (rd 0 8).toNatClampNeg) : mkC (upR rd 4 t x) jj = uS (mkC rd jj) 5 t x := by
  funext c k
  match c with
  | 0 => rfl
  | 1 => rfl
  | 2 => rfl
  | 3 => rfl
  | 4 => rfl
  | 5 =>
    show (if k < (rd 0 8).toNatClampNeg then (if 4 = 4 ∧ k = t then x else rd 4 k) else 0) = (if 5 = 5 ∧ k = t then x else (if k < (rd 0 8).toNatClampNeg then rd 4 k else 0))
    by_cases e : k = t
    · subst e
      simp [ht]
    · simp [e]
  | 6 => rfl
  | 7 => rfl
  | 8 => rfl
  | _ + 9 => rfl
theorem mkC_o5 {rd : Nat → Nat → Int32} {jj : Int64} {t : Nat} {x : Int32} (ht : ¬ t < (rd 0 8).toNatClampNeg) : mkC (upR rd 4 t x) jj = mkC rd jj := by
  funext c k
  match c with
  | 0 => rfl
  | 1 => rfl
  | 2 => rfl
  | 3 => rfl
  | 4 => rfl
  | 5 =>
    show (if k < (rd 0 8).toNatClampNeg then (if 4 = 4 ∧ k = t then x else rd 4 k) else 0) = (if k < (rd 0 8).toNatClampNeg then rd 4 k else 0)
    by_cases e : k < (rd 0 8).toNatClampNeg
    · have hk : ¬ k = t := by omega
      simp [hk]
    · simp [e]
  | 6 => rfl
  | 7 => rfl
  | 8 => rfl
  | _ + 9 => rfl
theorem mkC_r6 {rd : Nat → Nat → Int32} {jj : Int64} {t : Nat} {x : Int32} (ht : t < (rd 0 8).toNatClampNeg) : mkC (upR rd 5 t x) jj = uS (mkC rd jj) 6 t x := by
  funext c k
  match c with
  | 0 => rfl
  | 1 => rfl
  | 2 => rfl
  | 3 => rfl
  | 4 => rfl
  | 5 => rfl
  | 6 =>
    show (if k < (rd 0 8).toNatClampNeg then (if 5 = 5 ∧ k = t then x else rd 5 k) else 0) = (if 6 = 6 ∧ k = t then x else (if k < (rd 0 8).toNatClampNeg then rd 5 k else 0))
    by_cases e : k = t
    · subst e
      simp [ht]
    · simp [e]
  | 7 => rfl
  | 8 => rfl
  | _ + 9 => rfl
theorem mkC_o6 {rd : Nat → Nat → Int32} {jj : Int64} {t : Nat} {x : Int32} (ht : ¬ t < (rd 0 8).toNatClampNeg) : mkC (upR rd 5 t x) jj = mkC rd jj := by
  funext c k
  match c with
  | 0 => rfl
  | 1 => rfl
  | 2 => rfl
  | 3 => rfl
  | 4 => rfl
  | 5 => rfl
  | 6 =>
    show (if k < (rd 0 8).toNatClampNeg then (if 5 = 5 ∧ k = t then x else rd 5 k) else 0) = (if k < (rd 0 8).toNatClampNeg then rd 5 k else 0)
    by_cases e : k < (rd 0 8).toNatClampNeg
    · have hk : ¬ k = t := by omega
      simp [hk]
    · simp [e]
  | 7 => rfl
  | 8 => rfl
  | _ + 9 => rfl
theorem mkC_r7 {rd : Nat → Nat → Int32} {jj : Int64} {t : Nat} {x : Int32} (ht : t < (rd 0 14).toNatClampNeg) : mkC (upR rd 6 t x) jj = uS (mkC rd jj) 7 t x := by
  funext c k
  match c with
  | 0 => rfl
  | 1 => rfl
  | 2 => rfl
  | 3 => rfl
  | 4 => rfl
  | 5 => rfl
  | 6 => rfl
  | 7 =>
    show (if k < (rd 0 14).toNatClampNeg then (if 6 = 6 ∧ k = t then x else rd 6 k) else 0) = (if 7 = 7 ∧ k = t then x else (if k < (rd 0 14).toNatClampNeg then rd 6 k else 0))
    by_cases e : k = t
    · subst e
      simp [ht]
    · simp [e]
  | 8 => rfl
  | _ + 9 => rfl
theorem mkC_o7 {rd : Nat → Nat → Int32} {jj : Int64} {t : Nat} {x : Int32} (ht : ¬ t < (rd 0 14).toNatClampNeg) : mkC (upR rd 6 t x) jj = mkC rd jj := by
  funext c k
  match c with
  | 0 => rfl
  | 1 => rfl
  | 2 => rfl
  | 3 => rfl
  | 4 => rfl
  | 5 => rfl
  | 6 => rfl
  | 7 =>
    show (if k < (rd 0 14).toNatClampNeg then (if 6 = 6 ∧ k = t then x else rd 6 k) else 0) = (if k < (rd 0 14).toNatClampNeg then rd 6 k else 0)
    by_cases e : k < (rd 0 14).toNatClampNeg
    · have hk : ¬ k = t := by omega
      simp [hk]
    · simp [e]
  | 8 => rfl
  | _ + 9 => rfl
theorem mkR_r2 {rd : Nat → Nat → Int32} {t : Nat} {x : Int32} (ht : t < (rd 0 17).toNatClampNeg) : mkR (upR rd 18 t x) = uS (mkR rd) 2 t x := by
  funext c k
  match c with
  | 0 => rfl
  | 1 => rfl
  | 2 =>
    show (if k < (rd 0 17).toNatClampNeg then (if 18 = 18 ∧ k = t then x else rd 18 k) else 0) = (if 2 = 2 ∧ k = t then x else (if k < (rd 0 17).toNatClampNeg then rd 18 k else 0))
    by_cases e : k = t
    · subst e
      simp [ht]
    · simp [e]
  | 3 => rfl
  | 4 => rfl
  | 5 => rfl
  | 6 => rfl
  | 7 => rfl
  | 8 =>
    show (if k % 8 < (rd 0 17).toNatClampNeg ∧ k / 8 < (rd 0 23).toNatClampNeg then (if 25 + k / 8 = 18 ∧ k % 8 = t then x else rd (25 + k / 8) (k % 8)) else 0) = (if k % 8 < (rd 0 17).toNatClampNeg ∧ k / 8 < (rd 0 23).toNatClampNeg then rd (25 + k / 8) (k % 8) else 0)
    have hk : ¬ (25 + k / 8 = 18 ∧ k % 8 = t) := fun y => by omega
    simp only [hk, if_false]
  | _ + 9 => rfl
theorem mkR_o2 {rd : Nat → Nat → Int32} {t : Nat} {x : Int32} (ht : ¬ t < (rd 0 17).toNatClampNeg) : mkR (upR rd 18 t x) = mkR rd := by
  funext c k
  match c with
  | 0 => rfl
  | 1 => rfl
  | 2 =>
    show (if k < (rd 0 17).toNatClampNeg then (if 18 = 18 ∧ k = t then x else rd 18 k) else 0) = (if k < (rd 0 17).toNatClampNeg then rd 18 k else 0)
    by_cases e : k < (rd 0 17).toNatClampNeg
    · have hk : ¬ k = t := by omega
      simp [hk]
    · simp [e]
  | 3 => rfl
  | 4 => rfl
  | 5 => rfl
  | 6 => rfl
  | 7 => rfl
  | 8 =>
    show (if k % 8 < (rd 0 17).toNatClampNeg ∧ k / 8 < (rd 0 23).toNatClampNeg then (if 25 + k / 8 = 18 ∧ k % 8 = t then x else rd (25 + k / 8) (k % 8)) else 0) = (if k % 8 < (rd 0 17).toNatClampNeg ∧ k / 8 < (rd 0 23).toNatClampNeg then rd (25 + k / 8) (k % 8) else 0)
    have hk : ¬ (25 + k / 8 = 18 ∧ k % 8 = t) := fun y => by omega
    simp only [hk, if_false]
  | _ + 9 => rfl
theorem mkR_r3 {rd : Nat → Nat → Int32} {t : Nat} {x : Int32} (ht : t < (rd 0 17).toNatClampNeg) : mkR (upR rd 19 t x) = uS (mkR rd) 3 t x := by
  funext c k
  match c with
  | 0 => rfl
  | 1 => rfl
  | 2 => rfl
  | 3 =>
    show (if k < (rd 0 17).toNatClampNeg then (if 19 = 19 ∧ k = t then x else rd 19 k) else 0) = (if 3 = 3 ∧ k = t then x else (if k < (rd 0 17).toNatClampNeg then rd 19 k else 0))
    by_cases e : k = t
    · subst e
      simp [ht]
    · simp [e]
  | 4 => rfl
  | 5 => rfl
  | 6 => rfl
  | 7 => rfl
  | 8 =>
    show (if k % 8 < (rd 0 17).toNatClampNeg ∧ k / 8 < (rd 0 23).toNatClampNeg then (if 25 + k / 8 = 19 ∧ k % 8 = t then x else rd (25 + k / 8) (k % 8)) else 0) = (if k % 8 < (rd 0 17).toNatClampNeg ∧ k / 8 < (rd 0 23).toNatClampNeg then rd (25 + k / 8) (k % 8) else 0)
    have hk : ¬ (25 + k / 8 = 19 ∧ k % 8 = t) := fun y => by omega
    simp only [hk, if_false]
  | _ + 9 => rfl
theorem mkR_o3 {rd : Nat → Nat → Int32} {t : Nat} {x : Int32} (ht : ¬ t < (rd 0 17).toNatClampNeg) : mkR (upR rd 19 t x) = mkR rd := by
  funext c k
  match c with
  | 0 => rfl
  | 1 => rfl
  | 2 => rfl
  | 3 =>
    show (if k < (rd 0 17).toNatClampNeg then (if 19 = 19 ∧ k = t then x else rd 19 k) else 0) = (if k < (rd 0 17).toNatClampNeg then rd 19 k else 0)
    by_cases e : k < (rd 0 17).toNatClampNeg
    · have hk : ¬ k = t := by omega
      simp [hk]
    · simp [e]
  | 4 => rfl
  | 5 => rfl
  | 6 => rfl
  | 7 => rfl
  | 8 =>
    show (if k % 8 < (rd 0 17).toNatClampNeg ∧ k / 8 < (rd 0 23).toNatClampNeg then (if 25 + k / 8 = 19 ∧ k % 8 = t then x else rd (25 + k / 8) (k % 8)) else 0) = (if k % 8 < (rd 0 17).toNatClampNeg ∧ k / 8 < (rd 0 23).toNatClampNeg then rd (25 + k / 8) (k % 8) else 0)
    have hk : ¬ (25 + k / 8 = 19 ∧ k % 8 = t) := fun y => by omega
    simp only [hk, if_false]
  | _ + 9 => rfl
theorem mkR_r4 {rd : Nat → Nat → Int32} {t : Nat} {x : Int32} (ht : t < (rd 0 17).toNatClampNeg) : mkR (upR rd 20 t x) = uS (mkR rd) 4 t x := by
  funext c k
  match c with
  | 0 => rfl
  | 1 => rfl
  | 2 => rfl
  | 3 => rfl
  | 4 =>
    show (if k < (rd 0 17).toNatClampNeg then (if 20 = 20 ∧ k = t then x else rd 20 k) else 0) = (if 4 = 4 ∧ k = t then x else (if k < (rd 0 17).toNatClampNeg then rd 20 k else 0))
    by_cases e : k = t
    · subst e
      simp [ht]
    · simp [e]
  | 5 => rfl
  | 6 => rfl
  | 7 => rfl
  | 8 =>
    show (if k % 8 < (rd 0 17).toNatClampNeg ∧ k / 8 < (rd 0 23).toNatClampNeg then (if 25 + k / 8 = 20 ∧ k % 8 = t then x else rd (25 + k / 8) (k % 8)) else 0) = (if k % 8 < (rd 0 17).toNatClampNeg ∧ k / 8 < (rd 0 23).toNatClampNeg then rd (25 + k / 8) (k % 8) else 0)
    have hk : ¬ (25 + k / 8 = 20 ∧ k % 8 = t) := fun y => by omega
    simp only [hk, if_false]
  | _ + 9 => rfl
theorem mkR_o4 {rd : Nat → Nat → Int32} {t : Nat} {x : Int32} (ht : ¬ t < (rd 0 17).toNatClampNeg) : mkR (upR rd 20 t x) = mkR rd := by
  funext c k
  match c with
  | 0 => rfl
  | 1 => rfl
  | 2 => rfl
  | 3 => rfl
  | 4 =>
    show (if k < (rd 0 17).toNatClampNeg then (if 20 = 20 ∧ k = t then x else rd 20 k) else 0) = (if k < (rd 0 17).toNatClampNeg then rd 20 k else 0)
    by_cases e : k < (rd 0 17).toNatClampNeg
    · have hk : ¬ k = t := by omega
      simp [hk]
    · simp [e]
  | 5 => rfl
  | 6 => rfl
  | 7 => rfl
  | 8 =>
    show (if k % 8 < (rd 0 17).toNatClampNeg ∧ k / 8 < (rd 0 23).toNatClampNeg then (if 25 + k / 8 = 20 ∧ k % 8 = t then x else rd (25 + k / 8) (k % 8)) else 0) = (if k % 8 < (rd 0 17).toNatClampNeg ∧ k / 8 < (rd 0 23).toNatClampNeg then rd (25 + k / 8) (k % 8) else 0)
    have hk : ¬ (25 + k / 8 = 20 ∧ k % 8 = t) := fun y => by omega
    simp only [hk, if_false]
  | _ + 9 => rfl
theorem mkR_r5 {rd : Nat → Nat → Int32} {t : Nat} {x : Int32} (ht : t < (rd 0 17).toNatClampNeg) : mkR (upR rd 21 t x) = uS (mkR rd) 5 t x := by
  funext c k
  match c with
  | 0 => rfl
  | 1 => rfl
  | 2 => rfl
  | 3 => rfl
  | 4 => rfl
  | 5 =>
    show (if k < (rd 0 17).toNatClampNeg then (if 21 = 21 ∧ k = t then x else rd 21 k) else 0) = (if 5 = 5 ∧ k = t then x else (if k < (rd 0 17).toNatClampNeg then rd 21 k else 0))
    by_cases e : k = t
    · subst e
      simp [ht]
    · simp [e]
  | 6 => rfl
  | 7 => rfl
  | 8 =>
    show (if k % 8 < (rd 0 17).toNatClampNeg ∧ k / 8 < (rd 0 23).toNatClampNeg then (if 25 + k / 8 = 21 ∧ k % 8 = t then x else rd (25 + k / 8) (k % 8)) else 0) = (if k % 8 < (rd 0 17).toNatClampNeg ∧ k / 8 < (rd 0 23).toNatClampNeg then rd (25 + k / 8) (k % 8) else 0)
    have hk : ¬ (25 + k / 8 = 21 ∧ k % 8 = t) := fun y => by omega
    simp only [hk, if_false]
  | _ + 9 => rfl
theorem mkR_o5 {rd : Nat → Nat → Int32} {t : Nat} {x : Int32} (ht : ¬ t < (rd 0 17).toNatClampNeg) : mkR (upR rd 21 t x) = mkR rd := by
  funext c k
  match c with
  | 0 => rfl
  | 1 => rfl
  | 2 => rfl
  | 3 => rfl
  | 4 => rfl
  | 5 =>
    show (if k < (rd 0 17).toNatClampNeg then (if 21 = 21 ∧ k = t then x else rd 21 k) else 0) = (if k < (rd 0 17).toNatClampNeg then rd 21 k else 0)
    by_cases e : k < (rd 0 17).toNatClampNeg
    · have hk : ¬ k = t := by omega
      simp [hk]
    · simp [e]
  | 6 => rfl
  | 7 => rfl
  | 8 =>
    show (if k % 8 < (rd 0 17).toNatClampNeg ∧ k / 8 < (rd 0 23).toNatClampNeg then (if 25 + k / 8 = 21 ∧ k % 8 = t then x else rd (25 + k / 8) (k % 8)) else 0) = (if k % 8 < (rd 0 17).toNatClampNeg ∧ k / 8 < (rd 0 23).toNatClampNeg then rd (25 + k / 8) (k % 8) else 0)
    have hk : ¬ (25 + k / 8 = 21 ∧ k % 8 = t) := fun y => by omega
    simp only [hk, if_false]
  | _ + 9 => rfl
theorem mkR_r6 {rd : Nat → Nat → Int32} {t : Nat} {x : Int32} (ht : t < (rd 0 17).toNatClampNeg) : mkR (upR rd 22 t x) = uS (mkR rd) 6 t x := by
  funext c k
  match c with
  | 0 => rfl
  | 1 => rfl
  | 2 => rfl
  | 3 => rfl
  | 4 => rfl
  | 5 => rfl
  | 6 =>
    show (if k < (rd 0 17).toNatClampNeg then (if 22 = 22 ∧ k = t then x else rd 22 k) else 0) = (if 6 = 6 ∧ k = t then x else (if k < (rd 0 17).toNatClampNeg then rd 22 k else 0))
    by_cases e : k = t
    · subst e
      simp [ht]
    · simp [e]
  | 7 => rfl
  | 8 =>
    show (if k % 8 < (rd 0 17).toNatClampNeg ∧ k / 8 < (rd 0 23).toNatClampNeg then (if 25 + k / 8 = 22 ∧ k % 8 = t then x else rd (25 + k / 8) (k % 8)) else 0) = (if k % 8 < (rd 0 17).toNatClampNeg ∧ k / 8 < (rd 0 23).toNatClampNeg then rd (25 + k / 8) (k % 8) else 0)
    have hk : ¬ (25 + k / 8 = 22 ∧ k % 8 = t) := fun y => by omega
    simp only [hk, if_false]
  | _ + 9 => rfl
theorem mkR_o6 {rd : Nat → Nat → Int32} {t : Nat} {x : Int32} (ht : ¬ t < (rd 0 17).toNatClampNeg) : mkR (upR rd 22 t x) = mkR rd := by
  funext c k
  match c with
  | 0 => rfl
  | 1 => rfl
  | 2 => rfl
  | 3 => rfl
  | 4 => rfl
  | 5 => rfl
  | 6 =>
    show (if k < (rd 0 17).toNatClampNeg then (if 22 = 22 ∧ k = t then x else rd 22 k) else 0) = (if k < (rd 0 17).toNatClampNeg then rd 22 k else 0)
    by_cases e : k < (rd 0 17).toNatClampNeg
    · have hk : ¬ k = t := by omega
      simp [hk]
    · simp [e]
  | 7 => rfl
  | 8 =>
    show (if k % 8 < (rd 0 17).toNatClampNeg ∧ k / 8 < (rd 0 23).toNatClampNeg then (if 25 + k / 8 = 22 ∧ k % 8 = t then x else rd (25 + k / 8) (k % 8)) else 0) = (if k % 8 < (rd 0 17).toNatClampNeg ∧ k / 8 < (rd 0 23).toNatClampNeg then rd (25 + k / 8) (k % 8) else 0)
    have hk : ¬ (25 + k / 8 = 22 ∧ k % 8 = t) := fun y => by omega
    simp only [hk, if_false]
  | _ + 9 => rfl
theorem mkR_r7 {rd : Nat → Nat → Int32} {t : Nat} {x : Int32} (ht : t < (rd 0 23).toNatClampNeg) : mkR (upR rd 23 t x) = uS (mkR rd) 7 t x := by
  funext c k
  match c with
  | 0 => rfl
  | 1 => rfl
  | 2 => rfl
  | 3 => rfl
  | 4 => rfl
  | 5 => rfl
  | 6 => rfl
  | 7 =>
    show (if k < (rd 0 23).toNatClampNeg then (if 23 = 23 ∧ k = t then x else rd 23 k) else 0) = (if 7 = 7 ∧ k = t then x else (if k < (rd 0 23).toNatClampNeg then rd 23 k else 0))
    by_cases e : k = t
    · subst e
      simp [ht]
    · simp [e]
  | 8 =>
    show (if k % 8 < (rd 0 17).toNatClampNeg ∧ k / 8 < (rd 0 23).toNatClampNeg then (if 25 + k / 8 = 23 ∧ k % 8 = t then x else rd (25 + k / 8) (k % 8)) else 0) = (if k % 8 < (rd 0 17).toNatClampNeg ∧ k / 8 < (rd 0 23).toNatClampNeg then rd (25 + k / 8) (k % 8) else 0)
    have hk : ¬ (25 + k / 8 = 23 ∧ k % 8 = t) := fun y => by omega
    simp only [hk, if_false]
  | _ + 9 => rfl
theorem mkR_o7 {rd : Nat → Nat → Int32} {t : Nat} {x : Int32} (ht : ¬ t < (rd 0 23).toNatClampNeg) : mkR (upR rd 23 t x) = mkR rd := by
  funext c k
  match c with
  | 0 => rfl
  | 1 => rfl
  | 2 => rfl
  | 3 => rfl
  | 4 => rfl
  | 5 => rfl
  | 6 => rfl
  | 7 =>
    show (if k < (rd 0 23).toNatClampNeg then (if 23 = 23 ∧ k = t then x else rd 23 k) else 0) = (if k < (rd 0 23).toNatClampNeg then rd 23 k else 0)
    by_cases e : k < (rd 0 23).toNatClampNeg
    · have hk : ¬ k = t := by omega
      simp [hk]
    · simp [e]
  | 8 =>
    show (if k % 8 < (rd 0 17).toNatClampNeg ∧ k / 8 < (rd 0 23).toNatClampNeg then (if 25 + k / 8 = 23 ∧ k % 8 = t then x else rd (25 + k / 8) (k % 8)) else 0) = (if k % 8 < (rd 0 17).toNatClampNeg ∧ k / 8 < (rd 0 23).toNatClampNeg then rd (25 + k / 8) (k % 8) else 0)
    have hk : ¬ (25 + k / 8 = 23 ∧ k % 8 = t) := fun y => by omega
    simp only [hk, if_false]
  | _ + 9 => rfl
theorem mkC_r8 {rd : Nat → Nat → Int32} {jj : Int64} {t : Nat} {x : Int32} (ht : t % 8 < (rd 0 8).toNatClampNeg ∧ t / 8 < (rd 0 14).toNatClampNeg) : mkC (upR rd 7 t x) jj = uS (mkC rd jj) 8 t x := by
  funext c k
  match c with
  | 0 => rfl
  | 1 => rfl
  | 2 => rfl
  | 3 => rfl
  | 4 => rfl
  | 5 => rfl
  | 6 => rfl
  | 7 => rfl
  | 8 =>
    show (if k % 8 < (rd 0 8).toNatClampNeg ∧ k / 8 < (rd 0 14).toNatClampNeg then (if 7 = 7 ∧ k = t then x else rd 7 k) else 0) = (if 8 = 8 ∧ k = t then x else (if k % 8 < (rd 0 8).toNatClampNeg ∧ k / 8 < (rd 0 14).toNatClampNeg then rd 7 k else 0))
    by_cases e : k = t
    · subst e
      simp [ht]
    · simp [e]
  | _ + 9 => rfl
theorem mkR_r8 {rd : Nat → Nat → Int32} {b t : Nat} {x : Int32} (hb : b < (rd 0 23).toNatClampNeg) (ht : t < (rd 0 17).toNatClampNeg) (h8 : t < 8) : mkR (upR rd (25 + b) t x) = uS (mkR rd) 8 (8 * b + t) x := by
  have z : ∀ d i : Nat, d < 25 → upR rd (25 + b) t x d i = rd d i := fun d i hd => if_neg (fun y => by omega)
  funext c k
  match c with
  | 0 =>
    match k with
    | 0 => exact z _ _ (by decide)
    | 1 => exact z _ _ (by decide)
    | 2 => exact z _ _ (by decide)
    | 3 => exact z _ _ (by decide)
    | 4 => exact z _ _ (by decide)
    | 5 => exact z _ _ (by decide)
    | 6 => exact z _ _ (by decide)
    | 7 => exact z _ _ (by decide)
    | 8 => exact z _ _ (by decide)
    | _ + 9 => rfl
  | 1 =>
    show (if 1 ≤ k ∧ k ≤ (upR rd (25 + b) t x 0 9).toNatClampNeg then 1 - upR rd (25 + b) t x 17 k else 0) = (if 1 ≤ k ∧ k ≤ (rd 0 9).toNatClampNeg then 1 - rd 17 k else 0)
    rw [z 0 9 (by decide), z 17 k (by decide)]
  | 2 =>
    show (if k < (upR rd (25 + b) t x 0 17).toNatClampNeg then upR rd (25 + b) t x 18 k else 0) = (if k < (rd 0 17).toNatClampNeg then rd 18 k else 0)
    rw [z 0 17 (by decide), z 18 k (by decide)]
  | 3 =>
    show (if k < (upR rd (25 + b) t x 0 17).toNatClampNeg then upR rd (25 + b) t x 19 k else 0) = (if k < (rd 0 17).toNatClampNeg then rd 19 k else 0)
    rw [z 0 17 (by decide), z 19 k (by decide)]
  | 4 =>
    show (if k < (upR rd (25 + b) t x 0 17).toNatClampNeg then upR rd (25 + b) t x 20 k else 0) = (if k < (rd 0 17).toNatClampNeg then rd 20 k else 0)
    rw [z 0 17 (by decide), z 20 k (by decide)]
  | 5 =>
    show (if k < (upR rd (25 + b) t x 0 17).toNatClampNeg then upR rd (25 + b) t x 21 k else 0) = (if k < (rd 0 17).toNatClampNeg then rd 21 k else 0)
    rw [z 0 17 (by decide), z 21 k (by decide)]
  | 6 =>
    show (if k < (upR rd (25 + b) t x 0 17).toNatClampNeg then upR rd (25 + b) t x 22 k else 0) = (if k < (rd 0 17).toNatClampNeg then rd 22 k else 0)
    rw [z 0 17 (by decide), z 22 k (by decide)]
  | 7 =>
    show (if k < (upR rd (25 + b) t x 0 23).toNatClampNeg then upR rd (25 + b) t x 23 k else 0) = (if k < (rd 0 23).toNatClampNeg then rd 23 k else 0)
    rw [z 0 23 (by decide), z 23 k (by decide)]
  | 8 =>
    show (if k % 8 < (upR rd (25 + b) t x 0 17).toNatClampNeg ∧ k / 8 < (upR rd (25 + b) t x 0 23).toNatClampNeg then upR rd (25 + b) t x (25 + k / 8) (k % 8) else 0) = (if 8 = 8 ∧ k = 8 * b + t then x else (if k % 8 < (rd 0 17).toNatClampNeg ∧ k / 8 < (rd 0 23).toNatClampNeg then rd (25 + k / 8) (k % 8) else 0))
    rw [z 0 17 (by decide), z 0 23 (by decide)]
    by_cases e : k = 8 * b + t
    · rw [if_pos (by omega), if_pos ⟨rfl, e⟩]
      exact if_pos (by omega)
    · have f : ¬((8 : Nat) = 8 ∧ k = 8 * b + t) := fun y => e y.2
      have g : upR rd (25 + b) t x (25 + k / 8) (k % 8) = rd (25 + k / 8) (k % 8) := if_neg (fun y => e (by omega))
      rw [if_neg f, g]
  | _ + 9 => rfl
theorem mkR_num {rd : Nat → Nat → Int32} {i j : Nat} {x : Int32} (hi : (i = 10 ∧ j = 1) ∨ (i = 11 ∧ j = 2) ∨ (i = 12 ∧ j = 3) ∨ (i = 13 ∧ j = 4) ∨ (i = 14 ∧ j = 5) ∨ (i = 15 ∧ j = 6)) : mkR (upR rd 0 i x) = uS (mkR rd) 0 j x := by
  funext c k
  rcases hi with ⟨rfl, rfl⟩ | ⟨rfl, rfl⟩ | ⟨rfl, rfl⟩ | ⟨rfl, rfl⟩ | ⟨rfl, rfl⟩ | ⟨rfl, rfl⟩ <;>
  · match c with
    | 0 =>
      match k with
      | 0 => rfl
      | 1 => rfl
      | 2 => rfl
      | 3 => rfl
      | 4 => rfl
      | 5 => rfl
      | 6 => rfl
      | 7 => rfl
      | 8 => rfl
      | _ + 9 => rfl
    | 1 => rfl
    | 2 => rfl
    | 3 => rfl
    | 4 => rfl
    | 5 => rfl
    | 6 => rfl
    | 7 => rfl
    | 8 =>
      show (if k % 8 < (rd 0 17).toNatClampNeg ∧ k / 8 < (rd 0 23).toNatClampNeg then (if 25 + k / 8 = 0 ∧ k % 8 = _ then x else rd (25 + k / 8) (k % 8)) else 0) = (if k % 8 < (rd 0 17).toNatClampNeg ∧ k / 8 < (rd 0 23).toNatClampNeg then rd (25 + k / 8) (k % 8) else 0)
      have hk : ∀ a : Nat, ¬ (25 + k / 8 = 0 ∧ k % 8 = a) := fun a y => by omega
      simp only [hk, if_false]
    | _ + 9 => rfl
theorem mkR_r1 {rd : Nat → Nat → Int32} {t : Nat} {x : Int32} (ht : 1 ≤ t ∧ t ≤ (rd 0 9).toNatClampNeg) : mkR (upR rd 17 t x) = uS (mkR rd) 1 t (1 - x) := by
  funext c k
  match c with
  | 0 => rfl
  | 1 =>
    show (if 1 ≤ k ∧ k ≤ (rd 0 9).toNatClampNeg then 1 - (if 17 = 17 ∧ k = t then x else rd 17 k) else 0) = (if 1 = 1 ∧ k = t then 1 - x else (if 1 ≤ k ∧ k ≤ (rd 0 9).toNatClampNeg then 1 - rd 17 k else 0))
    by_cases e : k = t
    · subst e
      simp [ht]
    · simp [e]
  | 2 => rfl
  | 3 => rfl
  | 4 => rfl
  | 5 => rfl
  | 6 => rfl
  | 7 => rfl
  | 8 =>
    show (if k % 8 < (rd 0 17).toNatClampNeg ∧ k / 8 < (rd 0 23).toNatClampNeg then (if 25 + k / 8 = 17 ∧ k % 8 = t then x else rd (25 + k / 8) (k % 8)) else 0) = (if k % 8 < (rd 0 17).toNatClampNeg ∧ k / 8 < (rd 0 23).toNatClampNeg then rd (25 + k / 8) (k % 8) else 0)
    have hk : ¬ (25 + k / 8 = 17 ∧ k % 8 = t) := fun y => by omega
    simp only [hk, if_false]
  | _ + 9 => rfl
