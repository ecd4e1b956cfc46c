/-- how far a run goes -/
def runF (p : Nat → Bool) : Nat → Nat → Nat
  | 0, i => i
  | k + 1, i => if p i then runF p k (i + 1) else i
def runT (p : Nat → Bool) (n e : Nat) : Nat := runF p (n - e) e
theorem runF_p (p : Nat → Bool) : ∀ k i, i ≤ runF p k i ∧ runF p k i ≤ i + k ∧ (∀ u, i ≤ u → u < runF p k i → p u = true) ∧ (runF p k i < i + k → p (runF p k i) = false)
  | 0, i => ⟨Nat.le_refl _, Nat.le_refl _, fun u h1 h2 => absurd (Nat.lt_of_le_of_lt h1 h2) (Nat.lt_irrefl _), fun h => absurd h (Nat.lt_irrefl _)⟩
  | k + 1, i => by
    obtain ⟨a, b, c, d⟩ := runF_p p k (i + 1)
    show i ≤ (if p i then runF p k (i + 1) else i) ∧ (if p i then runF p k (i + 1) else i) ≤ i + (k + 1) ∧ (∀ u, i ≤ u → u < (if p i then runF p k (i + 1) else i) → p u = true) ∧ ((if p i then runF p k (i + 1) else i) < i + (k + 1) → p (if p i then runF p k (i + 1) else i) = false)
    by_cases y : p i = true
    · rw [if_pos y]
      refine ⟨by omega, by omega, fun u h1 h2 => ?_, fun h => d (by omega)⟩
      by_cases e : u = i
      · rw [e]
        exact y
      · exact c u (by omega) h2
    · rw [if_neg y]
      refine ⟨Nat.le_refl _, by omega, fun u h1 h2 => by omega, fun _ => ?_⟩
      cases e : p i with
      | true => exact absurd e y
      | false => rfl
theorem runT_p (p : Nat → Bool) {n e : Nat} (h : e ≤ n) : e ≤ runT p n e ∧ runT p n e ≤ n ∧ (∀ u, e ≤ u → u < runT p n e → p u = true) ∧ (runT p n e < n → p (runT p n e) = false) := by
  obtain ⟨a, b, c, d⟩ := runF_p p (n - e) e
  have en : e + (n - e) = n := by omega
  rw [en] at b d
  exact ⟨a, b, c, d⟩
/-- letters by their sorts: word, number, sign, blank, strange -/
def srt (x : Int32) : Nat := if x < 97 then (if x < 48 then (if x = 59 then 3 else if x = 32 then 4 else 5) else if 57 < x then (if x = 59 then 3 else if x = 32 then 4 else 5) else 2) else if 122 < x then (if x < 48 then (if x = 59 then 3 else if x = 32 then 4 else 5) else if 57 < x then (if x = 59 then 3 else if x = 32 then 4 else 5) else 2) else 1
theorem F_sort (x : Int32) : F_X2_sortOf x = nI (srt x) := by
  unfold F_X2_sortOf srt
  by_cases a : x < 97 <;> by_cases b : x < 48 <;> by_cases c : 57 < x <;> by_cases d : 122 < x <;> by_cases e : x = 59 <;> by_cases f : x = 32 <;> simp only [a, b, c, d, e, f, if_true, if_false] <;> rfl
theorem srt_b (x : Int32) : 1 ≤ srt x ∧ srt x ≤ 5 := by
  unfold srt
  by_cases a : x < 97 <;> by_cases b : x < 48 <;> by_cases c : 57 < x <;> by_cases d : 122 < x <;> by_cases e : x = 59 <;> by_cases f : x = 32 <;> simp only [a, b, c, d, e, f, if_true, if_false] <;> decide
theorem srt_i {x : Int32} : (x = 32 ↔ srt x = 4) ∧ (x = 59 ↔ srt x = 3) ∧ (F_X5_isLetter x = if srt x = 1 then 1 else 0) ∧ (F_X5_isDigit x = if srt x = 2 then 1 else 0) := by
  have t97 : (97 : Int32).toInt = 97 := rfl
  have t48 : (48 : Int32).toInt = 48 := rfl
  have t57 : (57 : Int32).toInt = 57 := rfl
  have t122 : (122 : Int32).toInt = 122 := rfl
  have t59 : (59 : Int32).toInt = 59 := rfl
  have t32 : (32 : Int32).toInt = 32 := rfl
  have a' : x < 97 ↔ x.toInt < 97 := by rw [i_lt, t97]
  have b' : x < 48 ↔ x.toInt < 48 := by rw [i_lt, t48]
  have c' : 57 < x ↔ 57 < x.toInt := by rw [i_lt, t57]
  have d' : 122 < x ↔ 122 < x.toInt := by rw [i_lt, t122]
  have e' : x = 59 ↔ x.toInt = 59 := by rw [i_eq, t59]
  have f' : x = 32 ↔ x.toInt = 32 := by rw [i_eq, t32]
  clear t97 t48 t57 t122 t59 t32
  unfold F_X5_isLetter F_X5_isDigit srt
  by_cases a : x < 97 <;> by_cases b : x < 48 <;> by_cases c : 57 < x <;> by_cases d : 122 < x <;> by_cases e : x = 59 <;> by_cases f : x = 32 <;> simp only [a, b, c, d, e, f, if_true, if_false] <;> first | (exfalso; rw [a'] at a; rw [b'] at b; rw [c'] at c; rw [d'] at d; rw [e'] at e; rw [f'] at f; omega) | decide
/-- the token at e: where it starts, what it is, where it ends, its figures -/
def lxS (B : Nat → Int32) (n e : Nat) : Nat := runT (fun i => decide (srt (B i) = 4)) n e
def lxK (B : Nat → Int32) (n e : Nat) : Nat := if lxS B n e < n then srt (B (lxS B n e)) else 0
def lxE (B : Nat → Int32) (n e : Nat) : Nat := if lxK B n e = 1 ∨ lxK B n e = 2 then runT (fun i => decide (srt (B i) = lxK B n e)) n (lxS B n e + 1) else if lxS B n e < n then lxS B n e + 1 else n
def lxL (B : Nat → Int32) (n e : Nat) : Nat := lxE B n e - lxS B n e
def lxP (B : Nat → Int32) (s : Nat) : Nat → Int32
  | 0 => 0
  | j + 1 => ((10 : Int32) * lxP B s j + B (s + j)) - 48
def lxN (B : Nat → Int32) (n e : Nat) : Int32 := lxP B (lxS B n e) (lxL B n e)
def lxV (B : Nat → Int32) (n e : Nat) : Int32 := if lxK B n e = 2 ∧ lxL B n e ≤ 4 then lxN B n e else -1
def lxG (B : Nat → Int32) (n e : Nat) : Int32 := if lxK B n e = 2 then (if lxL B n e ≤ 4 then lxN B n e else 100000) else 0
def lxR (B : Nat → Int32) (n e : Nat) : Nat := if 4 ≤ lxK B n e then 4 else lxK B n e
section
variable {B : Nat → Int32} {n e : Nat}
theorem lxS_p (h : e ≤ n) : e ≤ lxS B n e ∧ lxS B n e ≤ n ∧ (∀ u, e ≤ u → u < lxS B n e → srt (B u) = 4) ∧ (lxS B n e < n → srt (B (lxS B n e)) ≠ 4) := by
  obtain ⟨a, b, c, d⟩ := runT_p (fun i => decide (srt (B i) = 4)) h
  exact ⟨a, b, fun u h1 h2 => of_decide_eq_true (c u h1 h2), fun h => of_decide_eq_false (d h)⟩
theorem lxK_b : lxK B n e ≤ 5 := by
  unfold lxK
  by_cases y : lxS B n e < n
  · rw [if_pos y]
    exact (srt_b _).2
  · rw [if_neg y]
    decide
theorem lxK_4 (h : e ≤ n) : lxK B n e ≠ 4 := by
  unfold lxK
  by_cases y : lxS B n e < n
  · rw [if_pos y]
    exact (lxS_p h).2.2.2 y
  · rw [if_neg y]
    decide
theorem lxK_in (hk : lxK B n e ≠ 0) : lxS B n e < n := by
  unfold lxK at hk
  by_cases y : lxS B n e < n
  · exact y
  · rw [if_neg y] at hk
    exact absurd rfl hk
theorem lxE_w (h : e ≤ n) (hk : lxK B n e = 1 ∨ lxK B n e = 2) : lxS B n e + 1 ≤ lxE B n e ∧ lxE B n e ≤ n ∧ (∀ u, lxS B n e ≤ u → u < lxE B n e → srt (B u) = lxK B n e) ∧ (lxE B n e < n → srt (B (lxE B n e)) ≠ lxK B n e) := by
  have hs := lxK_in (B := B) (n := n) (e := e) (by omega)
  have he : lxE B n e = runT (fun i => decide (srt (B i) = lxK B n e)) n (lxS B n e + 1) := if_pos hk
  obtain ⟨a, b, c, d⟩ := runT_p (fun i => decide (srt (B i) = lxK B n e)) (n := n) (e := lxS B n e + 1) (by omega)
  rw [← he] at a b c d
  refine ⟨a, b, fun u h1 h2 => ?_, fun h => of_decide_eq_false (d h)⟩
  by_cases y : u = lxS B n e
  · rw [y]
    exact (if_pos hs).symm
  · exact of_decide_eq_true (c u (by omega) h2)
theorem lxE_o (hk : ¬ (lxK B n e = 1 ∨ lxK B n e = 2)) : lxE B n e = if lxS B n e < n then lxS B n e + 1 else n := if_neg hk
theorem lxE_b (h : e ≤ n) : lxS B n e ≤ lxE B n e ∧ lxE B n e ≤ n := by
  by_cases hk : lxK B n e = 1 ∨ lxK B n e = 2
  · obtain ⟨a, b, -⟩ := lxE_w h hk
    omega
  · rw [lxE_o hk]
    have := (lxS_p (B := B) h).2.1
    by_cases y : lxS B n e < n
    · rw [if_pos y]
      omega
    · rw [if_neg y]
      omega
theorem lxE_gt (h : e ≤ n) (hk : lxK B n e ≠ 0) : lxS B n e < lxE B n e := by
  by_cases hk2 : lxK B n e = 1 ∨ lxK B n e = 2
  · have := (lxE_w h hk2).1
    omega
  · rw [lxE_o hk2, if_pos (lxK_in hk)]
    omega
theorem lxE_le (h : e ≤ n) : e ≤ lxE B n e := by
  have := (lxS_p (B := B) h).1
  have := (lxE_b (B := B) h).1
  omega
end
