/-- how many bits are set, of the first m -/
def pcount : Nat → Nat → Nat
  | 0, _ => 0
  | m + 1, n => n % 2 + pcount m (n / 2)
theorem and_split {a b c e : Nat} (ha : a < 256) (hc : c < 256) : (a + 256 * b) &&& (c + 256 * e) = (a &&& c) + 256 * (b &&& e) := by
  have h1 : ((a + 256 * b) &&& (c + 256 * e)) % 2 ^ 8 = ((a + 256 * b) % 2 ^ 8) &&& ((c + 256 * e) % 2 ^ 8) := Nat.and_mod_two_pow
  have h2 : ((a + 256 * b) &&& (c + 256 * e)) / 2 ^ 8 = ((a + 256 * b) / 2 ^ 8) &&& ((c + 256 * e) / 2 ^ 8) := Nat.and_div_two_pow
  rw [show (2 : Nat) ^ 8 = 256 from rfl] at h1 h2
  rw [show (a + 256 * b) % 256 = a by omega, show (c + 256 * e) % 256 = c by omega] at h1
  rw [show (a + 256 * b) / 256 = b by omega, show (c + 256 * e) / 256 = e by omega] at h2
  omega
def sw_mk (c : Nat) : Nat → Nat
  | 0 => 0
  | k + 1 => c + 256 * sw_mk c k
/-- byte by byte -/
def dm (f : Nat → Nat) : Nat → Nat → Nat
  | 0, _ => 0
  | k + 1, n => f (n % 256) + 256 * dm f k (n / 256)
def sw1 (a : Nat) : Nat := a - (a / 2 &&& 85)
def sw2 (a : Nat) : Nat := (a &&& 51) + (a / 4 &&& 51)
def sw3 (a : Nat) : Nat := (a + a / 16) &&& 15
theorem sw_b1 : ∀ a : Nat, a < 256 → ∀ e : Nat, e < 2 → (a / 2 + 128 * e) &&& 85 = a / 2 &&& 85 := by decide +kernel
theorem sw_b1p : ∀ a : Nat, a < 256 → a / 2 &&& 85 ≤ a := fun a _ => Nat.le_trans Nat.and_le_left (Nat.div_le_self _ _)
theorem sw_b2 : ∀ a : Nat, a < 256 → ∀ e : Nat, e < 4 → (a / 4 + 64 * e) &&& 51 = a / 4 &&& 51 := by decide +kernel
theorem sw_b3 : ∀ a : Nat, a < 256 → sw2 (sw1 a) ≤ 68 ∧ sw2 (sw1 a) % 16 ≤ 4 ∧ sw1 a < 256 ∧ sw3 (sw2 (sw1 a)) = pcount 8 a ∧ pcount 8 a ≤ 8 := by decide +kernel
theorem sw_st1 : ∀ k n : Nat, n < 256 ^ k → n - (n / 2 &&& sw_mk 85 k) = dm sw1 k n
  | 0, n, h => by
    have : n = 0 := by
      have h : n < 1 := h
      omega
    subst this
    rfl
  | k + 1, n, h => by
    have hb : n / 256 < 256 ^ k := by
      rw [Nat.pow_succ] at h
      exact Nat.div_lt_of_lt_mul (by rw [Nat.mul_comm]; exact h)
    have ih := sw_st1 k (n / 256) hb
    have e : n / 2 = (n % 256 / 2 + 128 * (n / 256 % 2)) + 256 * (n / 256 / 2) := by omega
    show n - (n / 2 &&& (85 + 256 * sw_mk 85 k)) = sw1 (n % 256) + 256 * dm sw1 k (n / 256)
    rw [e, and_split (by omega) (by decide), sw_b1 _ (by omega) _ (by omega), ← ih]
    have l1 := sw_b1p (n % 256) (by omega)
    have l2 : n / 256 / 2 &&& sw_mk 85 k ≤ n / 256 := Nat.le_trans Nat.and_le_left (Nat.div_le_self _ _)
    unfold sw1
    omega
theorem dm_lt {f : Nat → Nat} (hf : ∀ a, a < 256 → f a < 256) : ∀ k n : Nat, dm f k n < 256 ^ k
  | 0, _ => Nat.one_pos
  | k + 1, n => by
    have := dm_lt hf k (n / 256)
    have h1 := hf (n % 256) (by omega)
    rw [Nat.pow_succ]
    show f (n % 256) + 256 * dm f k (n / 256) < _
    omega
theorem sw_st2 (f : Nat → Nat) (hf : ∀ a, a < 256 → f a < 256) : ∀ k n : Nat, (dm f k n &&& sw_mk 51 k) + (dm f k n / 4 &&& sw_mk 51 k) = dm (fun a => sw2 (f a)) k n
  | 0, n => by
    show ((0 : Nat) &&& 0) + (0 / 4 &&& 0) = 0
    decide
  | k + 1, n => by
    have ih := sw_st2 f hf k (n / 256)
    have l1 := hf (n % 256) (by omega)
    show ((f (n % 256) + 256 * dm f k (n / 256)) &&& (51 + 256 * sw_mk 51 k)) + ((f (n % 256) + 256 * dm f k (n / 256)) / 4 &&& (51 + 256 * sw_mk 51 k)) = sw2 (f (n % 256)) + 256 * dm (fun a => sw2 (f a)) k (n / 256)
    have e : (f (n % 256) + 256 * dm f k (n / 256)) / 4 = (f (n % 256) / 4 + 64 * (dm f k (n / 256) % 4)) + 256 * (dm f k (n / 256) / 4) := by omega
    rw [e, and_split l1 (by decide), and_split (by omega) (by decide), sw_b2 _ l1 _ (by omega), ← ih]
    unfold sw2
    omega
theorem dm_m16 {f : Nat → Nat} (hf : ∀ a, a < 256 → f a % 16 ≤ 4) : ∀ k n : Nat, dm f k n % 16 ≤ 4
  | 0, _ => by
    show 0 % 16 ≤ 4
    decide
  | k + 1, n => by
    have := hf (n % 256) (by omega)
    show (f (n % 256) + 256 * dm f k (n / 256)) % 16 ≤ 4
    omega
theorem sw_st3 (f : Nat → Nat) (hf : ∀ a, a < 256 → f a ≤ 68 ∧ f a % 16 ≤ 4) : ∀ k n : Nat, (dm f k n + dm f k n / 16) &&& sw_mk 15 k = dm (fun a => sw3 (f a)) k n
  | 0, n => by
    show ((0 : Nat) + 0 / 16) &&& 0 = 0
    decide
  | k + 1, n => by
    have ih := sw_st3 f hf k (n / 256)
    have l1 := hf (n % 256) (by omega)
    have l2 := dm_m16 (fun a ha => (hf a ha).2) k (n / 256)
    show ((f (n % 256) + 256 * dm f k (n / 256)) + (f (n % 256) + 256 * dm f k (n / 256)) / 16) &&& (15 + 256 * sw_mk 15 k) = sw3 (f (n % 256)) + 256 * dm (fun a => sw3 (f a)) k (n / 256)
    have e : (f (n % 256) + 256 * dm f k (n / 256)) + (f (n % 256) + 256 * dm f k (n / 256)) / 16 = (f (n % 256) + f (n % 256) / 16 + 16 * (dm f k (n / 256) % 16)) + 256 * (dm f k (n / 256) + dm f k (n / 256) / 16) := by omega
    rw [e, and_split (by omega) (by decide), ih]
    have m1 : ∀ x : Nat, x &&& 15 = x % 16 := fun x => Nat.and_two_pow_sub_one_eq_mod x 4
    unfold sw3
    rw [m1, m1]
    omega
theorem dm_comp_eq {f g : Nat → Nat} (h : ∀ a, a < 256 → f a = g a) : ∀ k n : Nat, dm f k n = dm g k n
  | 0, _ => rfl
  | k + 1, n => by
    show f (n % 256) + 256 * dm f k (n / 256) = g (n % 256) + 256 * dm g k (n / 256)
    rw [h _ (by omega), dm_comp_eq h k]
theorem pc_bit (n : Nat) : (n / 2 % 2 = n % 256 / 2 % 2 ∧ n / 2 / 2 % 2 = n % 256 / 2 / 2 % 2) ∧ (n / 2 / 2 / 2 % 2 = n % 256 / 2 / 2 / 2 % 2 ∧ n / 2 / 2 / 2 / 2 % 2 = n % 256 / 2 / 2 / 2 / 2 % 2) ∧ (n / 2 / 2 / 2 / 2 / 2 % 2 = n % 256 / 2 / 2 / 2 / 2 / 2 % 2 ∧ n / 2 / 2 / 2 / 2 / 2 / 2 % 2 = n % 256 / 2 / 2 / 2 / 2 / 2 / 2 % 2) ∧ n / 2 / 2 / 2 / 2 / 2 / 2 / 2 % 2 = n % 256 / 2 / 2 / 2 / 2 / 2 / 2 / 2 % 2 ∧ n / 2 / 2 / 2 / 2 / 2 / 2 / 2 / 2 = n / 256 ∧ n % 2 = n % 256 % 2 := by
  have k (m : Nat) : m / 2 / 2 = m / 4 := Nat.div_div_eq_div_mul m 2 2
  have k4 (m : Nat) : m / 4 / 2 = m / 8 := Nat.div_div_eq_div_mul m 4 2
  have k8 (m : Nat) : m / 8 / 2 = m / 16 := Nat.div_div_eq_div_mul m 8 2
  have k16 (m : Nat) : m / 16 / 2 = m / 32 := Nat.div_div_eq_div_mul m 16 2
  have k32 (m : Nat) : m / 32 / 2 = m / 64 := Nat.div_div_eq_div_mul m 32 2
  have k64 (m : Nat) : m / 64 / 2 = m / 128 := Nat.div_div_eq_div_mul m 64 2
  have k128 (m : Nat) : m / 128 / 2 = m / 256 := Nat.div_div_eq_div_mul m 128 2
  simp only [k, k4, k8, k16, k32, k64, k128]
  refine ⟨⟨by omega, by omega⟩, ⟨by omega, by omega⟩, ⟨by omega, by omega⟩, by omega, True.intro, by omega⟩
theorem pc_cut (m n : Nat) : pcount (8 + m) n = pcount 8 (n % 256) + pcount m (n / 256) := by
  have e : pcount (8 + m) n = pcount (m + 8) n := by rw [Nat.add_comm]
  rw [e]
  obtain ⟨⟨t1, t2⟩, ⟨t3, t4⟩, ⟨t5, t6⟩, t7, t8, t0⟩ := pc_bit n
  show n % 2 + (n / 2 % 2 + (n / 2 / 2 % 2 + (n / 2 / 2 / 2 % 2 + (n / 2 / 2 / 2 / 2 % 2 + (n / 2 / 2 / 2 / 2 / 2 % 2 + (n / 2 / 2 / 2 / 2 / 2 / 2 % 2 + (n / 2 / 2 / 2 / 2 / 2 / 2 / 2 % 2 + pcount m (n / 2 / 2 / 2 / 2 / 2 / 2 / 2 / 2)))))))) = (n % 256 % 2 + (n % 256 / 2 % 2 + (n % 256 / 2 / 2 % 2 + (n % 256 / 2 / 2 / 2 % 2 + (n % 256 / 2 / 2 / 2 / 2 % 2 + (n % 256 / 2 / 2 / 2 / 2 / 2 % 2 + (n % 256 / 2 / 2 / 2 / 2 / 2 / 2 % 2 + (n % 256 / 2 / 2 / 2 / 2 / 2 / 2 / 2 % 2 + 0)))))))) + pcount m (n / 256)
  rw [t8, t7, t6, t5, t4, t3, t2, t1, t0]
  simp only [Nat.add_assoc, Nat.add_zero, Nat.zero_add]
theorem dv1 {x y : Nat} (h : x < 256) : (x + 256 * y) / 256 = y := by omega
theorem dv2 {x y z : Nat} (h : x < 256) (h2 : y < 256) : (x + 256 * (y + 256 * z)) / 65536 = z := by omega
theorem dv4 {x y z u w : Nat} (h : x < 256) (h2 : y < 256) (h3 : z < 256) (h4 : u < 256) : (x + 256 * (y + 256 * (z + 256 * (u + 256 * w)))) / 4294967296 = w := by omega
theorem md1 {x y : Nat} (h : x < 128) : (x + 256 * y) % 128 = x := by omega
theorem cons_lt {x y k : Nat} (h : x < 256) (hy : y < 256 ^ k) : x + 256 * y < 256 ^ (k + 1) := by
  rw [Nat.pow_succ]
  omega
/-- the whole of it, over eight bytes -/
theorem swar (n : Nat) (hn : n < 256 ^ 8) : ∃ A B C : Nat, A = n - (n / 2 &&& sw_mk 85 8) ∧ B = (A &&& sw_mk 51 8) + (A / 4 &&& sw_mk 51 8) ∧ C = (B + B / 16) &&& sw_mk 15 8 ∧ A ≤ n ∧ B < 256 ^ 8 ∧ B + B / 16 < 256 ^ 8 ∧ C + C / 256 < 256 ^ 8 ∧ (C + C / 256) + (C + C / 256) / 65536 < 256 ^ 8 ∧ ((C + C / 256) + (C + C / 256) / 65536) + ((C + C / 256) + (C + C / 256) / 65536) / 4294967296 < 256 ^ 8 ∧ (((C + C / 256) + (C + C / 256) / 65536) + ((C + C / 256) + (C + C / 256) / 65536) / 4294967296) % 128 = pcount 64 n := by
  have e1 := sw_st1 8 n hn
  have e2 := sw_st2 sw1 (fun a ha => (sw_b3 a ha).2.2.1) 8 n
  have e3 := sw_st3 (fun a => sw2 (sw1 a)) (fun a ha => ⟨(sw_b3 a ha).1, (sw_b3 a ha).2.1⟩) 8 n
  have e4 := dm_comp_eq (f := fun a => sw3 (sw2 (sw1 a))) (g := pcount 8) (fun a ha => (sw_b3 a ha).2.2.2.1) 8 n
  rw [e4] at e3
  refine ⟨_, _, _, rfl, rfl, rfl, Nat.sub_le _ _, ?_⟩
  rw [e1, e2, e3]
  have hB : dm (fun a => sw2 (sw1 a)) 8 n + dm (fun a => sw2 (sw1 a)) 8 n / 16 < 256 ^ 8 ∧ dm (fun a => sw2 (sw1 a)) 8 n < 256 ^ 8 := by
    have key : ∀ k m : Nat, dm (fun a => sw2 (sw1 a)) k m ≤ sw_mk 68 k := by
      intro k
      induction k with
      | zero => intro m; exact Nat.le_refl _
      | succ k ih =>
        intro m
        have a1 := ih (m / 256)
        have a2 := (sw_b3 (m % 256) (by omega)).1
        show sw2 (sw1 (m % 256)) + 256 * dm (fun a => sw2 (sw1 a)) k (m / 256) ≤ 68 + 256 * sw_mk 68 k
        omega
    have a1 := key 8 n
    have a2 : sw_mk 68 8 = 4919131752989213764 := by decide
    rw [a2] at a1
    rw [show (256 : Nat) ^ 8 = 18446744073709551616 by decide]
    omega
  refine ⟨hB.2, hB.1, ?_⟩
  have p0 : ∀ m : Nat, pcount 8 (m % 256) ≤ 8 := fun m => (sw_b3 (m % 256) (by omega)).2.2.2.2
  have c1 : dm (pcount 8) 8 n = pcount 8 (n % 256) + 256 * (pcount 8 (n / 256 % 256) + 256 * (pcount 8 (n / 256 / 256 % 256) + 256 * (pcount 8 (n / 256 / 256 / 256 % 256) + 256 * (pcount 8 (n / 256 / 256 / 256 / 256 % 256) + 256 * (pcount 8 (n / 256 / 256 / 256 / 256 / 256 % 256) + 256 * (pcount 8 (n / 256 / 256 / 256 / 256 / 256 / 256 % 256) + 256 * (pcount 8 (n / 256 / 256 / 256 / 256 / 256 / 256 / 256 % 256) + 256 * 0))))))) := rfl
  have c2 : pcount 64 n = pcount 8 (n % 256) + (pcount 8 (n / 256 % 256) + (pcount 8 (n / 256 / 256 % 256) + (pcount 8 (n / 256 / 256 / 256 % 256) + (pcount 8 (n / 256 / 256 / 256 / 256 % 256) + (pcount 8 (n / 256 / 256 / 256 / 256 / 256 % 256) + (pcount 8 (n / 256 / 256 / 256 / 256 / 256 / 256 % 256) + pcount 8 (n / 256 / 256 / 256 / 256 / 256 / 256 / 256 % 256))))))) := by
    rw [show (64 : Nat) = 8 + 56 from rfl, pc_cut, show (56 : Nat) = 8 + 48 from rfl, pc_cut, show (48 : Nat) = 8 + 40 from rfl, pc_cut, show (40 : Nat) = 8 + 32 from rfl, pc_cut, show (32 : Nat) = 8 + 24 from rfl, pc_cut, show (24 : Nat) = 8 + 16 from rfl, pc_cut, show (16 : Nat) = 8 + 8 from rfl, pc_cut, show (pcount 8 (n / 256 / 256 / 256 / 256 / 256 / 256 / 256)) = pcount (8 + 0) (n / 256 / 256 / 256 / 256 / 256 / 256 / 256) from rfl, pc_cut]
    rfl
  rw [c1, c2]
  have q0 := p0 n
  have q1 := p0 (n / 256)
  have q2 := p0 (n / 256 / 256)
  have q3 := p0 (n / 256 / 256 / 256)
  have q4 := p0 (n / 256 / 256 / 256 / 256)
  have q5 := p0 (n / 256 / 256 / 256 / 256 / 256)
  have q6 := p0 (n / 256 / 256 / 256 / 256 / 256 / 256)
  have q7 := p0 (n / 256 / 256 / 256 / 256 / 256 / 256 / 256)
  generalize pcount 8 (n % 256) = x0 at *
  generalize pcount 8 (n / 256 % 256) = x1 at *
  generalize pcount 8 (n / 256 / 256 % 256) = x2 at *
  generalize pcount 8 (n / 256 / 256 / 256 % 256) = x3 at *
  generalize pcount 8 (n / 256 / 256 / 256 / 256 % 256) = x4 at *
  generalize pcount 8 (n / 256 / 256 / 256 / 256 / 256 % 256) = x5 at *
  generalize pcount 8 (n / 256 / 256 / 256 / 256 / 256 / 256 % 256) = x6 at *
  generalize pcount 8 (n / 256 / 256 / 256 / 256 / 256 / 256 / 256 % 256) = x7 at *
  clear e1 e2 e3 e4 hB p0 c1 c2 hn
  rw [dv1 (x := x0) (by omega)]
  have d2 : (x0 + 256 * (x1 + 256 * (x2 + 256 * (x3 + 256 * (x4 + 256 * (x5 + 256 * (x6 + 256 * (x7 + 256 * 0))))))) + (x1 + 256 * (x2 + 256 * (x3 + 256 * (x4 + 256 * (x5 + 256 * (x6 + 256 * (x7 + 256 * 0)))))))) = (x0 + x1) + 256 * ((x1 + x2) + 256 * ((x2 + x3) + 256 * ((x3 + x4) + 256 * ((x4 + x5) + 256 * ((x5 + x6) + 256 * ((x6 + x7) + 256 * (x7 + 256 * 0))))))) := by omega
  rw [d2, dv2 (x := x0 + x1) (y := x1 + x2) (by omega) (by omega)]
  have d4 : (x0 + x1) + 256 * ((x1 + x2) + 256 * ((x2 + x3) + 256 * ((x3 + x4) + 256 * ((x4 + x5) + 256 * ((x5 + x6) + 256 * ((x6 + x7) + 256 * (x7 + 256 * 0))))))) + ((x2 + x3) + 256 * ((x3 + x4) + 256 * ((x4 + x5) + 256 * ((x5 + x6) + 256 * ((x6 + x7) + 256 * (x7 + 256 * 0)))))) = (x0 + x1 + x2 + x3) + 256 * ((x1 + x2 + x3 + x4) + 256 * ((x2 + x3 + x4 + x5) + 256 * ((x3 + x4 + x5 + x6) + 256 * ((x4 + x5 + x6 + x7) + 256 * ((x5 + x6 + x7) + 256 * ((x6 + x7) + 256 * (x7 + 256 * 0))))))) := by omega
  rw [d4, dv4 (x := x0 + x1 + x2 + x3) (y := x1 + x2 + x3 + x4) (z := x2 + x3 + x4 + x5) (u := x3 + x4 + x5 + x6) (by omega) (by omega) (by omega) (by omega)]
  have d5 : (x0 + x1 + x2 + x3) + 256 * ((x1 + x2 + x3 + x4) + 256 * ((x2 + x3 + x4 + x5) + 256 * ((x3 + x4 + x5 + x6) + 256 * ((x4 + x5 + x6 + x7) + 256 * ((x5 + x6 + x7) + 256 * ((x6 + x7) + 256 * (x7 + 256 * 0))))))) + ((x4 + x5 + x6 + x7) + 256 * ((x5 + x6 + x7) + 256 * ((x6 + x7) + 256 * (x7 + 256 * 0)))) = (x0 + x1 + x2 + x3 + x4 + x5 + x6 + x7) + 256 * ((x1 + x2 + x3 + x4 + x5 + x6 + x7) + 256 * ((x2 + x3 + x4 + x5 + x6 + x7) + 256 * ((x3 + x4 + x5 + x6 + x7) + 256 * ((x4 + x5 + x6 + x7) + 256 * ((x5 + x6 + x7) + 256 * ((x6 + x7) + 256 * (x7 + 256 * 0))))))) := by omega
  rw [d5]
  have z0 : (0 : Nat) < 256 ^ 0 := Nat.one_pos
  refine ⟨?_, ?_, ?_, ?_⟩
  · exact cons_lt (by omega) (cons_lt (by omega) (cons_lt (by omega) (cons_lt (by omega) (cons_lt (by omega) (cons_lt (by omega) (cons_lt (by omega) (cons_lt (by omega) z0)))))))
  · exact cons_lt (by omega) (cons_lt (by omega) (cons_lt (by omega) (cons_lt (by omega) (cons_lt (by omega) (cons_lt (by omega) (cons_lt (by omega) (cons_lt (by omega) z0)))))))
  · exact cons_lt (by omega) (cons_lt (by omega) (cons_lt (by omega) (cons_lt (by omega) (cons_lt (by omega) (cons_lt (by omega) (cons_lt (by omega) (cons_lt (by omega) z0)))))))
  · rw [md1 (by omega)]
    simp only [Nat.add_assoc]
