section
variable {E : zE} {scr : List zV} {rc rs D0 : Nat} {cc : zK} {post : Option zV → zH → Bool} {G : zS → Prop} {Φ : List Nat → zH → Prop}
variable {pc nc ns : Nat} {L : zL} {st : List zV} {h : zH} {T : List Nat} {q τ : Nat} {cv : zV} {a c e9 : Nat} {E' : zE} {e : tE}
/-- what the methods below a height keep -/
def tLow (Φ : List Nat → zH → Prop) (cc : zK) (D0 : Nat) : Prop := ∀ (j' : Nat) (E' : zE) (e' : tE), zprog j' = some E' → e' ∈ zsm j' → zhts j' ≤ D0 → tCon zty Φ E' cc j' e'
theorem g_callS (HW : zWalk zprog E scr rc rs cc post G) {ix b : Nat} (hb : b = 0 ∨ b = 1) (hf : zft (zEd E) pc = some (.invokestatic ix, cv, a, b, c, e9)) (hE : zprog a = some E') (hl : zEp E' ≤ st.length) (hc : nc + zEc E' ≤ rc) (hs : ns + zEs E' ≤ rs) (hz : zsum (st.drop (zEp E')) ≤ 8)
    (hcc : cc a (st.take (zEp E')).reverse h (fun v h' => zB (G (pc + 3, L, zpush v (st.drop (zEp E')), h', nc + zEc E', ns + zEs E'))) = true) : G (pc, L, st, h, nc, ns) := by
  have key : zcall zprog cc a st h nc ns rc rs (fun st' h' nc' ns' => zB (G (pc + 3, L, st', h', nc', ns'))) = true := by
    simp only [zcall, hE]
    exact t_and2 (t_ble hl) (t_and2 (t_ble hc) (t_and2 (t_ble hs) (t_and2 (t_ble hz) hcc)))
  refine g_step HW hf rfl ?_
  rcases hb with rfl | rfl
  · exact key
  · exact key
theorem g_callV (HW : zWalk zprog E scr rc rs cc post G) {ix : Nat} {r : List zV} (hf : zft (zEd E) pc = some (.invokevirtual ix, cv, a, 0, c, e9)) (hE : zprog a = some E') (hl : zEp E' ≤ st.length) (hc : nc + zEc E' ≤ rc) (hs : ns + zEs E' ≤ rs) (hok : hOK zty T h) (hd : st.drop (zEp E') = .inl (.ref q) :: r) (hq : T[q]? = some τ) (ht : (zty τ).1 = zEk E') (hz : zsum r ≤ 8)
    (hcc : cc a (.inl (.ref q) :: (st.take (zEp E')).reverse) h (fun v h' => zB (G (pc + 3, L, zpush v r, h', nc + zEc E', ns + zEs E'))) = true) : G (pc, L, st, h, nc, ns) := by
  obtain ⟨vs, h1, h2, h3⟩ := hOK_cell hok hq
  rw [ht] at h1
  refine g_step HW hf rfl ?_
  simp only [zstep, zcalv, hE, hd]
  refine t_and2 (t_ble hl) (t_and2 (t_ble hc) (t_and2 (t_ble hs) ?_))
  refine zrow_mk h1 h3 ?_
  exact t_and2 (t_ble hz) hcc
/-- a call of a method that keeps Φ, by its summary -/
theorem g_tS (HW : zWalk zprog E scr rc rs cc post G) (IH : tLow Φ cc D0) {ix b : Nat} (hb : b = 0 ∨ b = 1) (hf : zft (zEd E) pc = some (.invokestatic ix, cv, a, b, c, e9)) (hE : zprog a = some E') (he : e ∈ zsm a) (hh : zhts a ≤ D0) (hl : zEp E' ≤ st.length) (hc : zEc E' = 0 ∧ zEs E' = 0) (hn : nc ≤ rc ∧ ns ≤ rs) (hz : zsum (st.drop (zEp E')) ≤ 8) (hok : hOK zty T h) (hΦ : Φ T h) (hvs : okAs T e.1 (st.take (zEp E')).reverse)
    (kk : ∀ (r : Option zV) (T' : List Nat) (h' : zH), tExt T T' → hOK zty T' h' → Φ T' h' → h'.length ≤ h.length → tRes T' (st.take (zEp E')).reverse e r → G (pc + 3, L, zpush r (st.drop (zEp E')), h', nc, ns)) : G (pc, L, st, h, nc, ns) := by
  obtain ⟨c1, c2⟩ := hc
  refine g_callS HW hb hf hE hl (by omega) (by omega) hz (IH a E' e hE he hh T h _ _ hok hΦ (by have := hok.2.1; omega) hvs (fun r T' h' k1 k2 k3 k4 k5 => zB_iff.mpr ?_))
  rw [c1, c2]
  exact kk r T' h' k1 k2 k3 (by omega) k5
theorem g_tV (HW : zWalk zprog E scr rc rs cc post G) (IH : tLow Φ cc D0) {ix : Nat} {r : List zV} (hf : zft (zEd E) pc = some (.invokevirtual ix, cv, a, 0, c, e9)) (hE : zprog a = some E') (he : e ∈ zsm a) (hh : zhts a ≤ D0) (hl : zEp E' ≤ st.length) (hc : zEc E' = 0 ∧ zEs E' = 0) (hn : nc ≤ rc ∧ ns ≤ rs) (hok : hOK zty T h) (hΦ : Φ T h) (hd : st.drop (zEp E') = .inl (.ref q) :: r) (hq : T[q]? = some τ) (ht : (zty τ).1 = zEk E') (hz : zsum r ≤ 8) (hvs : okAs T e.1 (.inl (.ref q) :: (st.take (zEp E')).reverse))
    (kk : ∀ (v : Option zV) (T' : List Nat) (h' : zH), tExt T T' → hOK zty T' h' → Φ T' h' → h'.length ≤ h.length → tRes T' (.inl (.ref q) :: (st.take (zEp E')).reverse) e v → G (pc + 3, L, zpush v r, h', nc, ns)) : G (pc, L, st, h, nc, ns) := by
  obtain ⟨c1, c2⟩ := hc
  refine g_callV HW hf hE hl (by omega) (by omega) hok hd hq ht hz (IH a E' e hE he hh T h _ _ hok hΦ (by have := hok.2.1; omega) hvs (fun v T' h' k1 k2 k3 k4 k5 => zB_iff.mpr ?_))
  rw [c1, c2]
  exact kk v T' h' k1 k2 k3 (by omega) k5
end
