theorem whole_start {p : Program} {e : Env} {s : State} {m : MethodId} {below : List Frame} {meth : Method} {c : Code} (l : Launch) (hflags : l.flags = flags0) {b L : Nat} {xs : Nat → Int32} (hL : L ≤ 3072) (C0 : lw_At p s m meth c b L xs) : W p l e room_1 s m #[Value.ref b] below meth c s.heap [] 0 0 (lw_Z below #[Value.ref b] s) (entryFrame m ([Value.ref b] : List Value).toArray 4) := by
  obtain ⟨hx, hb, hr, hml, hown, hts, hX, hbl, hlocks, hgv⟩ := id C0
  obtain ⟨D, ct, adK, adV, u, hK, hN, hO, hO1, hO2, hFs⟩ := z_start hts hgv hbl
  have hX' : va_X b (zscr L xs).length xs s s.heap := by
    rw [zscr_len]
    exact hX
  have hF := hFs (zscr L xs) xs hX' (fun j v hj => by
    have hjl : j < L := by
      have := (List.getElem?_eq_some_iff.mp hj).1
      rw [zscr_len] at this
      exact this
    rw [zscr_at hjl] at hj
    cases hj
    exact ⟨rfl, rfl⟩)
  have HW := z_lawwalk (p := p) (l := l) (e := e) (below := below) (DD := 304) (by decide) C0 hK hN hO hO1 hO2 hF
  have HWN := z_lawwalkN (p := p) (l := l) (e := e) (below := below) (DD := 304) (by decide) C0 hK hN hO hO1 hO2 hF
  have hsc : cT (zscr L xs) := fun v hv => by
    unfold zscr at hv
    obtain ⟨j, -, rfl⟩ := List.mem_map.mp hv
    exact ⟨_, rfl⟩
  have h18 := lw_loop HW HWN hsc (by decide) (fun P => z_tBel P _) (fun j hj => ⟨xs j, zscr_at (by rw [zscr_len] at hj; exact hj)⟩) (by rw [zscr_len]; exact hL) (fun h => decide_eq_true rfl) 520 0 (by decide) zT0 zh0 0 false 79 2750 zh0_rel (by decide) (by decide) (by decide)
  refine z_entry rfl (lw_start (D := 300) HW ?_)
  rw [show (Int32.ofNat (6 * 0)) = (0 : Int32) from rfl] at h18
  exact h18
