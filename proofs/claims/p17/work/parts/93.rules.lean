theorem g_scr {E : zE} {scr : List zV} {rc rs : Nat} {cc : zK} {post : Option zV → zH → Bool} {G : zS → Prop} {pc nc ns : Nat} {L : zL} {st : List zV} {h : zH} (HW : zWalk zprog E scr rc rs cc post G) {w : zV × Nat × Nat × Nat × Nat} (hf : zft (zEd E) pc = some (.iaload, w)) {x : Int32} {v : zV} (hx : 0 ≤ x.toInt) (hg : scr[x.toInt.toNat]? = some v) (kk : G (pc + 1, L, v :: st, h, nc, ns)) : G (pc, L, .inl (.int x) :: .inl (.ref 10000000) :: st, h, nc, ns) := by
  refine g_step HW hf rfl ?_
  show (if 10000000 = 10000000 then zel scr x (fun v => zB (G (pc + 1, L, v :: st, h, nc, ns))) else _) = true
  rw [if_pos rfl]
  exact zel_mk hx hg (zB_iff.mpr kk)
theorem g_tVa {E : zE} {scr : List zV} {rc rs D0 : Nat} {cc : zK} {post : Option zV → zH → Bool} {G : zS → Prop} {Φ : List Nat → zH → Prop} {pc nc ns : Nat} {L : zL} {st : List zV} {h : zH} {T : List Nat} {q τ : Nat} {cv : zV} {a c9 e9 : Nat} {E' : zE} {e : tE} {c s : Nat} (HW : zWalk zprog E scr rc rs cc post G) (IH : tLow Φ cc D0) {ix : Nat} {r : List zV} (hf : zft (zEd E) pc = some (.invokevirtual ix, cv, a, 0, c9, e9)) (hE : zprog a = some E') (he : e ∈ zsm a) (hh : zhts a ≤ D0) (hl : zEp E' ≤ st.length) (hc0 : zEc E' = c) (hs0 : zEs E' = s) (hc : nc + c ≤ rc) (hs : ns + s ≤ rs) (hok : hOK zty T h) (hΦ : Φ T h) (hlen : h.length + c ≤ 1000000) (hd : st.drop (zEp E') = .inl (.ref q) :: r) (hq : T[q]? = some τ) (ht : (zty τ).1 = zEk E') (hz : zsum r ≤ 8) (hvs : okAs T e.1 (.inl (.ref q) :: (st.take (zEp E')).reverse))
    (kk : ∀ (v : Option zV) (T' : List Nat) (h' : zH), tExt T T' → hOK zty T' h' → Φ T' h' → h'.length ≤ h.length + c → tRes T' (.inl (.ref q) :: (st.take (zEp E')).reverse) e v → G (pc + 3, L, zpush v r, h', nc + c, ns + s)) : G (pc, L, st, h, nc, ns) := by
  subst hc0
  subst hs0
  exact g_callV HW hf hE hl hc hs hok hd hq ht hz (IH a E' e hE he hh T h _ _ hok hΦ hlen hvs (fun v T' h' k1 k2 k3 k4 k5 => zB_iff.mpr (kk v T' h' k1 k2 k3 k4 k5)))
