section
variable {prog : Nat → Option zE} {nL rc rs : Nat} {scr : List zV} {cc : zK}
theorem cT_und : cT zund := cT_cons ⟨_, rfl⟩ (cT_cons ⟨_, rfl⟩ (cT_cons ⟨_, rfl⟩ (cT_cons ⟨_, rfl⟩ (cT_cons ⟨_, rfl⟩ (cT_cons ⟨_, rfl⟩ cT_nil)))))
theorem Dt_un {st : List zV} {k : (zS → Bool) → zV → List zV → Bool} {f : zV → List zV → (zS → Bool) → Bool} (hs : cT st) (h : ∀ v r, cV v → cT r → Dt (fun K => f v r K)) (e : ∀ K, k K = fun v r => f v r K) : Dt (fun K => match st with | v :: r => k K v r | [] => false) := by
  cases st with
  | nil => exact Dt_f
  | cons v r =>
    have := h v r (cT_hd hs) (cT_tl hs)
    have e2 : (fun K => k K v r) = fun K => f v r K := funext (fun K => by rw [e K])
    show Dt (fun K => k K v r)
    rw [e2]
    exact this
set_option maxHeartbeats 4000000 in
theorem zstep_det (hsc : cT scr) (hcc : Dcc cc) (ins : Instr) (cv : zV) (a b c pc : Nat) (L : zL) (st : List zV) (h : zH) (nc ns : Nat) (hcv : cV cv) (hL : cL L) (hs : cT st) (hh : cH h) : Dt (fun K => zstep zNf zdfl zslen prog nL rc rs scr cc K ins cv a b c pc L st h nc ns) := by
  cases ins <;> try (exact Dt_f)
  case iconst n => exact Dt_pt ⟨hL, cT_cons ⟨_, rfl⟩ hs, hh⟩
  case bipush n => exact Dt_pt ⟨hL, cT_cons ⟨_, rfl⟩ hs, hh⟩
  case sipush n => exact Dt_pt ⟨hL, cT_cons ⟨_, rfl⟩ hs, hh⟩
  case lconst n => exact Dt_pt ⟨hL, cT_cons ⟨_, rfl⟩ hs, hh⟩
  case iload_n k => (simp only [zstep]; refine Dt_ld hL (fun v hv => ?_); exact Dt_pt ⟨hL, cT_cons hv hs, hh⟩)
  case iload k => (simp only [zstep]; refine Dt_ld hL (fun v hv => ?_); exact Dt_pt ⟨hL, cT_cons hv hs, hh⟩)
  case lload_n k => (simp only [zstep]; refine Dt_ld hL (fun v hv => ?_); exact Dt_pt ⟨hL, cT_cons hv hs, hh⟩)
  case lload k => (simp only [zstep]; refine Dt_ld hL (fun v hv => ?_); exact Dt_pt ⟨hL, cT_cons hv hs, hh⟩)
  case aload_n k => (simp only [zstep]; refine Dt_ld hL (fun v hv => ?_); exact Dt_pt ⟨hL, cT_cons hv hs, hh⟩)
  case aload k => (simp only [zstep]; refine Dt_ld hL (fun v hv => ?_); exact Dt_pt ⟨hL, cT_cons hv hs, hh⟩)
  case istore_n k => (simp only [zstep]; refine Dt_s1 hL hs (fun L' r h1 h2 => ?_); exact Dt_pt ⟨h1, h2, hh⟩)
  case istore k => (simp only [zstep]; refine Dt_s1 hL hs (fun L' r h1 h2 => ?_); exact Dt_pt ⟨h1, h2, hh⟩)
  case astore_n k => (simp only [zstep]; refine Dt_s1 hL hs (fun L' r h1 h2 => ?_); exact Dt_pt ⟨h1, h2, hh⟩)
  case astore k => (simp only [zstep]; refine Dt_s1 hL hs (fun L' r h1 h2 => ?_); exact Dt_pt ⟨h1, h2, hh⟩)
  case lstore_n k => (simp only [zstep]; refine Dt_s2 hL hs (fun L' r h1 h2 => ?_); exact Dt_pt ⟨h1, h2, hh⟩)
  case lstore k => (simp only [zstep]; refine Dt_s2 hL hs (fun L' r h1 h2 => ?_); exact Dt_pt ⟨h1, h2, hh⟩)
  case iinc k n =>
    simp only [zstep]
    cases e : zget L k with
    | none => exact Dt_f
    | some v =>
      obtain ⟨x, rfl⟩ := cL_get hL e
      cases x <;> first | exact Dt_f | exact Dt_and (fun _ => Dt_pt ⟨cL_st1 hL ⟨_, rfl⟩, hs, hh⟩)
  case iadd => (simp only [zstep]; refine Dt_b2 hs (fun l hl => ?_); exact Dt_pt ⟨hL, hl, hh⟩)
  case isub => (simp only [zstep]; refine Dt_b2 hs (fun l hl => ?_); exact Dt_pt ⟨hL, hl, hh⟩)
  case imul => (simp only [zstep]; refine Dt_ml hs (fun l hl => ?_); exact Dt_pt ⟨hL, hl, hh⟩)
  case iand => (simp only [zstep]; refine Dt_b2 hs (fun l hl => ?_); exact Dt_pt ⟨hL, hl, hh⟩)
  case ior => (simp only [zstep]; refine Dt_b2 hs (fun l hl => ?_); exact Dt_pt ⟨hL, hl, hh⟩)
  case ixor => (simp only [zstep]; refine Dt_b2 hs (fun l hl => ?_); exact Dt_pt ⟨hL, hl, hh⟩)
  case ishl => (simp only [zstep]; refine Dt_b2 hs (fun l hl => ?_); exact Dt_pt ⟨hL, hl, hh⟩)
  case ishr => (simp only [zstep]; refine Dt_b2 hs (fun l hl => ?_); exact Dt_pt ⟨hL, hl, hh⟩)
  case iushr => (simp only [zstep]; refine Dt_b2 hs (fun l hl => ?_); exact Dt_pt ⟨hL, hl, hh⟩)
  case idiv => (simp only [zstep]; refine Dt_dv hs (fun l hl => ?_); exact Dt_pt ⟨hL, hl, hh⟩)
  case irem => (simp only [zstep]; refine Dt_dv hs (fun l hl => ?_); exact Dt_pt ⟨hL, hl, hh⟩)
  case ineg =>
    cases st with
    | nil => exact Dt_f
    | cons v r =>
      obtain ⟨x, rfl⟩ := cT_hd hs
      cases x <;> first | exact Dt_f | exact Dt_pt ⟨hL, cT_cons ⟨_, rfl⟩ (cT_tl hs), hh⟩
  case ladd => (simp only [zstep]; refine Dt_b2l hs (fun l hl => ?_); exact Dt_pt ⟨hL, hl, hh⟩)
  case lsub => (simp only [zstep]; refine Dt_b2l hs (fun l hl => ?_); exact Dt_pt ⟨hL, hl, hh⟩)
  case ldiv => (simp only [zstep]; refine Dt_dvl hs (fun l hl => ?_); exact Dt_pt ⟨hL, hl, hh⟩)
  case i2b =>
    cases st with
    | nil => exact Dt_f
    | cons v r =>
      obtain ⟨x, rfl⟩ := cT_hd hs
      cases x <;> first | exact Dt_f | exact Dt_pt ⟨hL, cT_cons ⟨_, rfl⟩ (cT_tl hs), hh⟩
  case i2s =>
    cases st with
    | nil => exact Dt_f
    | cons v r =>
      obtain ⟨x, rfl⟩ := cT_hd hs
      cases x <;> first | exact Dt_f | exact Dt_pt ⟨hL, cT_cons ⟨_, rfl⟩ (cT_tl hs), hh⟩
  case lmul => (simp only [zstep]; refine Dt_b2l hs (fun l hl => ?_); exact Dt_pt ⟨hL, hl, hh⟩)
  case land => (simp only [zstep]; refine Dt_b2l hs (fun l hl => ?_); exact Dt_pt ⟨hL, hl, hh⟩)
  case lor => (simp only [zstep]; refine Dt_b2l hs (fun l hl => ?_); exact Dt_pt ⟨hL, hl, hh⟩)
  case lxor => (simp only [zstep]; refine Dt_b2l hs (fun l hl => ?_); exact Dt_pt ⟨hL, hl, hh⟩)
  case lshl => (simp only [zstep]; refine Dt_shl hs (fun l hl => ?_); exact Dt_pt ⟨hL, hl, hh⟩)
  case lushr => (simp only [zstep]; refine Dt_shl hs (fun l hl => ?_); exact Dt_pt ⟨hL, hl, hh⟩)
  case i2l =>
    cases st with
    | nil => exact Dt_f
    | cons v r =>
      obtain ⟨x, rfl⟩ := cT_hd hs
      cases x <;> first | exact Dt_f | exact Dt_pt ⟨hL, cT_cons ⟨_, rfl⟩ (cT_tl hs), hh⟩
  case l2i =>
    cases st with
    | nil => exact Dt_f
    | cons v r =>
      obtain ⟨x, rfl⟩ := cT_hd hs
      cases x <;> first | exact Dt_pt ⟨hL, cT_cons ⟨_, rfl⟩ (cT_tl hs), hh⟩ | exact Or.inl (fun _ => rfl)
  case lcmp =>
    cases st with
    | nil => exact Dt_f
    | cons v r =>
      cases r with
      | nil => exact Dt_f
      | cons w r => exact Dt_and (fun _ => Dt_and (fun _ => Dt_pt ⟨hL, cT_cons (cV_cmp (cT_hd (cT_tl hs)) (cT_hd hs)) (cT_tl (cT_tl hs)), hh⟩))
  case dup =>
    cases st with
    | nil => exact Dt_f
    | cons v r => exact Dt_and (fun _ => Dt_pt ⟨hL, cT_cons (cT_hd hs) hs, hh⟩)
  case dup2 =>
    cases st with
    | nil => exact Dt_f
    | cons v r =>
      cases r with
      | nil => exact Dt_f
      | cons w r => exact Dt_and (fun _ => Dt_and (fun _ => Dt_pt ⟨hL, cT_cons (cT_hd hs) (cT_cons (cT_hd (cT_tl hs)) hs), hh⟩))
  case dup_x1 =>
    cases st with
    | nil => exact Dt_f
    | cons v r =>
      cases r with
      | nil => exact Dt_f
      | cons w r => exact Dt_and (fun _ => Dt_and (fun _ => Dt_pt ⟨hL, cT_cons (cT_hd hs) (cT_cons (cT_hd (cT_tl hs)) (cT_cons (cT_hd hs) (cT_tl (cT_tl hs)))), hh⟩))
  case pop =>
    cases st with
    | nil => exact Dt_f
    | cons v r => exact Dt_and (fun _ => Dt_pt ⟨hL, cT_tl hs, hh⟩)
  case ifCond cd off =>
    cases st with
    | nil => exact Dt_f
    | cons v r => exact Dt_and (fun _ => Dt_of (fun t => Dt_br (cT_hd hs) ⟨_, rfl⟩ (Dt_pt ⟨hL, cT_tl hs, hh⟩) (Dt_pt ⟨hL, cT_tl hs, hh⟩)))
  case if_icmp cd off =>
    cases st with
    | nil => exact Dt_f
    | cons v r =>
      cases r with
      | nil => exact Dt_f
      | cons w r => exact Dt_and (fun _ => Dt_and (fun _ => Dt_of (fun t => Dt_br (cT_hd (cT_tl hs)) (cT_hd hs) (Dt_pt ⟨hL, cT_tl (cT_tl hs), hh⟩) (Dt_pt ⟨hL, cT_tl (cT_tl hs), hh⟩))))
  case goto off => exact Dt_of (fun t => Dt_pt ⟨hL, hs, hh⟩)
  case ifnull off =>
    cases st with
    | nil => exact Dt_f
    | cons v r =>
      obtain ⟨x, rfl⟩ := cT_hd hs
      cases x <;> first | exact Dt_f | exact Dt_pt ⟨hL, cT_tl hs, hh⟩ | exact Dt_of (fun t => Dt_pt ⟨hL, cT_tl hs, hh⟩)
  case ifnonnull off =>
    cases st with
    | nil => exact Dt_f
    | cons v r =>
      obtain ⟨x, rfl⟩ := cT_hd hs
      cases x <;> first | exact Dt_f | exact Dt_pt ⟨hL, cT_tl hs, hh⟩ | exact Dt_of (fun t => Dt_pt ⟨hL, cT_tl hs, hh⟩)
  case tableswitch df lo hi offs =>
    cases st with
    | nil => exact Dt_f
    | cons v r =>
      obtain ⟨x, rfl⟩ := cT_hd hs
      refine Dt_and (fun h0 => Dt_ite (fun _ => Dt_of (fun t => Dt_pt ⟨hL, cT_tl hs, hh⟩)) (fun hn => ?_))
      clear hn h0
      cases x <;> try (exact Dt_f)
      case int z =>
        refine Dt_and (fun _ => Dt_and (fun _ => ?_))
        cases e : offs[(z.toInt - lo).toNat]? with
        | none => exact Dt_f
        | some o =>
          refine Dt_of (fun t => ?_)
          exact Dt_pt ⟨hL, cT_tl hs, hh⟩
  case getfield ix =>
    cases st with
    | nil => exact Dt_f
    | cons v r =>
      obtain ⟨x, rfl⟩ := cT_hd hs
      cases x <;> try (exact Dt_f)
      case ref q =>
        simp only [zstep]
        refine Dt_row hh (fun vs hvs => ?_)
        cases e : vs[b]? with
        | none => exact Dt_f
        | some w => exact Dt_pt ⟨hL, cT_cons (cT_at hvs e) (cT_tl hs), hh⟩
  case putfield ix =>
    cases st with
    | nil => exact Dt_f
    | cons v r =>
      cases r with
      | nil => exact Dt_f
      | cons w r =>
        obtain ⟨x, rfl⟩ := cT_hd (cT_tl hs)
        cases x <;> try (exact Dt_f)
        case ref q =>
          simp only [zstep]
          refine Dt_row hh (fun vs hvs => Dt_and (fun _ => Dt_and (fun _ => ?_)))
          exact Dt_pt ⟨hL, cT_tl (cT_tl hs), cH_set hh (cT_set hvs (cT_hd hs))⟩
  case new ix => exact Dt_and (fun _ => Dt_and (fun _ => Dt_and (fun _ => Dt_pt ⟨hL, cT_cons ⟨_, rfl⟩ hs, cH_app hh (cH_one (cT_def _))⟩)))
  case newarray ty =>
    cases st with
    | nil => exact Dt_f
    | cons v r =>
      obtain ⟨x, rfl⟩ := cT_hd hs
      cases x <;> try (exact Dt_f)
      case int n =>
        refine Dt_ite (fun _ => Dt_f) (fun _ => Dt_and (fun _ => Dt_and (fun _ => Dt_and (fun _ => Dt_and (fun _ => ?_)))))
        cases ty <;> first | exact Dt_f | exact Dt_pt ⟨hL, cT_cons ⟨_, rfl⟩ (cT_tl hs), cH_app hh (cH_one cT_rep)⟩
  case anewarray ix =>
    cases st with
    | nil => exact Dt_f
    | cons v r =>
      obtain ⟨x, rfl⟩ := cT_hd hs
      cases x <;> try (exact Dt_f)
      case int n => exact Dt_ite (fun _ => Dt_f) (fun _ => Dt_and (fun _ => Dt_and (fun _ => Dt_and (fun _ => Dt_and (fun _ => Dt_pt ⟨hL, cT_cons ⟨_, rfl⟩ (cT_tl hs), cH_app hh (cH_one cT_rep)⟩)))))
  case multianewarray ix dd =>
    cases st with
    | nil => exact Dt_f
    | cons v r =>
      obtain ⟨x, rfl⟩ := cT_hd hs
      cases r with
      | nil => cases x <;> exact Dt_f
      | cons w r =>
        obtain ⟨y, rfl⟩ := cT_hd (cT_tl hs)
        cases x <;> cases y <;> try (exact Dt_f)
        case int.int k n =>
          have hmap : cT ((List.range n.toNatClampNeg).map (fun i => (.inl (.ref (h.length + 1 + i)) : zV))) := fun v hv => by
            obtain ⟨i, -, rfl⟩ := List.mem_map.mp hv
            exact ⟨_, rfl⟩
          refine Dt_ite (fun _ => Dt_f) (fun _ => Dt_ite (fun _ => Dt_f) (fun _ => Dt_and (fun _ => Dt_and (fun _ => Dt_and (fun _ => Dt_and (fun _ => Dt_and (fun _ => ?_)))))))
          cases a with
          | zero => exact Dt_pt ⟨hL, cT_cons ⟨_, rfl⟩ (cT_tl (cT_tl hs)), cH_app hh (cH_cons hmap (cH_rep cT_rep))⟩
          | succ a =>
            cases a with
            | zero => exact Dt_pt ⟨hL, cT_cons ⟨_, rfl⟩ (cT_tl (cT_tl hs)), cH_app hh (cH_cons hmap (cH_rep cT_rep))⟩
            | succ a => exact Dt_f
  case iaload =>
    cases st with
    | nil => exact Dt_f
    | cons v r =>
      obtain ⟨x, rfl⟩ := cT_hd hs
      cases r with
      | nil => cases x <;> exact Dt_f
      | cons w r =>
        obtain ⟨y, rfl⟩ := cT_hd (cT_tl hs)
        cases x <;> cases y <;> try (exact Dt_f)
        case int.ref i q => exact Dt_ite (fun _ => Dt_el hsc (fun v hv => Dt_pt ⟨hL, cT_cons hv (cT_tl (cT_tl hs)), hh⟩)) (fun _ => Dt_ite (fun _ => Dt_el cT_und (fun v hv => Dt_pt ⟨hL, cT_cons hv (cT_tl (cT_tl hs)), hh⟩)) (fun _ => Dt_row hh (fun vs hvs => Dt_el hvs (fun v hv => Dt_pt ⟨hL, cT_cons hv (cT_tl (cT_tl hs)), hh⟩))))
  case laload =>
    cases st with
    | nil => exact Dt_f
    | cons v r =>
      obtain ⟨x, rfl⟩ := cT_hd hs
      cases r with
      | nil => cases x <;> exact Dt_f
      | cons w r =>
        obtain ⟨y, rfl⟩ := cT_hd (cT_tl hs)
        cases x <;> cases y <;> try (exact Dt_f)
        case int.ref i q =>
          simp only [zstep]
          refine Dt_row hh (fun vs hvs => Dt_el hvs (fun v hv => ?_))
          exact Dt_pt ⟨hL, cT_cons hv (cT_tl (cT_tl hs)), hh⟩
  case baload =>
    cases st with
    | nil => exact Dt_f
    | cons v r =>
      obtain ⟨x, rfl⟩ := cT_hd hs
      cases r with
      | nil => cases x <;> exact Dt_f
      | cons w r =>
        obtain ⟨y, rfl⟩ := cT_hd (cT_tl hs)
        cases x <;> cases y <;> try (exact Dt_f)
        case int.ref i q =>
          simp only [zstep]
          refine Dt_row hh (fun vs hvs => Dt_el hvs (fun v hv => ?_))
          exact Dt_pt ⟨hL, cT_cons hv (cT_tl (cT_tl hs)), hh⟩
  case aaload =>
    cases st with
    | nil => exact Dt_f
    | cons v r =>
      obtain ⟨x, rfl⟩ := cT_hd hs
      cases r with
      | nil => cases x <;> exact Dt_f
      | cons w r =>
        obtain ⟨y, rfl⟩ := cT_hd (cT_tl hs)
        cases x <;> cases y <;> try (exact Dt_f)
        case int.ref i q =>
          simp only [zstep]
          cases e : h[q]? with
          | none => exact Dt_f
          | some c0 => exact Dt_and (fun _ => Dt_and (fun _ => Dt_and (fun _ => Dt_el (hh c0 (List.mem_of_getElem? e)) (fun v hv => Dt_pt ⟨hL, cT_cons hv (cT_tl (cT_tl hs)), hh⟩))))
  case bastore =>
    cases st with
    | nil => exact Dt_f
    | cons v r =>
      obtain ⟨x, rfl⟩ := cT_hd hs
      cases r with
      | nil => cases x <;> exact Dt_f
      | cons w r =>
        obtain ⟨y, rfl⟩ := cT_hd (cT_tl hs)
        cases r with
        | nil => cases x <;> cases y <;> exact Dt_f
        | cons u r =>
          obtain ⟨z, rfl⟩ := cT_hd (cT_tl (cT_tl hs))
          cases x <;> cases y <;> try (exact Dt_f)
          case int.int m i =>
            cases z <;> try (exact Dt_f)
            case ref q =>
              simp only [zstep]
              refine Dt_row hh (fun vs hvs => Dt_and (fun _ => ?_))
              exact Dt_pt ⟨hL, cT_tl (cT_tl (cT_tl hs)), cH_set hh (cT_set hvs ⟨_, rfl⟩)⟩
  case iastore =>
    cases st with
    | nil => exact Dt_f
    | cons v r =>
      cases r with
      | nil => exact Dt_f
      | cons w r =>
        obtain ⟨y, rfl⟩ := cT_hd (cT_tl hs)
        cases r with
        | nil => cases y <;> exact Dt_f
        | cons u r =>
          obtain ⟨z, rfl⟩ := cT_hd (cT_tl (cT_tl hs))
          cases y <;> try (exact Dt_f)
          case int i =>
            cases z <;> try (exact Dt_f)
            case ref q =>
              simp only [zstep]
              refine Dt_and (fun _ => Dt_row hh (fun vs hvs => Dt_and (fun _ => ?_)))
              exact Dt_pt ⟨hL, cT_tl (cT_tl (cT_tl hs)), cH_set hh (cT_set hvs (cT_hd hs))⟩
  case lastore =>
    cases st with
    | nil => exact Dt_f
    | cons v r =>
      cases r with
      | nil => exact Dt_f
      | cons w r =>
        obtain ⟨y, rfl⟩ := cT_hd (cT_tl hs)
        cases r with
        | nil => cases y <;> exact Dt_f
        | cons u r =>
          obtain ⟨z, rfl⟩ := cT_hd (cT_tl (cT_tl hs))
          cases y <;> try (exact Dt_f)
          case int i =>
            cases z <;> try (exact Dt_f)
            case ref q =>
              simp only [zstep]
              refine Dt_and (fun _ => Dt_row hh (fun vs hvs => Dt_and (fun _ => ?_)))
              exact Dt_pt ⟨hL, cT_tl (cT_tl (cT_tl hs)), cH_set hh (cT_set hvs (cT_hd hs))⟩
  case aastore =>
    cases st with
    | nil => exact Dt_f
    | cons v r =>
      obtain ⟨x, rfl⟩ := cT_hd hs
      cases r with
      | nil => cases x <;> exact Dt_f
      | cons w r =>
        obtain ⟨y, rfl⟩ := cT_hd (cT_tl hs)
        cases r with
        | nil => cases x <;> cases y <;> exact Dt_f
        | cons u r =>
          obtain ⟨z, rfl⟩ := cT_hd (cT_tl (cT_tl hs))
          cases x <;> cases y <;> try (exact Dt_f)
          case ref.int o i =>
            cases z <;> try (exact Dt_f)
            case ref q =>
              simp only [zstep]
              refine Dt_row hh (fun _ _ => Dt_row hh (fun vs hvs => Dt_and (fun _ => ?_)))
              exact Dt_pt ⟨hL, cT_tl (cT_tl (cT_tl hs)), cH_set hh (cT_set hvs ⟨_, rfl⟩)⟩
  case getstatic ix => exact Dt_pt ⟨hL, cT_cons ⟨_, rfl⟩ hs, hh⟩
  case arraylength =>
    cases st with
    | nil => exact Dt_f
    | cons v r =>
      obtain ⟨x, rfl⟩ := cT_hd hs
      cases x <;> try (exact Dt_f)
      case ref q =>
        simp only [zstep]
        refine Dt_ite (fun _ => Dt_pt ⟨hL, cT_cons ⟨_, rfl⟩ (cT_tl hs), hh⟩) (fun _ => ?_)
        cases e : h[q]? with
        | none => exact Dt_f
        | some c0 => exact Dt_and (fun _ => Dt_and (fun _ => Dt_pt ⟨hL, cT_cons ⟨_, rfl⟩ (cT_tl hs), hh⟩))
  case ldc ix => exact Dt_pt ⟨hL, cT_cons hcv hs, hh⟩
  case ldc_w ix => exact Dt_pt ⟨hL, cT_cons hcv hs, hh⟩
  case ldc2_w ix => exact Dt_pt ⟨hL, cT_cons hcv hs, hh⟩
  case invokevirtual ix =>
    have k0 : Dt (fun K => zcalv prog cc a st h nc ns rc rs (fun st' h' nc' ns' => K (pc + 3, L, st', h', nc', ns'))) := Dt_calv hcc hs hh (fun st' h' nc' ns' h1 h2 => Dt_pt ⟨hL, h1, h2⟩)
    by_cases e0 : b = 0
    · subst e0; exact k0
    by_cases e8 : b = 8
    · subst e8
      cases st with
      | nil => exact Dt_f
      | cons v r =>
        obtain ⟨x, rfl⟩ := cT_hd hs
        cases x <;> try (exact Dt_f)
        case ref q =>
          simp only [zstep]
          cases e : zslen q with
          | none => exact Dt_f
          | some y => exact Dt_and (fun _ => Dt_pt ⟨hL, cT_cons ⟨_, rfl⟩ (cT_tl hs), hh⟩)
    by_cases e11 : b = 11
    · subst e11
      cases st with
      | nil => exact Dt_f
      | cons v r =>
        obtain ⟨x, rfl⟩ := cT_hd hs
        cases r with
        | nil => cases x <;> exact Dt_f
        | cons w r =>
          obtain ⟨y, rfl⟩ := cT_hd (cT_tl hs)
          cases x <;> cases y <;> try (exact Dt_f)
          case int.ref i q =>
            simp only [zstep]
            cases e : zsch q i with
            | none => exact Dt_f
            | some z => exact Dt_and (fun _ => Dt_pt ⟨hL, cT_cons ⟨_, rfl⟩ (cT_tl (cT_tl hs)), hh⟩)
    refine Or.inl (fun K => ?_)
    simp only [zstep]
  case invokespecial ix =>
    have k0 : Dt (fun K => zcalv prog cc a st h nc ns rc rs (fun st' h' nc' ns' => K (pc + 3, L, st', h', nc', ns'))) := Dt_calv hcc hs hh (fun st' h' nc' ns' h1 h2 => Dt_pt ⟨hL, h1, h2⟩)
    by_cases e6 : b = 6
    · subst e6
      cases st with
      | nil => exact Dt_f
      | cons v r =>
        obtain ⟨x, rfl⟩ := cT_hd hs
        cases x <;> first | exact Dt_f | exact Dt_and (fun _ => Dt_pt ⟨hL, cT_tl hs, hh⟩)
    · simp only [zstep]
      exact k0
  case invokestatic ix =>
    have k0 : Dt (fun K => zcall prog cc a st h nc ns rc rs (fun st' h' nc' ns' => K (pc + 3, L, st', h', nc', ns'))) := Dt_call hcc hs hh (fun st' h' nc' ns' h1 h2 => Dt_pt ⟨hL, h1, h2⟩)
    by_cases e7 : b = 7
    · subst e7
      cases st with
      | nil => exact Dt_f
      | cons v0 r =>
        obtain ⟨x0, rfl⟩ := cT_hd hs
        cases r with
        | nil => cases x0 <;> exact Dt_f
        | cons v1 r =>
          obtain ⟨x1, rfl⟩ := cT_hd (cT_tl hs)
          cases r with
          | nil => cases x0 <;> cases x1 <;> exact Dt_f
          | cons v2 r =>
            obtain ⟨x2, rfl⟩ := cT_hd (cT_tl (cT_tl hs))
            cases x0 <;> try (exact Dt_f)
            case int y0 =>
              cases x1 <;> try (exact Dt_f)
              case int y1 =>
                cases r with
                | nil => cases x2 <;> exact Dt_f
                | cons v3 r =>
                  obtain ⟨x3, rfl⟩ := cT_hd (cT_tl (cT_tl (cT_tl hs)))
                  cases x2 <;> try (exact Dt_f)
                  case ref y2 =>
                    cases r with
                    | nil => cases x3 <;> exact Dt_f
                    | cons v4 r =>
                      obtain ⟨x4, rfl⟩ := cT_hd (cT_tl (cT_tl (cT_tl (cT_tl hs))))
                      cases x3 <;> try (exact Dt_f)
                      case int y3 =>
                        cases x4 <;> try (exact Dt_f)
                        case ref y4 =>
                          cases r with
                          | cons v5 r => exact Dt_f
                          | nil =>
                            simp only [zstep]
                            refine Dt_ite (fun _ => Dt_f) (fun _ => Dt_ite (fun _ => Dt_f) (fun _ => Dt_ite (fun _ => Dt_f) (fun _ => Dt_row hh (fun f hf => Dt_row hh (fun g hg => Dt_and (fun _ => Dt_and (fun _ => ?_)))))))
                            exact Dt_pt ⟨hL, cT_nil, cH_set hh (cT_cpy hf hg _ _ _)⟩
    by_cases e9 : b = 9
    · subst e9
      cases st with
      | nil => exact Dt_f
      | cons v r =>
        obtain ⟨x, rfl⟩ := cT_hd hs
        cases r with
        | nil => cases x <;> exact Dt_f
        | cons w r =>
          obtain ⟨y, rfl⟩ := cT_hd (cT_tl hs)
          cases x <;> cases y <;> first | exact Dt_f | exact Dt_and (fun _ => Dt_pt ⟨hL, cT_cons ⟨_, rfl⟩ (cT_tl (cT_tl hs)), hh⟩)
    by_cases e10 : b = 10
    · subst e10
      cases st with
      | nil => exact Dt_f
      | cons v r =>
        obtain ⟨x, rfl⟩ := cT_hd hs
        cases r with
        | nil => cases x <;> exact Dt_f
        | cons w r =>
          obtain ⟨y, rfl⟩ := cT_hd (cT_tl hs)
          cases x <;> cases y <;> first | exact Dt_f | exact Dt_and (fun _ => Dt_pt ⟨hL, cT_cons ⟨_, rfl⟩ (cT_tl (cT_tl hs)), hh⟩)
    by_cases e12 : b = 12
    · subst e12
      cases st with
      | nil => exact Dt_f
      | cons v0 r =>
        obtain ⟨x0, rfl⟩ := cT_hd hs
        cases r with
        | nil => cases x0 <;> exact Dt_f
        | cons v1 r =>
          obtain ⟨x1, rfl⟩ := cT_hd (cT_tl hs)
          cases r with
          | nil => cases x0 <;> cases x1 <;> exact Dt_f
          | cons v2 r =>
            obtain ⟨x2, rfl⟩ := cT_hd (cT_tl (cT_tl hs))
            cases x0 <;> try (exact Dt_f)
            case int y0 =>
              cases x1 <;> try (exact Dt_f)
              case int y1 =>
                cases r with
                | nil => cases x2 <;> exact Dt_f
                | cons v3 r =>
                  obtain ⟨x3, rfl⟩ := cT_hd (cT_tl (cT_tl (cT_tl hs)))
                  cases x2 <;> try (exact Dt_f)
                  case ref y2 =>
                    cases r with
                    | nil => cases x3 <;> exact Dt_f
                    | cons v4 r =>
                      obtain ⟨x4, rfl⟩ := cT_hd (cT_tl (cT_tl (cT_tl (cT_tl hs))))
                      cases x3 <;> try (exact Dt_f)
                      case int y3 =>
                        cases x4 <;> try (exact Dt_f)
                        case ref y4 =>
                          cases r with
                          | cons v5 r => exact Dt_f
                          | nil =>
                            simp only [zstep]
                            refine Dt_ite (fun _ => Dt_f) (fun _ => Dt_ite (fun _ => Dt_f) (fun _ => Dt_ite (fun _ => Dt_f) (fun _ => Dt_row hh (fun f hf => Dt_row hh (fun g hg => Dt_and (fun _ => Dt_and (fun _ => ?_)))))))
                            exact Dt_pt ⟨hL, cT_nil, cH_set hh (cT_cpy hf hg _ _ _)⟩
    simp only [zstep]
    exact k0
end
