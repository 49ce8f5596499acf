set_option maxHeartbeats 4000000 in
set_option maxRecDepth 100000 in
theorem msInv_str {call : Nat → List Value → mW → mRs → Prop} {k pc : Nat} {args rest : List Value} {ls : mLs} {w : mW} {K : Nat → mLs → List Value → mW → Prop} (hc : mKeeps call) (hw : okW w) (hl : okL w.1.1 ls) (ha : okS w.1.1 args) (hr : okS w.1.1 rest)
    (h : msInv call k args rest pc ls w K) : msInv call k args rest pc ls w (fun pc' ls' st' w' => K pc' ls' st' w' ∧ mGo w ls w' ls' st') := by
  obtain ⟨h1, r, w', h2, h3⟩ := h
  obtain ⟨k1, k2, k3⟩ := hc _ _ _ _ _ h2 hw ha
  refine ⟨h1, r, w', h2, h3, k1, k2, fun v hv => ?_, hl.mono k1.1, rfl⟩
  rcases List.mem_append.mp hv with h | h
  · exact k3 v h
  · exact (hr v h).mono k1.1
set_option maxHeartbeats 4000000 in
set_option maxRecDepth 100000 in
theorem msCall_str {call : Nat → List Value → mW → mRs → Prop} {rci : Nat → Nat} {a b c pc : Nat} {ls : mLs} {st : List Value} {w : mW} {K : Nat → mLs → List Value → mW → Prop} (hc : mKeeps call) (hw : okW w) (hs : okS w.1.1 st) (hl : okL w.1.1 ls)
    (h : msCall call rci a b c pc ls st w K) : msCall call rci a b c pc ls st w (fun pc' ls' st' w' => K pc' ls' st' w' ∧ mGo w ls w' ls' st') := by
  unfold msCall at h ⊢
  split at h
  · refine popR_i h fun x r e h1 => ⟨h1.1, h1.2, mGo.here hw hl ?_⟩
    subst e; exact hs.tail
  · refine popI_i h fun n r e h1 => popI_i h1 fun dp r1 e1 h2 => popR_i h2 fun hd r2 e2 h3 => popI_i h3 fun sp r3 e3 h4 => popR_i h4 fun hsr r4 e4 h5 => ?_
    clear h h1 h2 h3 h4
    subst e e1 e2 e3 e4
    obtain ⟨a1, a2, a11, a3, a4, a5, a6, a7, a8, a9, a10, h⟩ := h5
    exact ⟨a1, a2, a11, a3, a4, a5, a6, a7, a8, a9, a10, h, mGo.st hw hl hs.tail.tail.tail.tail.tail⟩
  · refine popR_i h fun x r e h1 => ?_
    clear h
    subst e
    exact ⟨h1.1, h1.2.1, h1.2.2.1, h1.2.2.2.1, h1.2.2.2.2, mGo.push hw hl hs.tail⟩
  · refine popI_i h fun y r e h1 => popI_i h1 fun x r1 e1 h2 => ⟨h2.1, h2.2, mGo.here hw hl (okS.cons okv.int ?_)⟩
    subst e e1; exact hs.tail.tail
  · refine popI_i h fun y r e h1 => popI_i h1 fun x r1 e1 h2 => ⟨h2.1, h2.2, mGo.here hw hl (okS.cons okv.int ?_)⟩
    subst e e1; exact hs.tail.tail
  · cases e : mspl b [] st with
    | none => rw [e] at h; exact h.elim
    | some q =>
      obtain ⟨args, rest⟩ := q
      rw [e] at h
      obtain ⟨h1, h2⟩ := mspl_ok b [] st _ _ e (fun v hv => by cases hv) hs
      exact msInv_str hc hw hl h1 h2 h
  · cases e : mspl b [] st with
    | none => rw [e] at h; exact h.elim
    | some q =>
      obtain ⟨args, rest⟩ := q
      rw [e] at h
      obtain ⟨h1, h2⟩ := mspl_ok b [] st _ _ e (fun v hv => by cases hv) hs
      exact msInv_str hc hw hl h1 h2 h
  · exact h.elim
  · cases e : mspl b [] st with
    | none => rw [e] at h; exact h.elim
    | some q =>
      obtain ⟨args, rest⟩ := q
      rw [e] at h
      obtain ⟨h1, h2⟩ := mspl_ok b [] st _ _ e (fun v hv => by cases hv) hs
      refine popR_i h fun x r e h3 => ?_
      clear h
      subst e
      exact ⟨h3.1, msInv_str hc hw hl (okS.cons h2.head h1) h2.tail h3.2⟩
theorem okW_rX {w : mW} {h k : Nat} {v : Option Nat} {q : mF × mM × mL} (hw : okW w) (hv : ∀ x, v = some x → okh w.1.1 x) : okW (rX w.1 h k v, q) := by
  refine ⟨fun a j x ha e => ?_, hw.2⟩
  have e : cond (Nat.beq a h) (cond (Nat.beq j k) v (w.1.2.2.2.1 a j)) (w.1.2.2.2.1 a j) = some x := e
  cases h1 : Nat.beq a h with
  | false => rw [h1] at e; exact hw.1 a j x ha e
  | true =>
    rw [h1] at e
    cases h2 : Nat.beq j k with
    | false => rw [h2] at e; exact hw.1 a j x ha e
    | true => rw [h2] at e; exact hv x e
set_option maxHeartbeats 4000000 in
set_option maxRecDepth 100000 in
theorem msGet_str {a b c pc : Nat} {ls : mLs} {st : List Value} {w : mW} {K : Nat → mLs → List Value → mW → Prop} (hw : okW w) (hs : okS w.1.1 st) (hl : okL w.1.1 ls)
    (h : msGet a b c pc ls st w K) : msGet a b c pc ls st w (fun pc' ls' st' w' => K pc' ls' st' w' ∧ mGo w ls w' ls' st') := by
  unfold msGet at h ⊢
  refine popR_i h fun x r e h1 => ?_
  clear h
  have h := h1; clear h1
  subst e
  have hx0 := hs.head.of
  have hs := hs.tail
  cases hb : Nat.blt x mB with
  | true =>
    rw [hb] at h
    refine ⟨h.1, ?_⟩
    have h := h.2
    split at h
    · exact h.elim
    · exact ⟨h, mGo.here hw hl (okS.cons (okv.rf fun y hy => hw.1 _ _ y (hx0.elim id (fun q => absurd (Nat.le_of_ble_eq_true hb) (Nat.not_lt.mpr q))) hy) hs)⟩
    · exact ⟨h, mGo.here hw hl (okS.cons okv.long hs)⟩
    · exact ⟨h, mGo.here hw hl (okS.cons okv.int hs)⟩
  | false =>
    rw [hb] at h
    refine ⟨h.1, h.2.1, ?_⟩
    have h := h.2.2
    have hx : mB ≤ x := by
      rcases Nat.lt_or_ge x mB with h1 | h1
      · have : Nat.blt x mB = true := Nat.ble_eq.mpr h1
        rw [hb] at this
        cases this
      · exact h1
    split at h
    · exact ⟨h, mGo.here hw hl (okS.cons (okv.ref (Or.inr (Nat.le_trans hx (Nat.le_add_right _ _)))) hs)⟩
    · exact ⟨h, mGo.here hw hl (okS.cons okv.int hs)⟩
    · exact h.elim
set_option maxHeartbeats 4000000 in
set_option maxRecDepth 100000 in
theorem msPut_str {a b c pc : Nat} {ls : mLs} {st : List Value} {w : mW} {K : Nat → mLs → List Value → mW → Prop} (hw : okW w) (hs : okS w.1.1 st) (hl : okL w.1.1 ls)
    (h : msPut a b c pc ls st w K) : msPut a b c pc ls st w (fun pc' ls' st' w' => K pc' ls' st' w' ∧ mGo w ls w' ls' st') := by
  unfold msPut at h ⊢
  split at h
  · exact h.elim
  · refine popA_i h fun v r e h1 => popR_i h1 fun x r1 e1 h2 => ?_
    clear h h1
    have h := h2; clear h2
    subst e e1
    refine ⟨h.1, h.2.1, h.2.2, ⟨Nat.le_refl _, Nat.le_refl _, rfl⟩, okW_rX hw fun y hy => ?_, hs.tail.tail, hl, rfl⟩
    subst hy
    exact hs.head.of
  · refine popL_i h fun v r e h1 => popR_i h1 fun x r1 e1 h2 => ?_
    clear h h1
    have h := h2; clear h2
    subst e e1
    exact ⟨h.1, h.2.1, h.2.2, mGo.st hw hl hs.tail.tail⟩
  · refine popI_i h fun v r e h1 => popR_i h1 fun x r1 e1 h2 => ?_
    clear h h1
    have h := h2; clear h2
    subst e e1
    exact ⟨h.1, h.2.1, h.2.2.1, h.2.2.2, mGo.st hw hl hs.tail.tail⟩
set_option maxHeartbeats 8000000 in
set_option maxRecDepth 100000 in
theorem msem_str {call : Nat → List Value → mW → mRs → Prop} {rci : Nat → Nat} {e : mE} {pc : Nat} {ls : mLs} {st : List Value} {w : mW} {K : Nat → mLs → List Value → mW → Prop} {rt : Option Value → mW → Prop} (hc : mKeeps call) (hw : okW w) (hs : okS w.1.1 st) (hl : okL w.1.1 ls)
    (h : msem call rci e pc ls st w K rt) : msem call rci e pc ls st w (fun pc' ls' st' w' => K pc' ls' st' w' ∧ mGo w ls w' ls' st') (fun r w' => rt r w' ∧ w' = w ∧ okS w.1.1 r.toList) := by
  obtain ⟨i, len, a, b, c⟩ := e
  cases i with
  | iconst n => exact And.intro h (mGo.here hw hl (okS.cons okv.int hs))
  | bipush n => exact And.intro h (mGo.here hw hl (okS.cons okv.int hs))
  | sipush n => exact And.intro h (mGo.here hw hl (okS.cons okv.int hs))
  | lconst n => exact And.intro h (mGo.here hw hl (okS.cons okv.long hs))
  | aconst_null => exact And.intro h (mGo.here hw hl (okS.cons okv.null hs))
  | ldc n =>
    match c, h with
    | 0, h => exact And.intro h (mGo.here hw hl (okS.cons (okv.ref (Or.inr (Nat.le_add_right _ _))) hs))
    | 1, h => exact And.intro h (mGo.here hw hl (okS.cons okv.int hs))
    | c + 2, h => exact h.elim
  | ldc2_w n => exact And.intro h (mGo.here hw hl (okS.cons okv.long hs))
  | iload n => exact ldI_i h fun x e h => And.intro h (mGo.here hw hl (okS.cons okv.int hs))
  | iload_n n => exact ldI_i h fun x e h => And.intro h (mGo.here hw hl (okS.cons okv.int hs))
  | lload n => exact ldL_i h fun x e h => And.intro h (mGo.here hw hl (okS.cons okv.long hs))
  | lload_n n => exact ldL_i h fun x e h => And.intro h (mGo.here hw hl (okS.cons okv.long hs))
  | aload n => exact ldA_i (ls := ls) (i := n) (f := fun x => K (pc + 2) ls (va_rf x :: st) w) h fun x e h => And.intro h (mGo.here hw hl (okS.cons (hl _ _ e) hs))
  | aload_n n => exact ldA_i (ls := ls) (i := n) (f := fun x => K (pc + 1) ls (va_rf x :: st) w) h fun x e h => And.intro h (mGo.here hw hl (okS.cons (hl _ _ e) hs))
  | istore n => exact popI_i h fun x r e h => stV_i h fun l e1 h => And.intro h ⟨leW.rf _, hw, (e ▸ hs).tail, hl.set okv.int e1, (mset_get e1).1⟩
  | istore_n n => exact popI_i h fun x r e h => stV_i h fun l e1 h => And.intro h ⟨leW.rf _, hw, (e ▸ hs).tail, hl.set okv.int e1, (mset_get e1).1⟩
  | lstore n => exact popL_i h fun x r e h => stL_i h fun l e1 h => And.intro h ⟨leW.rf _, hw, (e ▸ hs).tail, hl.set2 okv.long e1, (mset2_get e1).1⟩
  | lstore_n n => exact popL_i h fun x r e h => stL_i h fun l e1 h => And.intro h ⟨leW.rf _, hw, (e ▸ hs).tail, hl.set2 okv.long e1, (mset2_get e1).1⟩
  | astore n => exact popR_i h fun x r e h => stV_i h fun l e1 h => And.intro h ⟨leW.rf _, hw, (e ▸ hs).tail, hl.set (e ▸ hs).head e1, (mset_get e1).1⟩
  | astore_n n => exact popR_i h fun x r e h => stV_i h fun l e1 h => And.intro h ⟨leW.rf _, hw, (e ▸ hs).tail, hl.set (e ▸ hs).head e1, (mset_get e1).1⟩
  | iinc n k => exact ldI_i h fun x e h => stV_i h fun l e1 h => And.intro h ⟨leW.rf _, hw, hs, hl.set okv.int e1, (mset_get e1).1⟩
  | iadd => exact popI_i h fun y r e h => popI_i h fun x r1 e1 h => And.intro h (mGo.here hw hl (okS.cons okv.int (e1 ▸ (e ▸ hs).tail).tail))
  | isub => exact popI_i h fun y r e h => popI_i h fun x r1 e1 h => And.intro h (mGo.here hw hl (okS.cons okv.int (e1 ▸ (e ▸ hs).tail).tail))
  | imul => exact popI_i h fun y r e h => popI_i h fun x r1 e1 h => And.intro h (mGo.here hw hl (okS.cons okv.int (e1 ▸ (e ▸ hs).tail).tail))
  | iand => exact popI_i h fun y r e h => popI_i h fun x r1 e1 h => And.intro h (mGo.here hw hl (okS.cons okv.int (e1 ▸ (e ▸ hs).tail).tail))
  | ior => exact popI_i h fun y r e h => popI_i h fun x r1 e1 h => And.intro h (mGo.here hw hl (okS.cons okv.int (e1 ▸ (e ▸ hs).tail).tail))
  | ishl => exact popI_i h fun y r e h => popI_i h fun x r1 e1 h => And.intro h (mGo.here hw hl (okS.cons okv.int (e1 ▸ (e ▸ hs).tail).tail))
  | ishr => exact popI_i h fun y r e h => popI_i h fun x r1 e1 h => And.intro h (mGo.here hw hl (okS.cons okv.int (e1 ▸ (e ▸ hs).tail).tail))
  | idiv => exact popI_i h fun y r e h => popI_i h fun x r1 e1 h => And.intro h.1 (And.intro h.2 (mGo.here hw hl (okS.cons okv.int (e1 ▸ (e ▸ hs).tail).tail)))
  | irem => exact popI_i h fun y r e h => popI_i h fun x r1 e1 h => And.intro h.1 (And.intro h.2 (mGo.here hw hl (okS.cons okv.int (e1 ▸ (e ▸ hs).tail).tail)))
  | ineg => exact popI_i h fun y r e h => And.intro h (mGo.here hw hl (okS.cons okv.int (e ▸ hs).tail))
  | ladd => exact popL_i h fun y r e h => popL_i h fun x r1 e1 h => And.intro h (mGo.here hw hl (okS.cons okv.long (e1 ▸ (e ▸ hs).tail).tail))
  | lmul => exact popL_i h fun y r e h => popL_i h fun x r1 e1 h => And.intro h (mGo.here hw hl (okS.cons okv.long (e1 ▸ (e ▸ hs).tail).tail))
  | lcmp => exact popL_i h fun y r e h => popL_i h fun x r1 e1 h => And.intro h (mGo.here hw hl (okS.cons okv.int (e1 ▸ (e ▸ hs).tail).tail))
  | i2l => exact popI_i h fun y r e h => And.intro h (mGo.here hw hl (okS.cons okv.long (e ▸ hs).tail))
  | i2b => exact popI_i h fun y r e h => And.intro h (mGo.here hw hl (okS.cons okv.int (e ▸ hs).tail))
  | i2c => exact popI_i h fun y r e h => And.intro h (mGo.here hw hl (okS.cons okv.int (e ▸ hs).tail))
  | dup => exact pop1_i h fun v r e hc h => And.intro h (mGo.here hw hl (okS.cons (e ▸ hs).head (okS.cons (e ▸ hs).head (e ▸ hs).tail)))
  | pop => exact pop1_i h fun v r e hc h => And.intro h (mGo.here hw hl (e ▸ hs).tail)
  | dup_x1 => exact pop1_i h fun v r e hc h => pop1_i h fun u r1 e1 hc1 h => And.intro h (mGo.here hw hl (okS.cons (e ▸ hs).head (okS.cons (e1 ▸ (e ▸ hs).tail).head (okS.cons (e ▸ hs).head (e1 ▸ (e ▸ hs).tail).tail))))
  | dup2 => exact pop1_i h fun v r e hc h => pop1_i h fun u r1 e1 hc1 h => And.intro h (mGo.here hw hl (okS.cons (e ▸ hs).head (okS.cons (e1 ▸ (e ▸ hs).tail).head (okS.cons (e ▸ hs).head (okS.cons (e1 ▸ (e ▸ hs).tail).head (e1 ▸ (e ▸ hs).tail).tail)))))
  | if_icmp cd off => exact popI_i h fun y r e h => popI_i h fun x r1 e1 h => And.intro (fun z => And.intro (h.1 z) (mGo.here hw hl (e1 ▸ (e ▸ hs).tail).tail)) (fun z => And.intro (h.2 z) (mGo.here hw hl (e1 ▸ (e ▸ hs).tail).tail))
  | ifCond cd off => exact popI_i h fun y r e h => And.intro (fun z => And.intro (h.1 z) (mGo.here hw hl (e ▸ hs).tail)) (fun z => And.intro (h.2 z) (mGo.here hw hl (e ▸ hs).tail))
  | goto off => exact And.intro h (mGo.here hw hl hs)
  | ifnonnull off => exact popR_i h fun y r e h => And.intro h (mGo.here hw hl (e ▸ hs).tail)
  | tableswitch d lo hi offs =>
    refine popI_i h fun x r e h => ?_
    dsimp only at h ⊢
    cases hm : mtab d lo hi offs pc x with
    | none => rw [hm] at h; exact h.elim
    | some t => rw [hm] at h; exact And.intro h (mGo.here hw hl (e ▸ hs).tail)
  | lookupswitch d ps =>
    refine popI_i h fun x r e h => And.intro h.1 ?_
    have h := h.2
    dsimp only at h ⊢
    cases hm : mlku d ps pc x with
    | none => rw [hm] at h; exact h.elim
    | some t => rw [hm] at h; exact And.intro h (mGo.here hw hl (e ▸ hs).tail)
  | getfield n => exact msGet_str hw hs hl h
  | putfield n => exact msPut_str hw hs hl h
  | getstatic n =>
    match c, h with
    | 0, h => exact And.intro h (mGo.here hw hl (okS.cons okv.int hs))
    | 1, h => exact And.intro h.1 (And.intro h.2 (mGo.here hw hl (okS.cons (okv.ref (Or.inr (Nat.le_of_ble_eq_true h.1))) hs)))
    | 2, h => exact And.intro h (mGo.here hw hl (okS.cons (hw.2.mono (Nat.zero_le _)) hs))
    | c + 3, h => exact h.elim
  | iaload => exact popI_i h fun i r e h => popR_i h fun x r1 e1 h => ⟨h.1, h.2.1, h.2.2, mGo.here hw hl (okS.cons okv.int (e1 ▸ (e ▸ hs).tail).tail)⟩
  | baload => exact popI_i h fun i r e h => popR_i h fun x r1 e1 h => ⟨h.1, h.2.1, h.2.2, mGo.here hw hl (okS.cons okv.int (e1 ▸ (e ▸ hs).tail).tail)⟩
  | iastore => exact popI_i h fun y r e h => popI_i h fun i r1 e1 h => popR_i h fun x r2 e2 h => ⟨h.1, h.2.1, h.2.2.1, h.2.2.2.1, h.2.2.2.2, mGo.st hw hl (e2 ▸ (e1 ▸ (e ▸ hs).tail).tail).tail⟩
  | bastore => exact popI_i h fun y r e h => popI_i h fun i r1 e1 h => popR_i h fun x r2 e2 h => ⟨h.1, h.2.1, h.2.2.1, h.2.2.2.1, h.2.2.2.2, mGo.st hw hl (e2 ▸ (e1 ▸ (e ▸ hs).tail).tail).tail⟩
  | arraylength => exact popR_i h fun x r e h => ⟨h.1, h.2, mGo.here hw hl (okS.cons okv.int (e ▸ hs).tail)⟩
  | newarray t => exact popI_i h fun n r e h => ⟨h.1, h.2.1, h.2.2.1, h.2.2.2, mGo.push hw hl (e ▸ hs).tail⟩
  | new n => exact And.intro h.1 (And.intro h.2 (mGo.push hw hl hs))
  | checkcast n => exact popR_i h fun x r e h => ⟨h.1, h.2.1, h.2.2, mGo.here hw hl (okS.cons (e ▸ hs).head (e ▸ hs).tail)⟩
  | invokevirtual n => exact msCall_str hc hw hs hl h
  | invokespecial n => exact msCall_str hc hw hs hl h
  | invokestatic n => exact msCall_str hc hw hs hl h
  | ireturn =>
    match st, h, hs with
    | [.int x], h, hs => exact And.intro h.1 (And.intro h.2 ⟨rfl, okS.cons okv.int (fun v hv => by cases hv)⟩)
    | [], h, _ => exact h.elim
    | .int _ :: _ :: _, h, _ => exact h.elim
    | .long _ :: _, h, _ => exact h.elim
    | .float _ :: _, h, _ => exact h.elim
    | .double _ :: _, h, _ => exact h.elim
    | .null :: _, h, _ => exact h.elim
    | .ref _ :: _, h, _ => exact h.elim
    | .retAddr _ :: _, h, _ => exact h.elim
  | lreturn =>
    match st, h, hs with
    | [.long x], h, hs => exact And.intro h ⟨rfl, okS.cons okv.long (fun v hv => by cases hv)⟩
    | [], h, _ => exact h.elim
    | .long _ :: _ :: _, h, _ => exact h.elim
    | .int _ :: _, h, _ => exact h.elim
    | .float _ :: _, h, _ => exact h.elim
    | .double _ :: _, h, _ => exact h.elim
    | .null :: _, h, _ => exact h.elim
    | .ref _ :: _, h, _ => exact h.elim
    | .retAddr _ :: _, h, _ => exact h.elim
  | areturn =>
    match st, h, hs with
    | [.ref x], h, hs => exact And.intro h ⟨rfl, okS.cons hs.head (fun v hv => by cases hv)⟩
    | [], h, _ => exact h.elim
    | .ref _ :: _ :: _, h, _ => exact h.elim
    | .int _ :: _, h, _ => exact h.elim
    | .float _ :: _, h, _ => exact h.elim
    | .double _ :: _, h, _ => exact h.elim
    | .null :: _, h, _ => exact h.elim
    | .long _ :: _, h, _ => exact h.elim
    | .retAddr _ :: _, h, _ => exact h.elim
  | return_ =>
    match st, h with
    | [], h => exact And.intro h ⟨rfl, fun v hv => by cases hv⟩
    | _ :: _, h => exact h.elim
  | _ => exact h.elim
theorem msInv_out {call : Nat → List Value → mW → mRs → Prop} {k pc : Nat} {args rest : List Value} {ls : mLs} {w : mW} {K : Nat → mLs → List Value → mW → Prop} {G : Prop} (h : msInv call k args rest pc ls w K) (hK : ∀ a b c d, K a b c d → G) : G := by
  obtain ⟨_, _, _, _, h⟩ := h
  exact hK _ _ _ _ h
theorem popI_o {st : List Value} {f : Int32 → List Value → Prop} {G : Prop} (h : popI st f) (k : ∀ x r, st = .int x :: r → f x r → G) : G := by
  unfold popI at h
  split at h
  · exact k _ _ rfl h
  · exact h.elim
theorem popL_o {st : List Value} {f : Int64 → List Value → Prop} {G : Prop} (h : popL st f) (k : ∀ x r, st = .long x :: r → f x r → G) : G := by
  unfold popL at h
  split at h
  · exact k _ _ rfl h
  · exact h.elim
theorem popR_o {st : List Value} {f : Nat → List Value → Prop} {G : Prop} (h : popR st f) (k : ∀ x r, st = .ref x :: r → f x r → G) : G := by
  unfold popR at h
  split at h
  · exact k _ _ rfl h
  · exact h.elim
theorem popA_o {st : List Value} {f : Option Nat → List Value → Prop} {G : Prop} (h : popA st f) (k : ∀ x r, st = va_rf x :: r → f x r → G) : G := by
  unfold popA at h
  split at h
  · exact k (some _) _ rfl h
  · exact k none _ rfl h
  · exact h.elim
theorem pop1_o {st : List Value} {f : Value → List Value → Prop} {G : Prop} (h : pop1 st f) (k : ∀ x r, st = x :: r → x.category = 1 → f x r → G) : G := by
  unfold pop1 at h
  split at h
  · exact k _ _ rfl h.1 h.2
  · exact h.elim
theorem ldI_o {ls : mLs} {i : Nat} {f : Int32 → Prop} {G : Prop} (h : ldI ls i f) (k : ∀ x, mget ls i = some (.int x) → f x → G) : G := by
  unfold ldI at h
  cases e : mget ls i with
  | none => rw [e] at h; exact h.elim
  | some v => rw [e] at h; cases v <;> first | exact h.elim | exact k _ e h
theorem ldL_o {ls : mLs} {i : Nat} {f : Int64 → Prop} {G : Prop} (h : ldL ls i f) (k : ∀ x, mget ls i = some (.long x) → f x → G) : G := by
  unfold ldL at h
  cases e : mget ls i with
  | none => rw [e] at h; exact h.elim
  | some v => rw [e] at h; cases v <;> first | exact h.elim | exact k _ e h
theorem ldA_o {ls : mLs} {i : Nat} {f : Option Nat → Prop} {G : Prop} (h : ldA ls i f) (k : ∀ x, mget ls i = some (va_rf x) → f x → G) : G := by
  unfold ldA at h
  cases e : mget ls i with
  | none => rw [e] at h; exact h.elim
  | some v => rw [e] at h; cases v <;> first | exact h.elim | exact k (some _) e h | exact k none e h
theorem stV_o {ls : mLs} {i : Nat} {v : Value} {f : mLs → Prop} {G : Prop} (h : stV ls i v f) (k : ∀ l, mset ls i v = some l → f l → G) : G := by
  unfold stV at h
  cases e : mset ls i v with
  | none => rw [e] at h; exact h.elim
  | some l => rw [e] at h; exact k l e h
theorem stL_o {ls : mLs} {i : Nat} {v : Value} {f : mLs → Prop} {G : Prop} (h : stL ls i v f) (k : ∀ l, mset2 ls i v = some l → f l → G) : G := by
  unfold stL at h
  cases e : mset2 ls i v with
  | none => rw [e] at h; exact h.elim
  | some l => rw [e] at h; exact k l e h
theorem msCall_out {call : Nat → List Value → mW → mRs → Prop} {rci : Nat → Nat} {a b c pc : Nat} {ls : mLs} {st : List Value} {w : mW} {K : Nat → mLs → List Value → mW → Prop} {G : Prop} (h : msCall call rci a b c pc ls st w K) (hK : ∀ a b c d, K a b c d → G) : G := by
  unfold msCall at h
  split at h
  · exact popR_o h fun _ _ _ h => hK _ _ _ _ h.2
  · exact popI_o h fun _ _ _ h => popI_o h fun _ _ _ h => popR_o h fun _ _ _ h => popI_o h fun _ _ _ h => popR_o h fun _ _ _ h => hK _ _ _ _ h.2.2.2.2.2.2.2.2.2.2.2
  · exact popR_o h fun _ _ _ h => hK _ _ _ _ h.2.2.2.2
  · exact popI_o h fun _ _ _ h => popI_o h fun _ _ _ h => hK _ _ _ _ h.2
  · exact popI_o h fun _ _ _ h => popI_o h fun _ _ _ h => hK _ _ _ _ h.2
  · split at h
    · exact msInv_out h hK
    · exact h.elim
  · split at h
    · exact msInv_out h hK
    · exact h.elim
  · exact h.elim
  · split at h
    · exact popR_o h fun _ _ _ h => msInv_out h.2 hK
    · exact h.elim
set_option maxHeartbeats 8000000 in
set_option maxRecDepth 100000 in
theorem msem_out {call : Nat → List Value → mW → mRs → Prop} {rci : Nat → Nat} {e : mE} {pc : Nat} {ls : mLs} {st : List Value} {w : mW} {K : Nat → mLs → List Value → mW → Prop} {rt : Option Value → mW → Prop} {G : Prop} (h : msem call rci e pc ls st w K rt)
    (hK : ∀ a b c d, K a b c d → G) (hR : ∀ a b, rt a b → G) : G := by
  obtain ⟨i, len, a, b, c⟩ := e
  cases i with
  | iconst n => exact hK _ _ _ _ h
  | bipush n => exact hK _ _ _ _ h
  | sipush n => exact hK _ _ _ _ h
  | lconst n => exact hK _ _ _ _ h
  | aconst_null => exact hK _ _ _ _ h
  | ldc n =>
    match c, h with
    | 0, h => exact hK _ _ _ _ h
    | 1, h => exact hK _ _ _ _ h
    | c + 2, h => exact h.elim
  | ldc2_w n => exact hK _ _ _ _ h
  | iload n => exact ldI_o h fun _ _ h => hK _ _ _ _ h
  | iload_n n => exact ldI_o h fun _ _ h => hK _ _ _ _ h
  | lload n => exact ldL_o h fun _ _ h => hK _ _ _ _ h
  | lload_n n => exact ldL_o h fun _ _ h => hK _ _ _ _ h
  | aload n => exact ldA_o (ls := ls) (i := n) (f := fun x => K (pc + 2) ls (va_rf x :: st) w) h fun _ _ h => hK _ _ _ _ h
  | aload_n n => exact ldA_o (ls := ls) (i := n) (f := fun x => K (pc + 1) ls (va_rf x :: st) w) h fun _ _ h => hK _ _ _ _ h
  | istore n => exact popI_o h fun _ _ _ h => stV_o h fun _ _ h => hK _ _ _ _ h
  | istore_n n => exact popI_o h fun _ _ _ h => stV_o h fun _ _ h => hK _ _ _ _ h
  | lstore n => exact popL_o h fun _ _ _ h => stL_o h fun _ _ h => hK _ _ _ _ h
  | lstore_n n => exact popL_o h fun _ _ _ h => stL_o h fun _ _ h => hK _ _ _ _ h
  | astore n => exact popR_o h fun _ _ _ h => stV_o h fun _ _ h => hK _ _ _ _ h
  | astore_n n => exact popR_o h fun _ _ _ h => stV_o h fun _ _ h => hK _ _ _ _ h
  | iinc n k => exact ldI_o h fun _ _ h => stV_o h fun _ _ h => hK _ _ _ _ h
  | iadd => exact popI_o h fun _ _ _ h => popI_o h fun _ _ _ h => hK _ _ _ _ h
  | isub => exact popI_o h fun _ _ _ h => popI_o h fun _ _ _ h => hK _ _ _ _ h
  | imul => exact popI_o h fun _ _ _ h => popI_o h fun _ _ _ h => hK _ _ _ _ h
  | iand => exact popI_o h fun _ _ _ h => popI_o h fun _ _ _ h => hK _ _ _ _ h
  | ior => exact popI_o h fun _ _ _ h => popI_o h fun _ _ _ h => hK _ _ _ _ h
  | ishl => exact popI_o h fun _ _ _ h => popI_o h fun _ _ _ h => hK _ _ _ _ h
  | ishr => exact popI_o h fun _ _ _ h => popI_o h fun _ _ _ h => hK _ _ _ _ h
  | idiv => exact popI_o h fun _ _ _ h => popI_o h fun _ _ _ h => hK _ _ _ _ h.2
  | irem => exact popI_o h fun _ _ _ h => popI_o h fun _ _ _ h => hK _ _ _ _ h.2
  | ineg => exact popI_o h fun _ _ _ h => hK _ _ _ _ h
  | ladd => exact popL_o h fun _ _ _ h => popL_o h fun _ _ _ h => hK _ _ _ _ h
  | lmul => exact popL_o h fun _ _ _ h => popL_o h fun _ _ _ h => hK _ _ _ _ h
  | lcmp => exact popL_o h fun _ _ _ h => popL_o h fun _ _ _ h => hK _ _ _ _ h
  | i2l => exact popI_o h fun _ _ _ h => hK _ _ _ _ h
  | i2b => exact popI_o h fun _ _ _ h => hK _ _ _ _ h
  | i2c => exact popI_o h fun _ _ _ h => hK _ _ _ _ h
  | dup => exact pop1_o h fun _ _ _ _ h => hK _ _ _ _ h
  | pop => exact pop1_o h fun _ _ _ _ h => hK _ _ _ _ h
  | dup_x1 => exact pop1_o h fun _ _ _ _ h => pop1_o h fun _ _ _ _ h => hK _ _ _ _ h
  | dup2 => exact pop1_o h fun _ _ _ _ h => pop1_o h fun _ _ _ _ h => hK _ _ _ _ h
  | if_icmp cd off => exact popI_o h fun y _ _ h => popI_o h fun x _ _ h => (Classical.em (mcmp cd x y)).elim (fun z => hK _ _ _ _ (h.1 z)) (fun z => hK _ _ _ _ (h.2 z))
  | ifCond cd off => exact popI_o h fun x _ _ h => (Classical.em (mcmp cd x 0)).elim (fun z => hK _ _ _ _ (h.1 z)) (fun z => hK _ _ _ _ (h.2 z))
  | goto off => exact hK _ _ _ _ h
  | ifnonnull off => exact popR_o h fun _ _ _ h => hK _ _ _ _ h
  | tableswitch d lo hi offs =>
    refine popI_o h fun x r e h => ?_
    cases hm : mtab d lo hi offs pc x with
    | none => rw [hm] at h; exact h.elim
    | some t => rw [hm] at h; exact hK _ _ _ _ h
  | lookupswitch d ps =>
    refine popI_o h fun x r e h => ?_
    have h := h.2
    cases hm : mlku d ps pc x with
    | none => rw [hm] at h; exact h.elim
    | some t => rw [hm] at h; exact hK _ _ _ _ h
  | getfield n =>
    have h : msGet a b c pc ls st w K := h
    unfold msGet at h
    refine popR_o h fun x r e h => ?_
    cases hb : Nat.blt x mB with
    | true =>
      rw [hb] at h
      have h := h.2
      split at h
      · exact h.elim
      all_goals exact hK _ _ _ _ h
    | false =>
      rw [hb] at h
      have h := h.2.2
      split at h
      · exact hK _ _ _ _ h
      · exact hK _ _ _ _ h
      · exact h.elim
  | putfield n =>
    have h : msPut a b c pc ls st w K := h
    unfold msPut at h
    split at h
    · exact h.elim
    · exact popA_o h fun _ _ _ h => popR_o h fun _ _ _ h => hK _ _ _ _ h.2.2
    · exact popL_o h fun _ _ _ h => popR_o h fun _ _ _ h => hK _ _ _ _ h.2.2
    · exact popI_o h fun _ _ _ h => popR_o h fun _ _ _ h => hK _ _ _ _ h.2.2.2
  | getstatic n =>
    match c, h with
    | 0, h => exact hK _ _ _ _ h
    | 1, h => exact hK _ _ _ _ h.2
    | 2, h => exact hK _ _ _ _ h
    | c + 3, h => exact h.elim
  | iaload => exact popI_o h fun _ _ _ h => popR_o h fun _ _ _ h => hK _ _ _ _ h.2.2
  | baload => exact popI_o h fun _ _ _ h => popR_o h fun _ _ _ h => hK _ _ _ _ h.2.2
  | iastore => exact popI_o h fun _ _ _ h => popI_o h fun _ _ _ h => popR_o h fun _ _ _ h => hK _ _ _ _ h.2.2.2.2
  | bastore => exact popI_o h fun _ _ _ h => popI_o h fun _ _ _ h => popR_o h fun _ _ _ h => hK _ _ _ _ h.2.2.2.2
  | arraylength => exact popR_o h fun _ _ _ h => hK _ _ _ _ h.2
  | newarray t => exact popI_o h fun _ _ _ h => hK _ _ _ _ h.2.2.2
  | new n => exact hK _ _ _ _ (And.right h)
  | checkcast n => exact popR_o h fun _ _ _ h => hK _ _ _ _ h.2.2
  | invokevirtual n => exact msCall_out h hK
  | invokespecial n => exact msCall_out h hK
  | invokestatic n => exact msCall_out h hK
  | ireturn =>
    match st, h with
    | [.int x], h => exact hR _ _ (And.right h)
    | [], h => exact h.elim
    | .int _ :: _ :: _, h => exact h.elim
    | .long _ :: _, h => exact h.elim
    | .float _ :: _, h => exact h.elim
    | .double _ :: _, h => exact h.elim
    | .null :: _, h => exact h.elim
    | .ref _ :: _, h => exact h.elim
    | .retAddr _ :: _, h => exact h.elim
  | lreturn =>
    match st, h with
    | [.long x], h => exact hR _ _ h
    | [], h => exact h.elim
    | .long _ :: _ :: _, h => exact h.elim
    | .int _ :: _, h => exact h.elim
    | .float _ :: _, h => exact h.elim
    | .double _ :: _, h => exact h.elim
    | .null :: _, h => exact h.elim
    | .ref _ :: _, h => exact h.elim
    | .retAddr _ :: _, h => exact h.elim
  | areturn =>
    match st, h with
    | [.ref x], h => exact hR _ _ h
    | [], h => exact h.elim
    | .ref _ :: _ :: _, h => exact h.elim
    | .int _ :: _, h => exact h.elim
    | .float _ :: _, h => exact h.elim
    | .double _ :: _, h => exact h.elim
    | .null :: _, h => exact h.elim
    | .long _ :: _, h => exact h.elim
    | .retAddr _ :: _, h => exact h.elim
  | return_ =>
    match st, h with
    | [], h => exact hR _ _ h
    | _ :: _, h => exact h.elim
  | _ => exact h.elim
theorem mrun_keeps {call : Nat → List Value → mW → mRs → Prop} {rci : Nat → Nat} {T : mT} (hc : mKeeps call) : ∀ (n pc : Nat) (ls : mLs) (st : List Value) (w : mW) (r : Option Value) (w' : mW), mrun call rci T n pc ls st w (r, w') → okW w → okS w.1.1 st → okL w.1.1 ls → leW w w' ∧ okW w' ∧ okS w'.1.1 r.toList
  | 0, _, _, _, _, _, _, h, _, _, _ => h.elim
  | n + 1, pc, ls, st, w, r, w', h, hw, hs, hl => by
    unfold mrun at h
    cases he : mlk2 T pc with
    | none => rw [he] at h; exact h.elim
    | some e =>
      rw [he] at h
      have h1 := msem_str hc hw hs hl h
      exact msem_out h1 (fun pc' ls' st' w2 k => by
        obtain ⟨k1, k2, k3, k4, k5, -⟩ := k
        obtain ⟨g1, g2⟩ := mrun_keeps hc n pc' ls' st' w2 r w' k1 k3 k4 k5
        exact ⟨k2.tr g1, g2⟩) (fun r2 w2 k => by
        obtain ⟨k1, k2, k3⟩ := k
        cases k1
        subst k2
        exact ⟨leW.rf _, hw, k3⟩)
theorem mins_ok {n : Nat} : ∀ (vs : List Value), okS n vs → okL n (mins vs)
  | [], _, i, v, h => by simp [mins, mget] at h
  | u :: vs, hs, i, v, h => by
    have ih := mins_ok vs hs.tail
    cases u <;> first
      | (cases i with
        | zero => (have h : some _ = some v := h); cases h; exact hs.head
        | succ i => exact ih i v h)
      | (match i, h with
        | 0, h => (have h : some _ = some v := h); cases h; exact hs.head
        | 1, h => cases h
        | i + 2, h => exact ih i v h)
theorem mpad_get : ∀ (n : Nat) (l l' : mLs), mpad n l = some l' → l'.length = n ∧ ∀ i v, mget l' i = some v → mget l i = some v
  | 0, [], l', h => by cases h; exact ⟨rfl, fun i v h => h⟩
  | 0, _ :: _, l', h => by cases h
  | n + 1, [], l', h => by
    unfold mpad at h
    cases e : mpad n [] with
    | none => rw [e] at h; cases h
    | some l =>
      rw [e] at h; cases h
      obtain ⟨h1, h2⟩ := mpad_get n [] l e
      refine ⟨by simp [h1], fun i v h => ?_⟩
      cases i with
      | zero => cases h
      | succ i => exact (by have := h2 i v h; simp [mget] at this)
  | n + 1, a :: r, l', h => by
    unfold mpad at h
    cases e : mpad n r with
    | none => rw [e] at h; cases h
    | some l =>
      rw [e] at h; cases h
      obtain ⟨h1, h2⟩ := mpad_get n r l e
      refine ⟨by simp [h1], fun i v h => ?_⟩
      cases i with
      | zero => exact h
      | succ i => exact h2 i v h
theorem mcall_keeps (mm : Nat → Option mQ) (rci : Nat → Nat) : ∀ d, mKeeps (mcall mm rci d)
  | 0 => fun _ _ _ _ _ h => h.elim
  | d + 1 => by
    intro k args w r w' h hw ha
    obtain ⟨q, ls, n, h1, h2, h3⟩ := h
    exact mrun_keeps (mcall_keeps mm rci d) n 0 ls [] w r w' h3 hw (fun v hv => by cases hv) (fun i v hv => mins_ok args ha i v ((mpad_get _ _ _ h2).2 i v hv))
