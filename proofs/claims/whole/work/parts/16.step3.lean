/-! ===== one step, whatever the instruction ===== -/
def mRetI (ret : Option FieldType) (i : Instr) (r : Option Value) (st : List Value) : Prop :=
  (i = .ireturn ∧ ∃ x : Int32, st = [.int x] ∧ r = some (.int x) ∧ ∃ ty, ret = some ty ∧ narrow ty (.int x) = .int x) ∨ (i = .lreturn ∧ ∃ x : Int64, st = [.long x] ∧ r = some (.long x) ∧ ret = some .long) ∨
  (i = .areturn ∧ ∃ h : Nat, st = [.ref h] ∧ r = some (.ref h) ∧ ∃ ty, ret = some ty ∧ ((∃ n, ty = .object n) ∨ ∃ t, ty = .array t)) ∨ (i = .return_ ∧ st = [] ∧ r = none ∧ ret = none)
theorem mchkE_iret {own : Nat} {ini : Bool} {ret : Option FieldType} {pc len a b t : Nat} {x : Int32} (hce : mchkE own ini ret pc (.ireturn, len, a, b, t) = true) (hok : mokR a x) : ∃ ty, ret = some ty ∧ narrow ty (.int x) = .int x := by
  cases ret with
  | none => exact (Bool.false_ne_true hce).elim
  | some ty =>
    cases ty <;> first
      | (have z : a = 0 := Nat.eq_of_beq_eq_true hce; subst z; exact ⟨_, rfl, rfl⟩)
      | (have z : a = 1 := Nat.eq_of_beq_eq_true hce; subst z; exact ⟨_, rfl, hok⟩)
      | (have z : a = 2 := Nat.eq_of_beq_eq_true hce; subst z; exact ⟨_, rfl, hok⟩)
      | (have z : a = 3 := Nat.eq_of_beq_eq_true hce; subst z; exact ⟨_, rfl, hok⟩)
      | exact (Bool.false_ne_true hce).elim
theorem mchkE_lret {own : Nat} {ini : Bool} {ret : Option FieldType} {pc : Nat} {q : Nat × Nat × Nat × Nat} (hce : mchkE own ini ret pc (.lreturn, q) = true) : ret = some .long := by
  cases ret with
  | none => exact (Bool.false_ne_true hce).elim
  | some ty => cases ty <;> first | rfl | exact (Bool.false_ne_true hce).elim
theorem mchkE_aret {own : Nat} {ini : Bool} {ret : Option FieldType} {pc : Nat} {q : Nat × Nat × Nat × Nat} (hce : mchkE own ini ret pc (.areturn, q) = true) : ∃ ty, ret = some ty ∧ ((∃ n, ty = .object n) ∨ ∃ t, ty = .array t) := by
  cases ret with
  | none => exact (Bool.false_ne_true hce).elim
  | some ty => cases ty <;> first | exact ⟨_, rfl, Or.inl ⟨_, rfl⟩⟩ | exact ⟨_, rfl, Or.inr ⟨_, rfl⟩⟩ | exact (Bool.false_ne_true hce).elim
theorem mchkE_vret {own : Nat} {ini : Bool} {ret : Option FieldType} {pc : Nat} {q : Nat × Nat × Nat × Nat} (hce : mchkE own ini ret pc (.return_, q) = true) : ret = none := by
  cases ret with
  | none => rfl
  | some ty => exact (Bool.false_ne_true hce).elim
section MS3
variable {p : Program} {l : Launch} {e : Env} {R : Room} {s : State} {m : MethodId} {args : Array Value} {below : List Frame} {meth : Method} {c : Code} {Q : State → Prop}
variable {cc : ByteArray} {own nl : Nat} {D : va_G} {dA : Nat → ClassId} {ad0 : Nat → Nat} {E : mN} {A : Nat → Prop} {n0 s0 : Nat}
variable {H : Heap} {locs : List Loc} {ad : Nat → Nat} {w : mW} {ls : mLs} {arr : Array Slot} {st : List Value} {pc : Nat} {K : Nat → mLs → List Value → mW → Prop} {rt : Option Value → mW → Prop}
set_option maxHeartbeats 20000000 in
set_option maxRecDepth 100000 in
theorem ms_step {en : mE} {d : Nat} {ini : Bool} {ret : Option FieldType} (C : mCtx p s m args c cc own nl D dA ad0 E A) (P : mPt s D dA ad0 E A n0 nl H locs ad w ls arr) (O : mOkP n0 s0 ls st w) (IH : mRest p l e R s m args below meth c Q D dA ad0 E A n0 s0 nl K) (hKR : ∀ pc ls st w', K pc ls st w' → w'.1.1 - n0 ≤ R.cells ∧ w'.1.2.1 - s0 ≤ R.slots ∧ w'.1.1 ≤ mB)
    (hM : mMW) (hC : mCallOK l d) (hRf : d + 1 ≤ R.frames) (hRl : 40 * d + 40 ≤ R.locals) (hRc : w.1.1 - n0 ≤ R.cells) (hRs : w.1.2.1 - s0 ≤ R.slots) (hini : ini = true → meth.name = "<init>") (hchk : mchk own ini ret cc (pc, en) = true) (h : msem (mcall mmk mrc d) mrc en pc ls st w K rt)
    (hret : ∀ (i : Instr) (r : Option Value), decode cc pc = .ok (i, 1) → rt r w → mRetI ret i r st → W p l e R s m args below meth c H locs (w.1.1 - n0) (w.1.2.1 - s0) Q (F0 m pc arr (st.map (mtr ad)))) :
    W p l e R s m args below meth c H locs (w.1.1 - n0) (w.1.2.1 - s0) Q (F0 m pc arr (st.map (mtr ad))) := by
  obtain ⟨hx, hb, hml, hown, hts, hSE, hA⟩ := id C
  obtain ⟨hS, hP, hD, had, hl, hll, hE⟩ := id P
  obtain ⟨hw, hos, hol, hn0, hs0, hmB⟩ := id O
  obtain ⟨i, len, a, b, t⟩ := en
  unfold mchk at hchk
  rw [Bool.and_eq_true, Bool.and_eq_true] at hchk
  obtain ⟨hdc, hlen, hce⟩ := hchk
  have hdc := of_decide_eq_true hdc
  have hd1 : msw i = false → ∀ {n : Nat}, mlen i = n → decode cc pc = .ok (i, n) := fun hsw n hn => by
    subst hn
    rw [hsw] at hlen
    have hlen : len = mlen i := Nat.eq_of_beq_eq_true hlen
    rw [← hlen]
    exact hdc
  have hml2 : c.maxLocals = arr.size := hml.trans (hl.1.trans hll).symm
  cases i with
  | iconst n => exact lv_iconst hx hb (hd1 rfl rfl) rfl (IH _ _ _ _ _ _ _ _ h P)
  | bipush n => exact lv_bipush hx hb (hd1 rfl rfl) rfl (IH _ _ _ _ _ _ _ _ h P)
  | sipush n => exact lv_sipush hx hb (hd1 rfl rfl) rfl (IH _ _ _ _ _ _ _ _ h P)
  | lconst n => exact lv_lconst hx hb (hd1 rfl rfl) rfl (IH _ _ _ _ _ _ _ _ h P)
  | aconst_null => exact lv_null hx hb (hd1 rfl rfl) (IH _ _ _ _ _ _ _ _ h P)
  | ldc n =>
    have hq : (own, n, a, b, t) ∈ mLdcT := mtin_mem hce
    match t, h, hq with
    | 0, h, hq =>
      have hR := hSE.2.2.2.2.1 _ hq rfl
      have h2 := IH _ _ _ _ _ _ _ _ h P
      have h2 : W p l e R s m args below meth c H locs (w.1.1 - n0) (w.1.2.1 - s0) Q (F0 m (pc + 2) arr (Value.ref (ad (mB + a)) :: st.map (mtr ad))) := h2
      rw [had _ (Or.inr (Nat.le_add_right _ _))] at h2
      exact va_ldcS hx hb hown hR (hd1 rfl rfl) h2
    | 1, h, hq => exact lv_ldc hx hb hown (hts _ (mLdc_w _ (List.mem_map.mpr ⟨_, List.mem_filter.mpr ⟨hq, rfl⟩, rfl⟩))) (hd1 rfl rfl) (IH _ _ _ _ _ _ _ _ h P)
    | t + 2, h, hq => exact h.elim
  | ldc2_w n =>
    have hq : (own, n, a, b, t) ∈ mL2T := mtin_mem hce
    exact lv_ldc2 hx hb hown (hts _ (mL2_w _ (List.mem_map.mpr ⟨_, hq, rfl⟩))) (hd1 rfl rfl) (IH _ _ _ _ _ _ _ _ h P)
  | iload n => exact ldI_o h fun x e h => lv_iload hx hb (hd1 rfl rfl) (hl.2.2 _ _ e) (IH _ _ _ _ _ _ _ _ h P)
  | iload_n n => exact ldI_o h fun x e h => lv_iload_n hx hb (hd1 rfl rfl) rfl (hl.2.2 _ _ e) (IH _ _ _ _ _ _ _ _ h P)
  | lload n => exact ldL_o h fun x e h => lv_lload hx hb (hd1 rfl rfl) (hl.2.2 _ _ e) (IH _ _ _ _ _ _ _ _ h P)
  | lload_n n => exact ldL_o h fun x e h => lv_lload_n hx hb (hd1 rfl rfl) rfl (hl.2.2 _ _ e) (IH _ _ _ _ _ _ _ _ h P)
  | aload n =>
    refine ldA_o (ls := ls) (i := n) (f := fun x => K (pc + 2) ls (va_rf x :: st) w) h fun x e h => ?_
    cases x with
    | none => exact lv_aloadN hx hb (hd1 rfl rfl) (hl.2.2 _ _ e) (IH _ _ _ _ _ _ _ _ h P)
    | some x => exact lv_aload hx hb (hd1 rfl rfl) (hl.2.2 _ _ e) (IH _ _ _ _ _ _ _ _ h P)
  | aload_n n =>
    refine ldA_o (ls := ls) (i := n) (f := fun x => K (pc + 1) ls (va_rf x :: st) w) h fun x e h => ?_
    cases x with
    | none => exact lv_aload_nN hx hb (hd1 rfl rfl) rfl (hl.2.2 _ _ e) (IH _ _ _ _ _ _ _ _ h P)
    | some x => exact lv_aload_n hx hb (hd1 rfl rfl) rfl (hl.2.2 _ _ e) (IH _ _ _ _ _ _ _ _ h P)
  | istore n =>
    refine popI_o h fun x r e h1 => stV_o h1 fun l1 e1 h2 => ?_
    subst e
    exact lv_istore hx hb (hd1 rfl rfl) hl.has (mset_get e1).2.1 rfl (fun arr' h' => IH _ _ _ _ _ _ _ _ h2 (P.ls (mlv.set e1 h') (mset_get e1).1))
  | istore_n n =>
    refine popI_o h fun x r e h1 => stV_o h1 fun l1 e1 h2 => ?_
    subst e
    exact lv_istore_n hx hb (hd1 rfl rfl) rfl hl.has (mset_get e1).2.1 rfl (fun arr' h' => IH _ _ _ _ _ _ _ _ h2 (P.ls (mlv.set e1 h') (mset_get e1).1))
  | lstore n =>
    refine popL_o h fun x r e h1 => stL_o h1 fun l1 e1 h2 => ?_
    subst e
    exact lv_lstore hx hb (hd1 rfl rfl) hl.has (mset2_get e1).2.1 rfl (fun arr' h' => IH _ _ _ _ _ _ _ _ h2 (P.ls (mlv.set2 e1 h') (mset2_get e1).1))
  | lstore_n n =>
    refine popL_o h fun x r e h1 => stL_o h1 fun l1 e1 h2 => ?_
    subst e
    exact lv_lstore_n hx hb (hd1 rfl rfl) rfl hl.has (mset2_get e1).2.1 rfl (fun arr' h' => IH _ _ _ _ _ _ _ _ h2 (P.ls (mlv.set2 e1 h') (mset2_get e1).1))
  | astore n =>
    refine popR_o h fun x r e h1 => stV_o h1 fun l1 e1 h2 => ?_
    subst e
    exact lv_astore hx hb (hd1 rfl rfl) hl.has (mset_get e1).2.1 rfl (fun arr' h' => IH _ _ _ _ _ _ _ _ h2 (P.ls (mlv.set e1 h') (mset_get e1).1))
  | astore_n n =>
    refine popR_o h fun x r e h1 => stV_o h1 fun l1 e1 h2 => ?_
    subst e
    exact lv_astore_n hx hb (hd1 rfl rfl) rfl hl.has (mset_get e1).2.1 rfl (fun arr' h' => IH _ _ _ _ _ _ _ _ h2 (P.ls (mlv.set e1 h') (mset_get e1).1))
  | iinc n k =>
    refine ldI_o h fun x e h1 => stV_o h1 fun l1 e1 h2 => ?_
    obtain ⟨j, hj⟩ := List.getElem?_of_mem ((mprs_mem (ad := ad) ls 0 (n, .int x)).mpr ⟨n, .int x, e, by simp [mtr]⟩)
    exact lv_iinc hx hb (hd1 rfl rfl) hl.has hj rfl (mset_get e1).2.1 rfl (fun arr' h' => IH _ _ _ _ _ _ _ _ h2 (P.ls (mlv.set e1 h') (mset_get e1).1))
  | iadd =>
    refine popI_o h fun y r e h1 => popI_o h1 fun x r1 e1 h2 => ?_
    subst e e1
    exact lv_iadd hx hb (hd1 rfl rfl) (IH _ _ _ _ _ _ _ _ h2 P)
  | isub =>
    refine popI_o h fun y r e h1 => popI_o h1 fun x r1 e1 h2 => ?_
    subst e e1
    exact lv_isub hx hb (hd1 rfl rfl) (IH _ _ _ _ _ _ _ _ h2 P)
  | imul =>
    refine popI_o h fun y r e h1 => popI_o h1 fun x r1 e1 h2 => ?_
    subst e e1
    exact lv_imul hx hb (hd1 rfl rfl) (IH _ _ _ _ _ _ _ _ h2 P)
  | iand =>
    refine popI_o h fun y r e h1 => popI_o h1 fun x r1 e1 h2 => ?_
    subst e e1
    exact lv_iand hx hb (hd1 rfl rfl) (IH _ _ _ _ _ _ _ _ h2 P)
  | ior =>
    refine popI_o h fun y r e h1 => popI_o h1 fun x r1 e1 h2 => ?_
    subst e e1
    exact lv_ior hx hb (hd1 rfl rfl) (IH _ _ _ _ _ _ _ _ h2 P)
  | ishl =>
    refine popI_o h fun y r e h1 => popI_o h1 fun x r1 e1 h2 => ?_
    subst e e1
    exact lv_ishl hx hb (hd1 rfl rfl) (IH _ _ _ _ _ _ _ _ h2 P)
  | ishr =>
    refine popI_o h fun y r e h1 => popI_o h1 fun x r1 e1 h2 => ?_
    subst e e1
    exact lv_ishr hx hb (hd1 rfl rfl) (IH _ _ _ _ _ _ _ _ h2 P)
  | idiv =>
    refine popI_o h fun y r e h1 => popI_o h1 fun x r1 e1 h2 => ?_
    subst e e1
    exact lv_idiv hx hb (hd1 rfl rfl) h2.1 (IH _ _ _ _ _ _ _ _ h2.2 P)
  | irem =>
    refine popI_o h fun y r e h1 => popI_o h1 fun x r1 e1 h2 => ?_
    subst e e1
    exact lv_irem hx hb (hd1 rfl rfl) h2.1 (IH _ _ _ _ _ _ _ _ h2.2 P)
  | ladd =>
    refine popL_o h fun y r e h1 => popL_o h1 fun x r1 e1 h2 => ?_
    subst e e1
    exact lv_ladd hx hb (hd1 rfl rfl) (IH _ _ _ _ _ _ _ _ h2 P)
  | lmul =>
    refine popL_o h fun y r e h1 => popL_o h1 fun x r1 e1 h2 => ?_
    subst e e1
    exact lv_lmul hx hb (hd1 rfl rfl) (IH _ _ _ _ _ _ _ _ h2 P)
  | ineg =>
    refine popI_o h fun y r e h1 => ?_
    subst e
    exact lv_ineg hx hb (hd1 rfl rfl) (IH _ _ _ _ _ _ _ _ h1 P)
  | lcmp =>
    refine popL_o h fun y r e h1 => popL_o h1 fun x r1 e1 h2 => ?_
    subst e e1
    exact W.lcmp hx hb (hd1 rfl rfl) (IH _ _ _ _ _ _ _ _ h2 P)
  | i2l =>
    refine popI_o h fun y r e h1 => ?_
    subst e
    exact lv_i2l hx hb (hd1 rfl rfl) rfl (IH _ _ _ _ _ _ _ _ h1 P)
  | i2b =>
    refine popI_o h fun y r e h1 => ?_
    subst e
    exact lv_i2b hx hb (hd1 rfl rfl) rfl (IH _ _ _ _ _ _ _ _ h1 P)
  | i2c =>
    refine popI_o h fun y r e h1 => ?_
    subst e
    exact lv_i2c hx hb (hd1 rfl rfl) rfl (IH _ _ _ _ _ _ _ _ h1 P)
  | dup =>
    refine pop1_o h fun v r e hv h1 => ?_
    subst e
    exact lv_dup hx hb (hd1 rfl rfl) (by rw [mtr_cat]; exact hv) (IH _ _ _ _ _ _ _ _ h1 P)
  | pop =>
    refine pop1_o h fun v r e hv h1 => ?_
    subst e
    exact lv_pop hx hb (hd1 rfl rfl) (by rw [mtr_cat]; exact hv) (IH _ _ _ _ _ _ _ _ h1 P)
  | dup_x1 =>
    refine pop1_o h fun v r e hv h1 => pop1_o h1 fun u r1 e1 hv1 h2 => ?_
    subst e e1
    exact lv_dup_x1 hx hb (hd1 rfl rfl) (by rw [mtr_cat]; exact hv) (by rw [mtr_cat]; exact hv1) (IH _ _ _ _ _ _ _ _ h2 P)
  | dup2 =>
    refine pop1_o h fun v r e hv h1 => pop1_o h1 fun u r1 e1 hv1 h2 => ?_
    subst e e1
    exact lv_dup2_11 hx hb (hd1 rfl rfl) (by rw [mtr_cat]; exact hv) (by rw [mtr_cat]; exact hv1) (IH _ _ _ _ _ _ _ _ h2 P)
  | if_icmp cd off =>
    have ht : (pc : Int) + off = (a : Int) := of_decide_eq_true hce
    refine popI_o h fun y r e h1 => popI_o h1 fun x r1 e1 h2 => ?_
    subst e e1
    cases cd with
    | eq => exact lv_icmp_eq hx hb (hd1 rfl rfl) ht (fun z => IH _ _ _ _ _ _ _ _ (h2.1 z) P) (fun z => IH _ _ _ _ _ _ _ _ (h2.2 z) P)
    | ne => exact lv_icmp_ne hx hb (hd1 rfl rfl) ht (fun z => IH _ _ _ _ _ _ _ _ (h2.1 z) P) (fun z => IH _ _ _ _ _ _ _ _ (h2.2 (fun q => q z)) P)
    | lt => exact lv_icmp_lt hx hb (hd1 rfl rfl) ht (fun z => IH _ _ _ _ _ _ _ _ (h2.1 z) P) (fun z => IH _ _ _ _ _ _ _ _ (h2.2 z) P)
    | ge => exact lv_icmp_ge hx hb (hd1 rfl rfl) ht (fun z => IH _ _ _ _ _ _ _ _ (h2.1 z) P) (fun z => IH _ _ _ _ _ _ _ _ (h2.2 z) P)
    | gt => exact lv_icmp_gt hx hb (hd1 rfl rfl) ht (fun z => IH _ _ _ _ _ _ _ _ (h2.1 z) P) (fun z => IH _ _ _ _ _ _ _ _ (h2.2 z) P)
    | le => exact lv_icmp_le hx hb (hd1 rfl rfl) ht (fun z => IH _ _ _ _ _ _ _ _ (h2.1 z) P) (fun z => IH _ _ _ _ _ _ _ _ (h2.2 z) P)
  | ifCond cd off =>
    have ht : (pc : Int) + off = (a : Int) := of_decide_eq_true hce
    refine popI_o h fun x r e h2 => ?_
    subst e
    cases cd with
    | eq => exact lv_if_eq hx hb (hd1 rfl rfl) ht (fun z => IH _ _ _ _ _ _ _ _ (h2.1 z) P) (fun z => IH _ _ _ _ _ _ _ _ (h2.2 z) P)
    | ne => exact lv_if_ne hx hb (hd1 rfl rfl) ht (fun z => IH _ _ _ _ _ _ _ _ (h2.1 z) P) (fun z => IH _ _ _ _ _ _ _ _ (h2.2 (fun q => q z)) P)
    | lt => exact lv_if_lt hx hb (hd1 rfl rfl) ht (fun z => IH _ _ _ _ _ _ _ _ (h2.1 z) P) (fun z => IH _ _ _ _ _ _ _ _ (h2.2 z) P)
    | ge => exact lv_if_ge hx hb (hd1 rfl rfl) ht (fun z => IH _ _ _ _ _ _ _ _ (h2.1 z) P) (fun z => IH _ _ _ _ _ _ _ _ (h2.2 z) P)
    | gt => exact lv_if_gt hx hb (hd1 rfl rfl) ht (fun z => IH _ _ _ _ _ _ _ _ (h2.1 z) P) (fun z => IH _ _ _ _ _ _ _ _ (h2.2 z) P)
    | le => exact lv_if_le hx hb (hd1 rfl rfl) ht (fun z => IH _ _ _ _ _ _ _ _ (h2.1 z) P) (fun z => IH _ _ _ _ _ _ _ _ (h2.2 z) P)
  | goto off =>
    have ht : (pc : Int) + off = (a : Int) := of_decide_eq_true hce
    exact lv_goto hx hb (hd1 rfl rfl) ht (IH _ _ _ _ _ _ _ _ h P)
  | ifnonnull off =>
    have ht : (pc : Int) + off = (a : Int) := of_decide_eq_true hce
    refine popR_o h fun x r e h2 => ?_
    subst e
    exact lv_ifnonnull hx hb (hd1 rfl rfl) ht (IH _ _ _ _ _ _ _ _ h2 P)
  | tableswitch dflt lo hi offs =>
    refine popI_o h fun x r e h2 => ?_
    subst e
    cases hm : mtab dflt lo hi offs pc x with
    | none => rw [hm] at h2; exact h2.elim
    | some tgt =>
      rw [hm] at h2
      unfold mtab at hm
      by_cases hc : x.toInt < lo ∨ hi < x.toInt
      · rw [if_pos hc] at hm
        exact lv_tableOut hx hb hdc hc (mtn_some hm) (IH _ _ _ _ _ _ _ _ h2 P)
      · rw [if_neg hc] at hm
        cases ho : offs[(x.toInt - lo).toNat]? with
        | none => rw [ho] at hm; cases hm
        | some o => rw [ho] at hm; exact lv_tableIn hx hb hdc (fun z => hc (Or.inl z)) (fun z => hc (Or.inr z)) ho (mtn_some hm) (IH _ _ _ _ _ _ _ _ h2 P)
  | lookupswitch dflt ps =>
    refine popI_o h fun x r e h2 => ?_
    subst e
    obtain ⟨hp, h2⟩ := h2
    cases hm : mlku dflt ps pc x with
    | none => rw [hm] at h2; exact h2.elim
    | some tgt => rw [hm] at h2; exact lv_lookup hx hb hdc hp rfl (mtn_some hm) (IH _ _ _ _ _ _ _ _ h2 P)
  | getfield n => exact ms_get C P O IH (hd1 rfl rfl) (mtin_mem hce) h
  | putfield n =>
    have hce : (mtin (own, n, a, b, t) mFldT && (!(mcT a b).2.2.2 || (ini && decide (mcl own = (mcT a b).1)))) = true := hce
    rw [Bool.and_eq_true, Bool.or_eq_true, Bool.and_eq_true] at hce
    exact ms_put C P O IH hini (hd1 rfl rfl) (mtin_mem hce.1) (hce.2.elim (fun z => Or.inl (by simpa using z)) (fun z => Or.inr ⟨z.1, of_decide_eq_true z.2⟩)) h
  | getstatic n =>
    have hq : (own, n, a, b, t) ∈ mStaT := mtin_mem hce
    have hcc := List.all_eq_true.mp mSta_c _ hq
    have hwd := hts _ (mSta_w _ (List.mem_map.mpr ⟨_, hq, rfl⟩))
    match t, h, hq, hcc, hwd with
    | 0, h, hq, hcc, hwd =>
      have ha : a = 1 := by
        simp [mStaC] at hcc
        exact hcc
      subst ha
      exact va_gets hx hb hSE.2.2.2.2.2.1 hS hown hwd (fun _ h => h) (hd1 rfl rfl) (IH _ _ _ _ _ _ _ _ h P)
    | 1, h, hq, hcc, hwd =>
      have ha : a = 1000200 ∨ a = 1000201 ∨ a = 1000202 := by
        simp [mStaC] at hcc
        rcases hcc with (z | z) | z
        · exact Or.inl z
        · exact Or.inr (Or.inl z)
        · exact Or.inr (Or.inr z)
      have h2 := IH _ _ _ _ _ _ _ _ h.2 P
      have h2 : W p l e R s m args below meth c H locs (w.1.1 - n0) (w.1.2.1 - s0) Q (F0 m (pc + 3) arr (Value.ref (ad a) :: st.map (mtr ad))) := h2
      rw [had a (Or.inr (Nat.le_of_ble_eq_true h.1))] at h2
      rcases ha with rfl | rfl | rfl
      · exact va_gets hx hb hSE.2.2.2.2.2.2.1 hS hown hwd (fun _ h => h) (hd1 rfl rfl) h2
      · exact va_gets hx hb hSE.2.2.2.2.2.2.2.1 hS hown hwd (fun _ h => h) (hd1 rfl rfl) h2
      · exact va_gets hx hb hSE.2.2.2.2.2.2.2.2.1 hS hown hwd (fun _ h => h) (hd1 rfl rfl) h2
    | 2, h, hq, hcc, hwd =>
      have h2 := IH _ _ _ _ _ _ _ _ h P
      have h2 : W p l e R s m args below meth c H locs (w.1.1 - n0) (w.1.2.1 - s0) Q (F0 m (pc + 3) arr (mtr ad w.1.2.2.2.2.2.2 :: st.map (mtr ad))) := h2
      rw [mtr_ext (n := 0) (ad := ad0) (fun z hz => had z (hz.mono (Nat.zero_le _))) hw.2, hE] at h2
      exact va_gets hx hb hSE.2.2.2.2.2.2.2.2.2.1 hS hown hwd (fun _ h => h) (hd1 rfl rfl) h2
    | t + 3, h, hq, hcc, hwd => exact h.elim
  | iaload =>
    refine popI_o h fun i r e h1 => popR_o h1 fun x r1 e1 h2 => ?_
    clear h h1
    subst e e1
    exact ms_iald C P hos.tail.head IH (hd1 rfl rfl) h2.1 h2.2.1 h2.2.2
  | baload =>
    refine popI_o h fun i r e h1 => popR_o h1 fun x r1 e1 h2 => ?_
    clear h h1
    subst e e1
    exact ms_bald C P hos.tail.head IH (hd1 rfl rfl) h2.1 h2.2.1 h2.2.2
  | iastore =>
    refine popI_o h fun y r e h1 => popI_o h1 fun i r1 e1 h2 => popR_o h2 fun x r2 e2 h3 => ?_
    clear h h1 h2
    subst e e1 e2
    exact ms_iast C P hw hos.tail.tail.head IH (hd1 rfl rfl) h3.1 h3.2.1 h3.2.2.1 h3.2.2.2.1 h3.2.2.2.2
  | bastore =>
    refine popI_o h fun y r e h1 => popI_o h1 fun i r1 e1 h2 => popR_o h2 fun x r2 e2 h3 => ?_
    clear h h1 h2
    subst e e1 e2
    exact ms_bast C P hw hos.tail.tail.head IH (hd1 rfl rfl) h3.1 h3.2.1 h3.2.2.1 h3.2.2.2.1 h3.2.2.2.2
  | arraylength =>
    refine popR_o h fun x r e h1 => ?_
    clear h
    subst e
    exact ms_alen C P hos.head IH (hd1 rfl rfl) h1.1 h1.2
  | newarray ty =>
    refine popI_o h fun n r e h1 => ?_
    clear h
    subst e
    obtain ⟨b1, b2, b3, hK⟩ := h1
    obtain ⟨z1, z2, z3⟩ := hKR _ _ _ _ hK
    refine ms_newa C P hw hol hos.tail hn0 hs0 IH (hd1 rfl rfl) ?_ b2 b3 z1 z2 z3 hK
    cases ty with
    | boolean => exact Or.inr (Or.inl ⟨rfl, Nat.eq_of_beq_eq_true hce⟩)
    | byte => exact Or.inr (Or.inr ⟨rfl, Nat.eq_of_beq_eq_true hce⟩)
    | int => exact Or.inl ⟨rfl, Nat.eq_of_beq_eq_true hce⟩
    | char => exact (Bool.false_ne_true hce).elim
    | float => exact (Bool.false_ne_true hce).elim
    | double => exact (Bool.false_ne_true hce).elim
    | short => exact (Bool.false_ne_true hce).elim
    | long => exact (Bool.false_ne_true hce).elim
  | new n =>
    obtain ⟨h0, hK⟩ := h
    subst h0
    obtain ⟨z1, z2, z3⟩ := hKR _ _ _ _ hK
    exact ms_new C P hw hol hos hn0 hs0 IH (hd1 rfl rfl) (mtin_mem hce) z1 z2 z3 hK
  | checkcast n =>
    have hce : (Nat.beq n 311 && decide (mcl own = RJ7)) = true := hce
    rw [Bool.and_eq_true] at hce
    have hn : n = 311 := Nat.eq_of_beq_eq_true hce.1
    have ho7 : mcl own = RJ7 := of_decide_eq_true hce.2
    subst hn
    refine popR_o h fun x r e h1 => ?_
    clear h
    subst e
    obtain ⟨hB, hk, hK⟩ := h1
    have hg := mwl_get (dA := dA) (ad := ad) (w := w) (m_hn (hB := hB) hos.head)
    rw [mcE_arr (show w.1.2.2.1 x = (3, (w.1.2.2.1 x).2) by rw [← hk]) (Or.inr (Or.inr rfl))] at hg
    have hnm : s.vm.findClass "[B" = some (dA 3) := (hSE.1.2 2 _ rfl).2
    exact va_castA hx hb hown (by rw [ho7]; exact hts _ (mOth_w _ (List.mem_of_getElem? (i := 7) rfl))) hP x hg hnm (hd1 rfl rfl) (IH _ _ _ _ _ _ _ _ hK P)
  | invokevirtual n =>
    have hce : (mtin (own, n, a, b, t) mMthT && (Nat.beq t 0 || Nat.beq t 3 || Nat.beq t 4 || Nat.beq t 10)) = true := hce
    rw [Bool.and_eq_true] at hce
    have hq := mtin_mem hce.1
    have ht : t = 0 ∨ t = 3 ∨ t = 4 ∨ t = 10 := by
      have z := hce.2
      simp only [Bool.or_eq_true] at z
      rcases z with ((z | z) | z) | z
      · exact Or.inl (Nat.eq_of_beq_eq_true z)
      · exact Or.inr (Or.inl (Nat.eq_of_beq_eq_true z))
      · exact Or.inr (Or.inr (Or.inl (Nat.eq_of_beq_eq_true z)))
      · exact Or.inr (Or.inr (Or.inr (Nat.eq_of_beq_eq_true z)))
    have h : msCall (mcall mmk mrc d) mrc a b t pc ls st w K := h
    unfold msCall at h
    rcases ht with rfl | rfl | rfl | rfl
    · cases hsp : mspl b [] st with
      | none => rw [hsp] at h; exact h.elim
      | some z => rw [hsp] at h; exact ms_invV C P O IH hKR hM hC hRf hRl hq (hd1 rfl rfl) rfl hsp h
    · cases hsp : mspl b [] st with
      | none => rw [hsp] at h; exact h.elim
      | some z => rw [hsp] at h; exact ms_invU C P O IH hKR hM hC hRf hRl hq (hd1 rfl rfl) rfl hsp h
    · cases hsp : mspl b [] st with
      | none => rw [hsp] at h; exact h.elim
      | some z => rw [hsp] at h; exact ms_invO C P O IH hKR hM hC hRf hRl hq (hd1 rfl rfl) rfl hsp h
    · refine popR_o h fun x r e h1 => ?_
      clear h
      subst e
      obtain ⟨b1, b2, b3, b4, hK⟩ := h1
      obtain ⟨z1, z2, z3⟩ := hKR _ _ _ _ hK
      exact ms_clone C P hw hol hos.tail hn0 hs0 hos.head IH (by omega) (by omega) hq (hd1 rfl rfl) b1 b2 b3 b4 z1 z2 z3 hK
  | invokespecial n =>
    have hce : (mtin (own, n, a, b, t) mMthT && (Nat.beq t 2 || Nat.beq t 5 || Nat.beq t 6 || Nat.beq t 9)) = true := hce
    rw [Bool.and_eq_true] at hce
    have hq := mtin_mem hce.1
    have ht : t = 2 ∨ t = 5 ∨ t = 6 ∨ t = 9 := by
      have z := hce.2
      simp only [Bool.or_eq_true] at z
      rcases z with ((z | z) | z) | z
      · exact Or.inl (Nat.eq_of_beq_eq_true z)
      · exact Or.inr (Or.inl (Nat.eq_of_beq_eq_true z))
      · exact Or.inr (Or.inr (Or.inl (Nat.eq_of_beq_eq_true z)))
      · exact Or.inr (Or.inr (Or.inr (Nat.eq_of_beq_eq_true z)))
    have h : msCall (mcall mmk mrc d) mrc a b t pc ls st w K := h
    unfold msCall at h
    rcases ht with rfl | rfl | rfl | rfl
    · cases hsp : mspl b [] st with
      | none => rw [hsp] at h; exact h.elim
      | some z => rw [hsp] at h; exact ms_invI C P O IH hKR hM hC hRf hRl hq (hd1 rfl rfl) rfl hsp h
    · cases hsp : mspl b [] st with
      | none => rw [hsp] at h; exact h.elim
      | some z => rw [hsp] at h; exact ms_invSU C P O IH hKR hM hC hRf hRl hq (hd1 rfl rfl) rfl hsp h
    · cases hsp : mspl b [] st with
      | none => rw [hsp] at h; exact h.elim
      | some z => rw [hsp] at h; exact ms_invIN C P O IH hKR hM hC hRf hRl hq (hd1 rfl rfl) rfl hsp h
    · refine popR_o h fun x r e h1 => ?_
      clear h
      subst e
      have hreq : ∀ x ∈ [Cond.methodLink (mcl own) n objectInit, .instanceMethod objectInit], x.before args s = true := fun x hxm => hts x (m_reqs hq x hxm)
      have z1 := mcat_le (ad := ad) h1.1
      exact W.objInit hx hb hown (hreq _ (by simp)) (hreq _ (by simp)) (hts _ (mOth_w _ (List.mem_of_getElem? (i := 0) rfl))) rfl hml2.symm rfl (hd1 rfl rfl) (by omega) (by show 2 * 0 + _ + 12 ≤ _; omega) (IH _ _ _ _ _ _ _ _ h1.2 P)
  | invokestatic n =>
    have hce : (mtin (own, n, a, b, t) mMthT && (Nat.beq t 1 || Nat.beq t 7 || Nat.beq t 8 || Nat.beq t 11 || Nat.beq t 12)) = true := hce
    rw [Bool.and_eq_true] at hce
    have hq := mtin_mem hce.1
    have ht : t = 1 ∨ t = 7 ∨ t = 8 ∨ t = 11 ∨ t = 12 := by
      have z := hce.2
      simp only [Bool.or_eq_true] at z
      rcases z with (((z | z) | z) | z) | z
      · exact Or.inl (Nat.eq_of_beq_eq_true z)
      · exact Or.inr (Or.inl (Nat.eq_of_beq_eq_true z))
      · exact Or.inr (Or.inr (Or.inl (Nat.eq_of_beq_eq_true z)))
      · exact Or.inr (Or.inr (Or.inr (Or.inl (Nat.eq_of_beq_eq_true z))))
      · exact Or.inr (Or.inr (Or.inr (Or.inr (Nat.eq_of_beq_eq_true z))))
    have h : msCall (mcall mmk mrc d) mrc a b t pc ls st w K := h
    unfold msCall at h
    rcases ht with rfl | rfl | rfl | rfl | rfl
    · cases hsp : mspl b [] st with
      | none => rw [hsp] at h; exact h.elim
      | some z => rw [hsp] at h; exact ms_invS C P O IH hKR hM hC hRf hRl hq (hd1 rfl rfl) rfl hsp h
    · cases hsp : mspl b [] st with
      | none => rw [hsp] at h; exact h.elim
      | some z => rw [hsp] at h; exact ms_invSN C P O IH hKR hM hC hRf hRl hq (hd1 rfl rfl) rfl hsp h
    · refine popI_o h fun n r e h1 => popI_o h1 fun dp r1 e1 h2 => popR_o h2 fun hd r2 e2 h3 => popI_o h3 fun sp r3 e3 h4 => popR_o h4 fun hsr r4 e4 h5 => ?_
      clear h h1 h2 h3 h4
      subst e e1 e2 e3 e4
      obtain ⟨a1, a2, a11, a3, a4, a5, a6, a7, a8, a9, a10, h⟩ := h5
      exact ms_copy C P hw hos.tail.tail.head hos.tail.tail.tail.tail.head IH (by omega) (by omega) hq (hd1 rfl rfl) a1 a2 a11 a3 a4 a5 a6 a7 a8 a9 a10 h
    · refine popI_o h fun y r e h1 => popI_o h1 fun x r1 e1 h2 => ?_
      clear h h1
      subst e e1
      have hreq : ∀ x ∈ [Cond.methodLink (mcl own) n Lib.Math.max.name, .static Lib.Math.max.name, .initialized "java/lang/Math"], x.before args s = true := fun x hxm => hts x (m_reqs hq x hxm)
      have z1 := mcat_le (ad := ad) h2.1
      exact va_mmax hx hb hml2 hown (hreq _ (by simp)) (hreq _ (by simp)) (hreq _ (by simp)) (hts _ (mOth_w _ (List.mem_of_getElem? (i := 2) rfl))) (by omega) (by omega) hRc hRs (hd1 rfl rfl) (IH _ _ _ _ _ _ _ _ h2.2 P)
    · refine popI_o h fun y r e h1 => popI_o h1 fun x r1 e1 h2 => ?_
      clear h h1
      subst e e1
      have hreq : ∀ x ∈ [Cond.methodLink (mcl own) n Lib.Math.min.name, .static Lib.Math.min.name, .initialized "java/lang/Math"], x.before args s = true := fun x hxm => hts x (m_reqs hq x hxm)
      have z1 := mcat_le (ad := ad) h2.1
      exact va_mmin hx hb hml2 hown (hreq _ (by simp)) (hreq _ (by simp)) (hreq _ (by simp)) (hts _ (mOth_w _ (List.mem_of_getElem? (i := 3) rfl))) (by omega) (by omega) hRc hRs (hd1 rfl rfl) (IH _ _ _ _ _ _ _ _ h2.2 P)
  | ireturn =>
    match st, h, hret with
    | [.int x], h, hret =>
      exact hret _ _ (hd1 rfl rfl) h.2 (Or.inl ⟨rfl, x, rfl, rfl, mchkE_iret hce h.1⟩)
    | [], h, _ => exact h.elim
    | .int _ :: _ :: _, h, _ => exact h.elim
    | .long _ :: _, h, _ => exact h.elim
    | .float _ :: _, h, _ => exact h.elim
    | .double _ :: _, h, _ => exact h.elim
    | .null :: _, h, _ => exact h.elim
    | .ref _ :: _, h, _ => exact h.elim
    | .retAddr _ :: _, h, _ => exact h.elim
  | lreturn =>
    match st, h, hret with
    | [.long x], h, hret =>
      exact hret _ _ (hd1 rfl rfl) h (Or.inr (Or.inl ⟨rfl, x, rfl, rfl, mchkE_lret hce⟩))
    | [], h, _ => exact h.elim
    | .long _ :: _ :: _, h, _ => exact h.elim
    | .int _ :: _, h, _ => exact h.elim
    | .float _ :: _, h, _ => exact h.elim
    | .double _ :: _, h, _ => exact h.elim
    | .null :: _, h, _ => exact h.elim
    | .ref _ :: _, h, _ => exact h.elim
    | .retAddr _ :: _, h, _ => exact h.elim
  | areturn =>
    match st, h, hret with
    | [.ref x], h, hret =>
      exact hret _ _ (hd1 rfl rfl) h (Or.inr (Or.inr (Or.inl ⟨rfl, x, rfl, rfl, mchkE_aret hce⟩)))
    | [], h, _ => exact h.elim
    | .ref _ :: _ :: _, h, _ => exact h.elim
    | .int _ :: _, h, _ => exact h.elim
    | .float _ :: _, h, _ => exact h.elim
    | .double _ :: _, h, _ => exact h.elim
    | .null :: _, h, _ => exact h.elim
    | .long _ :: _, h, _ => exact h.elim
    | .retAddr _ :: _, h, _ => exact h.elim
  | return_ =>
    match st, h, hret with
    | [], h, hret =>
      exact hret _ _ (hd1 rfl rfl) h (Or.inr (Or.inr (Or.inr ⟨rfl, rfl, rfl, mchkE_vret hce⟩)))
    | _ :: _, h, _ => exact h.elim
  | _ => exact h.elim
end MS3
