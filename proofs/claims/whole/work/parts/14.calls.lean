/-! ===== calls ===== -/
theorem gtb_good {ws : List Cond} (h : ∀ w ∈ ws, w ∈ gtb) : GoodIn gtb ws := fun w hw => ⟨h w hw, good_of_word (List.mem_filter.mp (h w hw)).2⟩
def mrm (d mc ms : Nat) : Room := { frames := d, cells := mc, slots := ms, locals := 40 * d }
def mPre (D : va_G) (dA : Nat → ClassId) (E : mN) (ad : Nat → Nat) (w : mW) (vs : List Value) (sz : Nat) : Array Value → State → Prop :=
  va_Pc (vs.map (mtr ad)) (fun U => U.heap.size = sz ∧ va_P D vwCl (mwl dA ad w) U.heap ∧ va_D (fun _ => True) (mwl dA ad w) ∧ mSE D dA ad E (va_A (mwl dA ad w) sz) U U.heap)
def mPost (D : va_G) (dA : Nat → ClassId) (ad : Nat → Nat) (w : mW) (res : mRs) (A : Nat → Prop) : Array Value → State → Outcome → State → Prop := fun _ st o t =>
  (∃ ad' : Nat → Nat, (∀ h, okh w.1.1 h → ad' h = ad h) ∧ o = .returned (res.1.map (mtr ad')) ∧ va_P D vwCl (mwl dA ad' res.2) t.heap ∧ va_D A (mwl dA ad' res.2)) ∧ va_F A st t
def mMet (l : Launch) (d : Nat) (q : mQ) (D : va_G) (dA : Nat → ClassId) (ad : Nat → Nat) (w : mW) (vs : List Value) (res : mRs) (sz : Nat) : Prop :=
  Met l q.1 (Cond.code q.1 q.2.1 q.2.2.1 q.2.2.2.1 :: gtb) (mrm d (res.2.1.1 - w.1.1) (res.2.1.2.1 - w.1.2.1)) (mPre D dA w.1.2.2.2.2 ad w vs sz) (mPost D dA ad w res (va_A (mwl dA ad w) sz)) (res.2.1.1 - w.1.1) (res.2.1.2.1 - w.1.2.1) (va_A (mwl dA ad w) sz)
/-- at depth d every call of the small machine is one of the machine -/
def mCallOK (l : Launch) (d : Nat) : Prop := ∀ (k : Nat) (q : mQ) (vs : List Value) (w : mW) (res : mRs), mmk k = some q → mcall mmk mrc d k vs w res → okW w → okS w.1.1 vs → res.2.1.1 ≤ mB → ∀ (D : va_G) (dA : Nat → ClassId) (ad : Nat → Nat) (sz : Nat), mMet l d q D dA ad w vs res sz
theorem mspl_eq : ∀ (b : Nat) (acc st a r : List Value), mspl b acc st = some (a, r) → a.reverse ++ r = acc.reverse ++ st ∧ a.length = acc.length + b
  | 0, acc, st, a, r, h => by cases h; exact ⟨rfl, rfl⟩
  | b + 1, acc, [], a, r, h => by cases h
  | b + 1, acc, v :: st, a, r, h => by
    obtain ⟨h1, h2⟩ := mspl_eq b (v :: acc) st a r h
    refine ⟨by rw [h1]; simp, by rw [h2]; simp; omega⟩
theorem mSE.adr {D : va_G} {dA : Nat → ClassId} {ad0 ad : Nat → Nat} {E : mN} {A : Nat → Prop} {U : State} {H : Heap} (ha : ∀ h, mB ≤ h → ad h = ad0 h) (hE : okv 0 E.2.2) (h : mSE D dA ad0 E A U H) : mSE D dA ad E A U H := by
  obtain ⟨h1, h2, h3, h4, h5, h6, h7, h8, h9, h10, h11, h12, h13, h14⟩ := h
  have b0 : mB ≤ 1000200 := by decide
  have b1 : mB ≤ 1000201 := by decide
  have b2 : mB ≤ 1000202 := by decide
  have b3 : mB ≤ 1000300 := by decide
  refine ⟨h1, h2, h3, ?_, fun q hq hc => by rw [ha _ (Nat.le_add_right _ _)]; exact h5 q hq hc, h6, by rw [ha _ b0]; exact h7, by rw [ha _ b1]; exact h8, by rw [ha _ b2]; exact h9, ?_, by rw [ha _ b0]; exact h11, by rw [ha _ b1]; exact h12, by rw [ha _ b2]; exact h13, by rw [ha _ b3]; exact h14⟩
  · have e1 : (fun i => ad (mB + i)) = fun i => ad0 (mB + i) := funext fun i => ha _ (Nat.le_add_right _ _)
    have e2 : (fun i => ad (mB + 100 + i)) = fun i => ad0 (mB + 100 + i) := funext fun i => ha _ (by omega)
    rw [e1, e2]
    exact h4
  · rw [mtr_ext (n := 0) (fun a h => ha a (h.elim (fun z => absurd z (Nat.not_lt_zero _)) id)) hE]
    exact h10
section MC
variable {p : Program} {l : Launch} {e : Env} {R : Room} {s : State} {m : MethodId} {args : Array Value} {below : List Frame} {meth : Method} {c : Code} {Q : State → Prop}
variable {cc : ByteArray} {own nl : Nat} {D : va_G} {dA : Nat → ClassId} {ad0 : Nat → Nat} {E : mN} {A : Nat → Prop} {n0 s0 : Nat}
variable {H : Heap} {locs : List Loc} {ad : Nat → Nat} {w : mW} {ls : mLs} {arr : Array Slot} {st : List Value} {pc : Nat} {K : Nat → mLs → List Value → mW → Prop}
theorem ms_cont {r : Option Value} {w' : mW} {rest : List Value} {st0 : List Value} {a : Array Value} (C : mCtx p s m args c cc own nl D dA ad0 E A) (P : mPt s D dA ad0 E A n0 nl H locs ad w ls arr) (O : mOkP n0 s0 ls rest w) (IH : mRest p l e R s m args below meth c Q D dA ad0 E A n0 s0 nl K) (hle : leW w w')
    (hr : va_Run p l e R s m args below meth c H locs (w.1.1 - n0) (w.1.2.1 - s0) (w'.1.1 - w.1.1) (w'.1.2.1 - w.1.2.1) (F0 m pc arr st0) (rest.map (mtr ad)) (mPost D dA ad w (r, w') (va_A (mwl dA ad w) H.size) a) (va_A (mwl dA ad w) H.size)) (hK : K (pc + 3) ls (r.toList ++ rest) w') :
    W p l e R s m args below meth c H locs (w.1.1 - n0) (w.1.2.1 - s0) Q (F0 m pc arr st0) := by
  obtain ⟨hx, hb, hml, hown, hts, hSE, hA⟩ := C
  obtain ⟨hS, hP, hD, had, hl, hll, hE⟩ := id P
  obtain ⟨hw, hos, hol, hn0, hs0, -⟩ := O
  have hAA : ∀ q, va_A (mwl dA ad w) H.size q → A q := fun q h => by
    rcases h with ⟨k, e, h⟩ | h
    · exact hD.2 k (q, e) h
    · exact hA q (Nat.le_trans hS.1 h)
  intro T hT X
  obtain ⟨v, st₀, t, T', L, h0, X', hL, e1, e2, ⟨⟨ad', hext, hv, hP1, hD1⟩, hz, hk⟩, stp⟩ := hr T hT X
  cases hv
  rw [h0] at hz hk
  have P' : mPt s D dA ad0 E A n0 nl T'.heap (locs ++ L) ad' w' ls arr := by
    refine ⟨⟨Nat.le_trans hS.1 (by rw [e1]; exact hz), fun q h1 h2 => ?_, fun q hq => ?_⟩, by rw [e1]; exact hP1, hD1.weaken (fun _ _ _ h => hAA _ h), fun h hh => ?_, hl.ext hext hol, hll, hle.2.2.trans hE⟩
    · rw [e1, hk q (Nat.lt_of_lt_of_le h1 hS.1) (fun z => h2 (hAA q z))]
      exact hS.2.1 q h1 h2
    · rcases List.mem_append.mp hq with h | h
      · exact hS.2.2 q h
      · exact hAA _ (hL q h)
    · rw [hext h (hh.mono hn0)]
      exact had h hh
  obtain ⟨t2, a1, b1⟩ := IH _ _ _ _ arr T'.heap (locs ++ L) ad' hK P' T' rfl (by
    have c1 : w.1.1 - n0 + (w'.1.1 - w.1.1) = w'.1.1 - n0 := by have := hle.1; omega
    have c2 : w.1.2.1 - s0 + (w'.1.2.1 - w.1.2.1) = w'.1.2.1 - s0 := by have := hle.2.1; omega
    rw [c1, c2] at X'
    exact X')
  refine ⟨t2, stp t2 ?_, b1⟩
  have e3 : (r.map (mtr ad')).toList ++ rest.map (mtr ad) = (r.toList ++ rest).map (mtr ad') := by
    rw [List.map_append, mtrS_ext hext hos]
    cases r <;> rfl
  rw [e3]
  exact a1
theorem mpre_U {vs : List Value} (C : mCtx p s m args c cc own nl D dA ad0 E A) (P : mPt s D dA ad0 E A n0 nl H locs ad w ls arr) (hw : okW w) : ∀ U : State, U.heap = H → s.WarmedH U.vm → mPre D dA w.1.2.2.2.2 ad w vs H.size (vs.map (mtr ad)).toArray U := by
  intro U hU hW
  obtain ⟨hx, hb, hml, hown, hts, hSE, hA⟩ := C
  obtain ⟨hS, hP, hD, had, hl, hll, hE⟩ := P
  have hAA : ∀ q, va_A (mwl dA ad w) H.size q → A q := fun q h => by
    rcases h with ⟨k, e, h⟩ | h
    · exact hD.2 k (q, e) h
    · exact hA q (Nat.le_trans hS.1 h)
  refine ⟨rfl, by rw [hU], by rw [hU]; exact hP, hD.weaken (fun _ _ _ _ => trivial), ?_⟩
  rw [hU, hE]
  exact (((hSE.adr (fun h hh => had h (Or.inr hh)) (hE ▸ hw.2)).kept hS.2.1).narrow hAA).warm hW
theorem mpre_blind {vs : List Value} {sz : Nat} : FrameBlind (mPre D dA E ad w vs sz) := fun a U g mk h => by
  obtain ⟨h1, h2, h3, h4, h5⟩ := h
  exact ⟨h1, h2, h3, h4, mSE.same (u := U) (U := U.calling g mk a) rfl h5⟩
theorem mcat_le {r : List Value} (h : r.length ≤ 4) : ((r.map (mtr ad)).map fun v => v.category).sum ≤ 8 := by
  have key : ∀ r : List Value, ((r.map (mtr ad)).map fun v => v.category).sum ≤ 2 * r.length := by
    intro r
    induction r with
    | nil => simp
    | cons v r ih =>
      have : (mtr ad v).category ≤ 2 := by rw [mtr_cat]; cases v <;> simp [Value.category]
      simp only [List.map_cons, List.sum_cons, List.length_cons]
      omega
  have := key r
  omega
theorem m_recv {h ci : Nat} (C : mCtx p s m args c cc own nl D dA ad0 E A) (P : mPt s D dA ad0 E A n0 nl H locs ad w ls arr) (ho : okv w.1.1 (.ref h)) (hk : mkd w.1 h = (0, ci)) (hci : ci < 10) : ∃ cell : Cell, H[ad h]? = some cell ∧ cell.vm.isStatics = false ∧ s.vm.findClass (mcC ci) = some cell.cls := by
  obtain ⟨hx, hb, hml, hown, hts, hSE, hA⟩ := C
  obtain ⟨hS, hP, hD, had, hl, hll, hE⟩ := P
  unfold mkd at hk
  cases hB : Nat.blt h mB with
  | true =>
    rw [hB] at hk
    have hg := mwl_get (dA := dA) (ad := ad) (w := w) (m_hn (hB := hB) ho)
    rw [mcE_obj hk] at hg
    exact va_recv hSE.1 hP (mc_at ci hci) hg
  | false =>
    rw [hB, hE] at hk
    have hk : mroK E h = (0, ci) := hk
    have hxB := nblt_f hB
    obtain ⟨j, rfl⟩ : ∃ j : Nat, h = mB + j := ⟨h - mB, (Nat.add_sub_cancel' hxB).symm⟩
    have h11 : Nat.blt (mB + j) 1000011 = true ∧ ci = 0 := by
      unfold mroK at hk
      cases h1 : Nat.blt (mB + j) 1000011 with
      | true => rw [h1] at hk; cases hk; exact ⟨rfl, rfl⟩
      | false =>
        rw [h1] at hk
        cases h2 : Nat.blt (mB + j) 1000100 <;> rw [h2] at hk
        · cases h3 : Nat.blt (mB + j) 1000111 <;> rw [h3] at hk
          · cases h4 : Nat.beq (mB + j) 1000200 <;> rw [h4] at hk
            · cases h5 : Nat.beq (mB + j) 1000201 <;> rw [h5] at hk
              · cases h6 : Nat.beq (mB + j) 1000202 <;> rw [h6] at hk
                · cases h7 : Nat.beq (mB + j) 1000300 <;> rw [h7] at hk <;> cases hk
                · cases hk
              · cases hk
            · cases hk
          · cases hk
        · cases hk
    obtain ⟨h11, rfl⟩ := h11
    have hj : j < 11 := Nat.lt_of_add_lt_add_left (show mB + j < mB + 11 from nblt_t h11)
    rw [had _ (Or.inr (Nat.le_add_right _ _))]
    exact vk_recv (adK := fun i => ad0 (mB + i)) (i := j) hSE.2.2.2.1 hj hS
theorem m_reqs {own i a b kd : Nat} (hq : (own, i, a, b, kd) ∈ mMthT) : ∀ x ∈ mReqK (mcl own) i kd (mnm a), x ∈ gtb := by
  have h0 : ∀ x ∈ mMthT.flatMap mReq, x ∈ gtb := by
    have e : mMthT = (mMthT.drop 0).take 60 ++ ((mMthT.drop 60).take 60 ++ ((mMthT.drop 120).take 60 ++ ((mMthT.drop 180).take 60 ++ ((mMthT.drop 240).take 60 ++ (mMthT.drop 300).take 60)))) := by decide +kernel
    rw [e]
    intro x hxm
    simp only [List.flatMap_append, List.mem_append] at hxm
    rcases hxm with z | z | z | z | z | z
    · exact mMth_w0 x z
    · exact mMth_w1 x z
    · exact mMth_w2 x z
    · exact mMth_w3 x z
    · exact mMth_w4 x z
    · exact mMth_w5 x z
  exact fun x hxm => h0 x (List.mem_flatMap.mpr ⟨_, hq, hxm⟩)
theorem m_mthc {own i a b kd : Nat} (hq : (own, i, a, b, kd) ∈ mMthT) (hkd : kd ≤ 7) : (∃ q, mmk a = some q ∧ mnm a = q.1) ∧ (mnm a).cls ≠ "java/lang/invoke/MethodHandle" ∧ (mnm a).cls ≠ "java/lang/invoke/VarHandle" ∧ (parseMethodDescriptor (mnm a).desc).map (fun d => d.parameters.length) = some b ∧
    (kd = 0 → mcC (mrc a) = (mnm a).cls ∧ mrc a < 10) ∧ (kd = 2 ∨ kd = 6 → (mnm a).name = "<init>") ∧ (kd = 3 ∨ kd = 4 ∨ kd = 5 → mrc a = 1) ∧ (kd = 5 → (mnm a).name ≠ "<init>") := by
  have hcc := List.all_eq_true.mp mMth_c _ hq
  have hcc : ((mmk a).isSome && (decide ((mnm a).cls ≠ "java/lang/invoke/MethodHandle") && (decide ((mnm a).cls ≠ "java/lang/invoke/VarHandle") && (decide ((parseMethodDescriptor (mnm a).desc).map (fun d => d.parameters.length) = some b) &&
      ((Nat.beq kd 0 && decide (mcC (mrc a) = (mnm a).cls ∧ mrc a < 10)) || Nat.beq kd 1 || ((Nat.beq kd 2 || Nat.beq kd 6) && decide ((mnm a).name = "<init>")) || (Nat.beq kd 3 && decide (mrc a = 1)) || (Nat.beq kd 4 && decide (mrc a = 1)) || (Nat.beq kd 5 && decide ((mnm a).name ≠ "<init>" ∧ mrc a = 1)) || Nat.beq kd 7))))) = true := by
    match kd, hkd, hcc with
    | 0, _, h => exact h
    | 1, _, h => exact h
    | 2, _, h => exact h
    | 3, _, h => exact h
    | 4, _, h => exact h
    | 5, _, h => exact h
    | 6, _, h => exact h
    | 7, _, h => exact h
    | kd + 8, z, _ => omega
  rw [Bool.and_eq_true, Bool.and_eq_true, Bool.and_eq_true, Bool.and_eq_true] at hcc
  obtain ⟨h1, h2, h3, h4, h5⟩ := hcc
  obtain ⟨q, hmk⟩ := Option.isSome_iff_exists.mp h1
  refine ⟨⟨q, hmk, by unfold mnm; rw [hmk]⟩, of_decide_eq_true h2, of_decide_eq_true h3, of_decide_eq_true h4, ?_, ?_, ?_, ?_⟩
  · rintro rfl
    simpa using h5
  · rintro (rfl | rfl) <;> simpa using h5
  · rintro (rfl | rfl | rfl) <;> simp at h5
    · exact h5
    · exact h5
    · exact h5.2
  · rintro rfl
    simp at h5
    exact h5.1
/-- every method's own word is among the good ones, its locals are few -/
def mMW : Prop := ∀ (k : Nat) (q : mQ), mmk k = some q → Cond.code q.1 q.2.1 q.2.2.1 q.2.2.2.1 ∈ gtb ∧ q.2.2.1 ≤ 7 ∧ (q.1.name = "<init>" → q.2.2.2.1 = none)
theorem m_stk {b h : Nat} {vs r : List Value} (hsp : mspl b [] st = some (vs, .ref h :: r)) : st.map (mtr ad) = (vs.map (mtr ad)).reverse ++ .ref (ad h) :: r.map (mtr ad) ∧ (vs.map (mtr ad)).length = b := by
  obtain ⟨h1, h2⟩ := mspl_eq b [] st vs _ hsp
  have h1 : vs.reverse ++ (.ref h :: r) = st := h1
  rw [← h1]
  refine ⟨by simp [mtr], by simp [h2]⟩
theorem m_stkS {b : Nat} {vs r : List Value} (hsp : mspl b [] st = some (vs, r)) : st.map (mtr ad) = (vs.map (mtr ad)).reverse ++ r.map (mtr ad) ∧ (vs.map (mtr ad)).length = b := by
  obtain ⟨h1, h2⟩ := mspl_eq b [] st vs _ hsp
  have h1 : vs.reverse ++ r = st := h1
  rw [← h1]
  refine ⟨by simp, by simp [h2]⟩
theorem gtb_cons {x : Cond} (hx : x ∈ gtb) : ∀ w ∈ x :: gtb, w ∈ gtb := fun w hw => by
  rcases List.mem_cons.mp hw with rfl | h
  · exact hx
  · exact h
set_option maxHeartbeats 8000000 in
theorem ms_invV {kd a b i d : Nat} {vs rest : List Value} (C : mCtx p s m args c cc own nl D dA ad0 E A) (P : mPt s D dA ad0 E A n0 nl H locs ad w ls arr) (O : mOkP n0 s0 ls st w) (IH : mRest p l e R s m args below meth c Q D dA ad0 E A n0 s0 nl K) (hKR : ∀ pc ls st w', K pc ls st w' → w'.1.1 - n0 ≤ R.cells ∧ w'.1.2.1 - s0 ≤ R.slots ∧ w'.1.1 ≤ mB)
    (hM : mMW) (hC : mCallOK l d) (hRf : d + 1 ≤ R.frames) (hRl : 40 * d + 40 ≤ R.locals) (hq : (own, i, a, b, kd) ∈ mMthT) (hd : decode cc pc = .ok (.invokevirtual i, 3)) (hkd : kd = 0) (hsp : mspl b [] st = some (vs, rest))
    (h : popR rest fun h r => (kd = 2 ∨ kd = 6 ∨ mkd w.1 h = (0, mrc a)) ∧ msInv (mcall mmk mrc d) a (.ref h :: vs) r pc ls w K) :
    W p l e R s m args below meth c H locs (w.1.1 - n0) (w.1.2.1 - s0) Q (F0 m pc arr (st.map (mtr ad))) := by
  obtain ⟨hx, hb, hml, hown, hts, hSE, hA⟩ := id C
  obtain ⟨hS, hP, hD, had, hl, hll, hE⟩ := id P
  obtain ⟨hw, hos, hol, hn0, hs0, hmB⟩ := id O
  have hreq := m_reqs hq
  obtain ⟨⟨q, hmk, hnm⟩, y1, y2, y3, k0, k26, k345, k5⟩ := m_mthc hq (by omega)
  rw [hnm] at hreq y1 y2 y3 k0 k26 k5
  obtain ⟨hcw, hq7, hqn⟩ := hM a q hmk
  have hwq := gtb_cons hcw
  obtain ⟨o1, o2⟩ := mspl_ok b [] st vs rest hsp (fun v hv => by cases hv) hos
  refine popR_o h fun x r e hh => ?_
  clear h
  subst e
  obtain ⟨hrk, h4, rv, w', hcall, hK⟩ := hh
  obtain ⟨z1, z2, z3⟩ := hKR _ _ _ _ hK
  obtain ⟨g1, g2, g3⟩ := mcall_keeps mmk mrc d _ _ _ _ _ hcall hw (okS.cons o2.head o1)
  have g11 := g1.1
  have g12 := g1.2.1
  obtain ⟨t1, t2⟩ := m_stk (ad := ad) hsp
  have hMet := hC a q (.ref x :: vs) w (rv, w') hmk hcall hw (okS.cons o2.head o1) z3 D dA ad H.size
  have hRR : (mrm d (w'.1.1 - w.1.1) (w'.1.2.1 - w.1.2.1)).frames + 1 ≤ R.frames ∧ 8 + (q.2.2.1 + 11) + (mrm d (w'.1.1 - w.1.1) (w'.1.2.1 - w.1.2.1)).locals ≤ R.locals := ⟨hRf, by show 8 + (q.2.2.1 + 11) + 40 * d ≤ R.locals; omega⟩
  have hff : w.1.1 - n0 + (w'.1.1 - w.1.1) ≤ R.cells ∧ w.1.2.1 - s0 + (w'.1.2.1 - w.1.2.1) ≤ R.slots := ⟨by omega, by omega⟩
  subst hkd
  have hrk : mkd w.1 x = (0, mrc a) := by
    rcases hrk with z | z | z
    · omega
    · omega
    · exact z
  obtain ⟨k01, k02⟩ := k0 rfl
  have G : GoodIn gtb (wsV (mcl own) i q.1.cls q.1 (Cond.code q.1 q.2.1 q.2.2.1 q.2.2.2.1 :: gtb)) := gtb_good fun y hy => (List.mem_append.mp hy).elim (fun z => hreq y (List.mem_append_left _ z)) (hwq y)
  exact ms_cont C P ⟨hw, o2.tail, hol, hn0, hs0, hmB⟩ IH g1 (va_runV (C := q.1.cls) ⟨hx, hb, hml, hown, hts⟩ hMet (cwV b hts G rfl rfl rfl ⟨rfl, y1, y2, y3⟩ hRR) ⟨mpre_blind, by rw [← k01]; exact m_recv C P o2.head hrk k02, mpre_U C P hw⟩ rfl t2 (hl.1.trans hll) t1 (lv_room (mcat_le h4)) hd hff) hK
set_option maxHeartbeats 8000000 in
theorem ms_invU {kd a b i d : Nat} {vs rest : List Value} (C : mCtx p s m args c cc own nl D dA ad0 E A) (P : mPt s D dA ad0 E A n0 nl H locs ad w ls arr) (O : mOkP n0 s0 ls st w) (IH : mRest p l e R s m args below meth c Q D dA ad0 E A n0 s0 nl K) (hKR : ∀ pc ls st w', K pc ls st w' → w'.1.1 - n0 ≤ R.cells ∧ w'.1.2.1 - s0 ≤ R.slots ∧ w'.1.1 ≤ mB)
    (hM : mMW) (hC : mCallOK l d) (hRf : d + 1 ≤ R.frames) (hRl : 40 * d + 40 ≤ R.locals) (hq : (own, i, a, b, kd) ∈ mMthT) (hd : decode cc pc = .ok (.invokevirtual i, 3)) (hkd : kd = 3) (hsp : mspl b [] st = some (vs, rest))
    (h : popR rest fun h r => (kd = 2 ∨ kd = 6 ∨ mkd w.1 h = (0, mrc a)) ∧ msInv (mcall mmk mrc d) a (.ref h :: vs) r pc ls w K) :
    W p l e R s m args below meth c H locs (w.1.1 - n0) (w.1.2.1 - s0) Q (F0 m pc arr (st.map (mtr ad))) := by
  obtain ⟨hx, hb, hml, hown, hts, hSE, hA⟩ := id C
  obtain ⟨hS, hP, hD, had, hl, hll, hE⟩ := id P
  obtain ⟨hw, hos, hol, hn0, hs0, hmB⟩ := id O
  have hreq := m_reqs hq
  obtain ⟨⟨q, hmk, hnm⟩, y1, y2, y3, k0, k26, k345, k5⟩ := m_mthc hq (by omega)
  rw [hnm] at hreq y1 y2 y3 k0 k26 k5
  obtain ⟨hcw, hq7, hqn⟩ := hM a q hmk
  have hwq := gtb_cons hcw
  obtain ⟨o1, o2⟩ := mspl_ok b [] st vs rest hsp (fun v hv => by cases hv) hos
  refine popR_o h fun x r e hh => ?_
  clear h
  subst e
  obtain ⟨hrk, h4, rv, w', hcall, hK⟩ := hh
  obtain ⟨z1, z2, z3⟩ := hKR _ _ _ _ hK
  obtain ⟨g1, g2, g3⟩ := mcall_keeps mmk mrc d _ _ _ _ _ hcall hw (okS.cons o2.head o1)
  have g11 := g1.1
  have g12 := g1.2.1
  obtain ⟨t1, t2⟩ := m_stk (ad := ad) hsp
  have hMet := hC a q (.ref x :: vs) w (rv, w') hmk hcall hw (okS.cons o2.head o1) z3 D dA ad H.size
  have hRR : (mrm d (w'.1.1 - w.1.1) (w'.1.2.1 - w.1.2.1)).frames + 1 ≤ R.frames ∧ 8 + (q.2.2.1 + 11) + (mrm d (w'.1.1 - w.1.1) (w'.1.2.1 - w.1.2.1)).locals ≤ R.locals := ⟨hRf, by show 8 + (q.2.2.1 + 11) + 40 * d ≤ R.locals; omega⟩
  have hff : w.1.1 - n0 + (w'.1.1 - w.1.1) ≤ R.cells ∧ w.1.2.1 - s0 + (w'.1.2.1 - w.1.2.1) ≤ R.slots := ⟨by omega, by omega⟩
  subst hkd
  have hrk : mkd w.1 x = (0, mrc a) := by
    rcases hrk with z | z | z
    · omega
    · omega
    · exact z
  rw [k345 (Or.inl rfl)] at hrk
  have G : GoodIn gtb (va_wsU (mcl own) i RJ4 q.1.cls q.1 q.1 (Cond.code q.1 q.2.1 q.2.2.1 q.2.2.2.1 :: gtb)) := gtb_good fun y hy => (List.mem_append.mp hy).elim (fun z => hreq y (List.mem_append_left _ z)) (hwq y)
  exact ms_cont C P ⟨hw, o2.tail, hol, hn0, hs0, hmB⟩ IH g1 (va_runU (C := RJ4) ⟨hx, hb, hml, hown, hts⟩ hMet (va_cwU b hts G rfl rfl rfl rfl ⟨y1, y2, y3⟩ hRR) ⟨mpre_blind, m_recv (ci := 1) C P o2.head hrk (by decide), mpre_U C P hw⟩ rfl t2 (hl.1.trans hll) t1 (lv_room (mcat_le h4)) hd hff) hK
set_option maxHeartbeats 8000000 in
theorem ms_invO {kd a b i d : Nat} {vs rest : List Value} (C : mCtx p s m args c cc own nl D dA ad0 E A) (P : mPt s D dA ad0 E A n0 nl H locs ad w ls arr) (O : mOkP n0 s0 ls st w) (IH : mRest p l e R s m args below meth c Q D dA ad0 E A n0 s0 nl K) (hKR : ∀ pc ls st w', K pc ls st w' → w'.1.1 - n0 ≤ R.cells ∧ w'.1.2.1 - s0 ≤ R.slots ∧ w'.1.1 ≤ mB)
    (hM : mMW) (hC : mCallOK l d) (hRf : d + 1 ≤ R.frames) (hRl : 40 * d + 40 ≤ R.locals) (hq : (own, i, a, b, kd) ∈ mMthT) (hd : decode cc pc = .ok (.invokevirtual i, 3)) (hkd : kd = 4) (hsp : mspl b [] st = some (vs, rest))
    (h : popR rest fun h r => (kd = 2 ∨ kd = 6 ∨ mkd w.1 h = (0, mrc a)) ∧ msInv (mcall mmk mrc d) a (.ref h :: vs) r pc ls w K) :
    W p l e R s m args below meth c H locs (w.1.1 - n0) (w.1.2.1 - s0) Q (F0 m pc arr (st.map (mtr ad))) := by
  obtain ⟨hx, hb, hml, hown, hts, hSE, hA⟩ := id C
  obtain ⟨hS, hP, hD, had, hl, hll, hE⟩ := id P
  obtain ⟨hw, hos, hol, hn0, hs0, hmB⟩ := id O
  have hreq := m_reqs hq
  obtain ⟨⟨q, hmk, hnm⟩, y1, y2, y3, k0, k26, k345, k5⟩ := m_mthc hq (by omega)
  rw [hnm] at hreq y1 y2 y3 k0 k26 k5
  obtain ⟨hcw, hq7, hqn⟩ := hM a q hmk
  have hwq := gtb_cons hcw
  obtain ⟨o1, o2⟩ := mspl_ok b [] st vs rest hsp (fun v hv => by cases hv) hos
  refine popR_o h fun x r e hh => ?_
  clear h
  subst e
  obtain ⟨hrk, h4, rv, w', hcall, hK⟩ := hh
  obtain ⟨z1, z2, z3⟩ := hKR _ _ _ _ hK
  obtain ⟨g1, g2, g3⟩ := mcall_keeps mmk mrc d _ _ _ _ _ hcall hw (okS.cons o2.head o1)
  have g11 := g1.1
  have g12 := g1.2.1
  obtain ⟨t1, t2⟩ := m_stk (ad := ad) hsp
  have hMet := hC a q (.ref x :: vs) w (rv, w') hmk hcall hw (okS.cons o2.head o1) z3 D dA ad H.size
  have hRR : (mrm d (w'.1.1 - w.1.1) (w'.1.2.1 - w.1.2.1)).frames + 1 ≤ R.frames ∧ 8 + (q.2.2.1 + 11) + (mrm d (w'.1.1 - w.1.1) (w'.1.2.1 - w.1.2.1)).locals ≤ R.locals := ⟨hRf, by show 8 + (q.2.2.1 + 11) + 40 * d ≤ R.locals; omega⟩
  have hff : w.1.1 - n0 + (w'.1.1 - w.1.1) ≤ R.cells ∧ w.1.2.1 - s0 + (w'.1.2.1 - w.1.2.1) ≤ R.slots := ⟨by omega, by omega⟩
  subst hkd
  have hrk : mkd w.1 x = (0, mrc a) := by
    rcases hrk with z | z | z
    · omega
    · omega
    · exact z
  rw [k345 (Or.inr (Or.inl rfl))] at hrk
  have hb0 : b = 0 := by
    have hm : ∀ q ∈ mMthT, q.2.2.2.2 = 4 → q.2.2.2.1 = 0 := by decide +kernel
    exact hm _ hq rfl
  subst hb0
  have G : GoodIn gtb (va_wsO (mcl own) i RJ4 mASB mlenX q.1 (Cond.code q.1 q.2.1 q.2.2.1 q.2.2.2.1 :: gtb)) := gtb_good fun y hy => (List.mem_append.mp hy).elim (fun z => hreq y (List.mem_append_left _ z)) (hwq y)
  exact ms_cont C P ⟨hw, o2.tail, hol, hn0, hs0, hmB⟩ IH g1 (va_runU (C := RJ4) ⟨hx, hb, hml, hown, hts⟩ hMet (va_cwO 0 hts G rfl rfl rfl (mOth_w _ (List.mem_of_getElem? (i := 1) rfl)) ⟨by decide +kernel, by decide +kernel, by decide +kernel⟩ hRR) ⟨mpre_blind, m_recv (ci := 1) C P o2.head hrk (by decide), mpre_U C P hw⟩ rfl t2 (hl.1.trans hll) t1 (lv_room (mcat_le h4)) hd hff) hK
set_option maxHeartbeats 8000000 in
theorem ms_invSU {kd a b i d : Nat} {vs rest : List Value} (C : mCtx p s m args c cc own nl D dA ad0 E A) (P : mPt s D dA ad0 E A n0 nl H locs ad w ls arr) (O : mOkP n0 s0 ls st w) (IH : mRest p l e R s m args below meth c Q D dA ad0 E A n0 s0 nl K) (hKR : ∀ pc ls st w', K pc ls st w' → w'.1.1 - n0 ≤ R.cells ∧ w'.1.2.1 - s0 ≤ R.slots ∧ w'.1.1 ≤ mB)
    (hM : mMW) (hC : mCallOK l d) (hRf : d + 1 ≤ R.frames) (hRl : 40 * d + 40 ≤ R.locals) (hq : (own, i, a, b, kd) ∈ mMthT) (hd : decode cc pc = .ok (.invokespecial i, 3)) (hkd : kd = 5) (hsp : mspl b [] st = some (vs, rest))
    (h : popR rest fun h r => (kd = 2 ∨ kd = 6 ∨ mkd w.1 h = (0, mrc a)) ∧ msInv (mcall mmk mrc d) a (.ref h :: vs) r pc ls w K) :
    W p l e R s m args below meth c H locs (w.1.1 - n0) (w.1.2.1 - s0) Q (F0 m pc arr (st.map (mtr ad))) := by
  obtain ⟨hx, hb, hml, hown, hts, hSE, hA⟩ := id C
  obtain ⟨hS, hP, hD, had, hl, hll, hE⟩ := id P
  obtain ⟨hw, hos, hol, hn0, hs0, hmB⟩ := id O
  have hreq := m_reqs hq
  obtain ⟨⟨q, hmk, hnm⟩, y1, y2, y3, k0, k26, k345, k5⟩ := m_mthc hq (by omega)
  rw [hnm] at hreq y1 y2 y3 k0 k26 k5
  obtain ⟨hcw, hq7, hqn⟩ := hM a q hmk
  have hwq := gtb_cons hcw
  obtain ⟨o1, o2⟩ := mspl_ok b [] st vs rest hsp (fun v hv => by cases hv) hos
  refine popR_o h fun x r e hh => ?_
  clear h
  subst e
  obtain ⟨hrk, h4, rv, w', hcall, hK⟩ := hh
  obtain ⟨z1, z2, z3⟩ := hKR _ _ _ _ hK
  obtain ⟨g1, g2, g3⟩ := mcall_keeps mmk mrc d _ _ _ _ _ hcall hw (okS.cons o2.head o1)
  have g11 := g1.1
  have g12 := g1.2.1
  obtain ⟨t1, t2⟩ := m_stk (ad := ad) hsp
  have hMet := hC a q (.ref x :: vs) w (rv, w') hmk hcall hw (okS.cons o2.head o1) z3 D dA ad H.size
  have hRR : (mrm d (w'.1.1 - w.1.1) (w'.1.2.1 - w.1.2.1)).frames + 1 ≤ R.frames ∧ 8 + (q.2.2.1 + 11) + (mrm d (w'.1.1 - w.1.1) (w'.1.2.1 - w.1.2.1)).locals ≤ R.locals := ⟨hRf, by show 8 + (q.2.2.1 + 11) + 40 * d ≤ R.locals; omega⟩
  have hff : w.1.1 - n0 + (w'.1.1 - w.1.1) ≤ R.cells ∧ w.1.2.1 - s0 + (w'.1.2.1 - w.1.2.1) ≤ R.slots := ⟨by omega, by omega⟩
  subst hkd
  have hrk : mkd w.1 x = (0, mrc a) := by
    rcases hrk with z | z | z
    · omega
    · omega
    · exact z
  rw [k345 (Or.inr (Or.inr rfl))] at hrk
  have G : GoodIn gtb (va_wsSU (mcl own) i q.1 (Cond.code q.1 q.2.1 q.2.2.1 q.2.2.2.1 :: gtb)) := gtb_good fun y hy => (List.mem_append.mp hy).elim (fun z => hreq y (List.mem_append_left _ z)) (hwq y)
  exact ms_cont C P ⟨hw, o2.tail, hol, hn0, hs0, hmB⟩ IH g1 (va_runSU (C := RJ4) (hSE.1.1 1 _ (mc_at 1 (by decide))).2 ⟨hx, hb, hml, hown, hts⟩ hMet (va_cwSU b hts G rfl rfl rfl ⟨k5 rfl, y3⟩ hRR) ⟨mpre_blind, m_recv (ci := 1) C P o2.head hrk (by decide), mpre_U C P hw⟩ rfl t2 (hl.1.trans hll) t1 (lv_room (mcat_le h4)) hd hff) hK
set_option maxHeartbeats 8000000 in
theorem ms_invI {kd a b i d : Nat} {vs rest : List Value} (C : mCtx p s m args c cc own nl D dA ad0 E A) (P : mPt s D dA ad0 E A n0 nl H locs ad w ls arr) (O : mOkP n0 s0 ls st w) (IH : mRest p l e R s m args below meth c Q D dA ad0 E A n0 s0 nl K) (hKR : ∀ pc ls st w', K pc ls st w' → w'.1.1 - n0 ≤ R.cells ∧ w'.1.2.1 - s0 ≤ R.slots ∧ w'.1.1 ≤ mB)
    (hM : mMW) (hC : mCallOK l d) (hRf : d + 1 ≤ R.frames) (hRl : 40 * d + 40 ≤ R.locals) (hq : (own, i, a, b, kd) ∈ mMthT) (hd : decode cc pc = .ok (.invokespecial i, 3)) (hkd : kd = 2) (hsp : mspl b [] st = some (vs, rest))
    (h : popR rest fun h r => (kd = 2 ∨ kd = 6 ∨ mkd w.1 h = (0, mrc a)) ∧ msInv (mcall mmk mrc d) a (.ref h :: vs) r pc ls w K) :
    W p l e R s m args below meth c H locs (w.1.1 - n0) (w.1.2.1 - s0) Q (F0 m pc arr (st.map (mtr ad))) := by
  obtain ⟨hx, hb, hml, hown, hts, hSE, hA⟩ := id C
  obtain ⟨hS, hP, hD, had, hl, hll, hE⟩ := id P
  obtain ⟨hw, hos, hol, hn0, hs0, hmB⟩ := id O
  have hreq := m_reqs hq
  obtain ⟨⟨q, hmk, hnm⟩, y1, y2, y3, k0, k26, k345, k5⟩ := m_mthc hq (by omega)
  rw [hnm] at hreq y1 y2 y3 k0 k26 k5
  obtain ⟨hcw, hq7, hqn⟩ := hM a q hmk
  have hwq := gtb_cons hcw
  obtain ⟨o1, o2⟩ := mspl_ok b [] st vs rest hsp (fun v hv => by cases hv) hos
  refine popR_o h fun x r e hh => ?_
  clear h
  subst e
  obtain ⟨hrk, h4, rv, w', hcall, hK⟩ := hh
  obtain ⟨z1, z2, z3⟩ := hKR _ _ _ _ hK
  obtain ⟨g1, g2, g3⟩ := mcall_keeps mmk mrc d _ _ _ _ _ hcall hw (okS.cons o2.head o1)
  have g11 := g1.1
  have g12 := g1.2.1
  obtain ⟨t1, t2⟩ := m_stk (ad := ad) hsp
  have hMet := hC a q (.ref x :: vs) w (rv, w') hmk hcall hw (okS.cons o2.head o1) z3 D dA ad H.size
  have hRR : (mrm d (w'.1.1 - w.1.1) (w'.1.2.1 - w.1.2.1)).frames + 1 ≤ R.frames ∧ 8 + (q.2.2.1 + 11) + (mrm d (w'.1.1 - w.1.1) (w'.1.2.1 - w.1.2.1)).locals ≤ R.locals := ⟨hRf, by show 8 + (q.2.2.1 + 11) + 40 * d ≤ R.locals; omega⟩
  have hff : w.1.1 - n0 + (w'.1.1 - w.1.1) ≤ R.cells ∧ w.1.2.1 - s0 + (w'.1.2.1 - w.1.2.1) ≤ R.slots := ⟨by omega, by omega⟩
  subst hkd
  have hg : ∀ y ∈ [Cond.methodLink (mcl own) i q.1, .instanceMethod q.1, .initialized q.1.cls], y.before args s = true := fun y hy => hts y (hreq y hy)
  exact ms_cont C P ⟨hw, o2.tail, hol, hn0, hs0, hmB⟩ IH g1 (va_runI ⟨hx, hb, hml, hown, hts⟩ hMet (cwI b hts (gtb_good hwq) (show _ = Cond.code q.1 q.2.1 q.2.2.1 none :: gtb by rw [hqn (k26 (Or.inl rfl))]) rfl rfl (hg _ (by simp)) (hg _ (by simp)) (hg _ (by simp)) (k26 (Or.inl rfl)) ⟨y1, y2, y3⟩ hRR) ⟨mpre_blind, mpre_U C P hw⟩ rfl t2 (hl.1.trans hll) t1 (lv_room (mcat_le h4)) hd hff) hK
set_option maxHeartbeats 8000000 in
theorem ms_invIN {kd a b i d : Nat} {vs rest : List Value} (C : mCtx p s m args c cc own nl D dA ad0 E A) (P : mPt s D dA ad0 E A n0 nl H locs ad w ls arr) (O : mOkP n0 s0 ls st w) (IH : mRest p l e R s m args below meth c Q D dA ad0 E A n0 s0 nl K) (hKR : ∀ pc ls st w', K pc ls st w' → w'.1.1 - n0 ≤ R.cells ∧ w'.1.2.1 - s0 ≤ R.slots ∧ w'.1.1 ≤ mB)
    (hM : mMW) (hC : mCallOK l d) (hRf : d + 1 ≤ R.frames) (hRl : 40 * d + 40 ≤ R.locals) (hq : (own, i, a, b, kd) ∈ mMthT) (hd : decode cc pc = .ok (.invokespecial i, 3)) (hkd : kd = 6) (hsp : mspl b [] st = some (vs, rest))
    (h : popR rest fun h r => (kd = 2 ∨ kd = 6 ∨ mkd w.1 h = (0, mrc a)) ∧ msInv (mcall mmk mrc d) a (.ref h :: vs) r pc ls w K) :
    W p l e R s m args below meth c H locs (w.1.1 - n0) (w.1.2.1 - s0) Q (F0 m pc arr (st.map (mtr ad))) := by
  obtain ⟨hx, hb, hml, hown, hts, hSE, hA⟩ := id C
  obtain ⟨hS, hP, hD, had, hl, hll, hE⟩ := id P
  obtain ⟨hw, hos, hol, hn0, hs0, hmB⟩ := id O
  have hreq := m_reqs hq
  obtain ⟨⟨q, hmk, hnm⟩, y1, y2, y3, k0, k26, k345, k5⟩ := m_mthc hq (by omega)
  rw [hnm] at hreq y1 y2 y3 k0 k26 k5
  obtain ⟨hcw, hq7, hqn⟩ := hM a q hmk
  have hwq := gtb_cons hcw
  obtain ⟨o1, o2⟩ := mspl_ok b [] st vs rest hsp (fun v hv => by cases hv) hos
  refine popR_o h fun x r e hh => ?_
  clear h
  subst e
  obtain ⟨hrk, h4, rv, w', hcall, hK⟩ := hh
  obtain ⟨z1, z2, z3⟩ := hKR _ _ _ _ hK
  obtain ⟨g1, g2, g3⟩ := mcall_keeps mmk mrc d _ _ _ _ _ hcall hw (okS.cons o2.head o1)
  have g11 := g1.1
  have g12 := g1.2.1
  obtain ⟨t1, t2⟩ := m_stk (ad := ad) hsp
  have hMet := hC a q (.ref x :: vs) w (rv, w') hmk hcall hw (okS.cons o2.head o1) z3 D dA ad H.size
  have hRR : (mrm d (w'.1.1 - w.1.1) (w'.1.2.1 - w.1.2.1)).frames + 1 ≤ R.frames ∧ 8 + (q.2.2.1 + 11) + (mrm d (w'.1.1 - w.1.1) (w'.1.2.1 - w.1.2.1)).locals ≤ R.locals := ⟨hRf, by show 8 + (q.2.2.1 + 11) + 40 * d ≤ R.locals; omega⟩
  have hff : w.1.1 - n0 + (w'.1.1 - w.1.1) ≤ R.cells ∧ w.1.2.1 - s0 + (w'.1.2.1 - w.1.2.1) ≤ R.slots := ⟨by omega, by omega⟩
  subst hkd
  have hg : ∀ y ∈ [Cond.instanceMethod q.1, .initialized q.1.cls], y.before args s = true := fun y hy => hts y (hreq y hy)
  have hnest := hSE.2.1 _ hq (Or.inl rfl)
  rw [hnm] at hnest
  exact ms_cont C P ⟨hw, o2.tail, hol, hn0, hs0, hmB⟩ IH g1 (va_runIN ⟨hx, hb, hml, hown, hts⟩ hMet ⟨va_cnB b hts (gtb_good hwq) (show _ = Cond.code q.1 q.2.1 q.2.2.1 none :: gtb by rw [hqn (k26 (Or.inr rfl))]) rfl rfl hnest (hg _ (by simp)) ⟨y1, y2, y3⟩ hRR, k26 (Or.inr rfl), hg _ (by simp)⟩ ⟨mpre_blind, mpre_U C P hw⟩ rfl t2 (hl.1.trans hll) t1 (lv_room (mcat_le h4)) hd hff) hK
set_option maxHeartbeats 8000000 in
theorem ms_invS {kd a b i d : Nat} {vs rest : List Value} (C : mCtx p s m args c cc own nl D dA ad0 E A) (P : mPt s D dA ad0 E A n0 nl H locs ad w ls arr) (O : mOkP n0 s0 ls st w) (IH : mRest p l e R s m args below meth c Q D dA ad0 E A n0 s0 nl K) (hKR : ∀ pc ls st w', K pc ls st w' → w'.1.1 - n0 ≤ R.cells ∧ w'.1.2.1 - s0 ≤ R.slots ∧ w'.1.1 ≤ mB)
    (hM : mMW) (hC : mCallOK l d) (hRf : d + 1 ≤ R.frames) (hRl : 40 * d + 40 ≤ R.locals) (hq : (own, i, a, b, kd) ∈ mMthT) (hd : decode cc pc = .ok (.invokestatic i, 3)) (hkd : kd = 1) (hsp : mspl b [] st = some (vs, rest))
    (h : msInv (mcall mmk mrc d) a vs rest pc ls w K) :
    W p l e R s m args below meth c H locs (w.1.1 - n0) (w.1.2.1 - s0) Q (F0 m pc arr (st.map (mtr ad))) := by
  obtain ⟨hx, hb, hml, hown, hts, hSE, hA⟩ := id C
  obtain ⟨hS, hP, hD, had, hl, hll, hE⟩ := id P
  obtain ⟨hw, hos, hol, hn0, hs0, hmB⟩ := id O
  have hreq := m_reqs hq
  obtain ⟨⟨q, hmk, hnm⟩, y1, y2, y3, k0, k26, k345, k5⟩ := m_mthc hq (by omega)
  rw [hnm] at hreq y1 y2 y3 k0 k26 k5
  obtain ⟨hcw, hq7, hqn⟩ := hM a q hmk
  have hwq := gtb_cons hcw
  obtain ⟨o1, o2⟩ := mspl_ok b [] st vs rest hsp (fun v hv => by cases hv) hos
  obtain ⟨h4, rv, w', hcall, hK⟩ := h
  obtain ⟨z1, z2, z3⟩ := hKR _ _ _ _ hK
  obtain ⟨g1, g2, g3⟩ := mcall_keeps mmk mrc d _ _ _ _ _ hcall hw o1
  have g11 := g1.1
  have g12 := g1.2.1
  obtain ⟨t1, t2⟩ := m_stkS (ad := ad) hsp
  have hMet := hC a q vs w (rv, w') hmk hcall hw o1 z3 D dA ad H.size
  have hRR : (mrm d (w'.1.1 - w.1.1) (w'.1.2.1 - w.1.2.1)).frames + 1 ≤ R.frames ∧ 8 + (q.2.2.1 + 11) + (mrm d (w'.1.1 - w.1.1) (w'.1.2.1 - w.1.2.1)).locals ≤ R.locals := ⟨hRf, by show 8 + (q.2.2.1 + 11) + 40 * d ≤ R.locals; omega⟩
  have hff : w.1.1 - n0 + (w'.1.1 - w.1.1) ≤ R.cells ∧ w.1.2.1 - s0 + (w'.1.2.1 - w.1.2.1) ≤ R.slots := ⟨by omega, by omega⟩
  subst hkd
  have G : GoodIn gtb (va_wsS (mcl own) i q.1 (Cond.code q.1 q.2.1 q.2.2.1 q.2.2.2.1 :: gtb)) := gtb_good fun y hy => (List.mem_append.mp hy).elim (fun z => hreq y (List.mem_append_left _ z)) (hwq y)
  exact ms_cont C P ⟨hw, o2, hol, hn0, hs0, hmB⟩ IH g1 (va_runS ⟨hx, hb, hml, hown, hts⟩ hMet (va_cwS b hts G rfl rfl rfl ⟨y1, y2, y3⟩ hRR) ⟨mpre_blind, mpre_U C P hw⟩ rfl t2 (hl.1.trans hll) t1 (lv_room (mcat_le h4)) hd hff) hK
set_option maxHeartbeats 8000000 in
theorem ms_invSN {kd a b i d : Nat} {vs rest : List Value} (C : mCtx p s m args c cc own nl D dA ad0 E A) (P : mPt s D dA ad0 E A n0 nl H locs ad w ls arr) (O : mOkP n0 s0 ls st w) (IH : mRest p l e R s m args below meth c Q D dA ad0 E A n0 s0 nl K) (hKR : ∀ pc ls st w', K pc ls st w' → w'.1.1 - n0 ≤ R.cells ∧ w'.1.2.1 - s0 ≤ R.slots ∧ w'.1.1 ≤ mB)
    (hM : mMW) (hC : mCallOK l d) (hRf : d + 1 ≤ R.frames) (hRl : 40 * d + 40 ≤ R.locals) (hq : (own, i, a, b, kd) ∈ mMthT) (hd : decode cc pc = .ok (.invokestatic i, 3)) (hkd : kd = 7) (hsp : mspl b [] st = some (vs, rest))
    (h : msInv (mcall mmk mrc d) a vs rest pc ls w K) :
    W p l e R s m args below meth c H locs (w.1.1 - n0) (w.1.2.1 - s0) Q (F0 m pc arr (st.map (mtr ad))) := by
  obtain ⟨hx, hb, hml, hown, hts, hSE, hA⟩ := id C
  obtain ⟨hS, hP, hD, had, hl, hll, hE⟩ := id P
  obtain ⟨hw, hos, hol, hn0, hs0, hmB⟩ := id O
  have hreq := m_reqs hq
  obtain ⟨⟨q, hmk, hnm⟩, y1, y2, y3, k0, k26, k345, k5⟩ := m_mthc hq (by omega)
  rw [hnm] at hreq y1 y2 y3 k0 k26 k5
  obtain ⟨hcw, hq7, hqn⟩ := hM a q hmk
  have hwq := gtb_cons hcw
  obtain ⟨o1, o2⟩ := mspl_ok b [] st vs rest hsp (fun v hv => by cases hv) hos
  obtain ⟨h4, rv, w', hcall, hK⟩ := h
  obtain ⟨z1, z2, z3⟩ := hKR _ _ _ _ hK
  obtain ⟨g1, g2, g3⟩ := mcall_keeps mmk mrc d _ _ _ _ _ hcall hw o1
  have g11 := g1.1
  have g12 := g1.2.1
  obtain ⟨t1, t2⟩ := m_stkS (ad := ad) hsp
  have hMet := hC a q vs w (rv, w') hmk hcall hw o1 z3 D dA ad H.size
  have hRR : (mrm d (w'.1.1 - w.1.1) (w'.1.2.1 - w.1.2.1)).frames + 1 ≤ R.frames ∧ 8 + (q.2.2.1 + 11) + (mrm d (w'.1.1 - w.1.1) (w'.1.2.1 - w.1.2.1)).locals ≤ R.locals := ⟨hRf, by show 8 + (q.2.2.1 + 11) + 40 * d ≤ R.locals; omega⟩
  have hff : w.1.1 - n0 + (w'.1.1 - w.1.1) ≤ R.cells ∧ w.1.2.1 - s0 + (w'.1.2.1 - w.1.2.1) ≤ R.slots := ⟨by omega, by omega⟩
  subst hkd
  have hg : ∀ y ∈ [Cond.static q.1, .initialized q.1.cls], y.before args s = true := fun y hy => hts y (hreq y hy)
  have hnest := hSE.2.1 _ hq (Or.inr rfl)
  rw [hnm] at hnest
  exact ms_cont C P ⟨hw, o2, hol, hn0, hs0, hmB⟩ IH g1 (va_runSN ⟨hx, hb, hml, hown, hts⟩ hMet ⟨va_cnB b hts (gtb_good hwq) rfl rfl rfl hnest (hg _ (by simp)) ⟨y1, y2, y3⟩ hRR, hg _ (by simp), trivial⟩ ⟨mpre_blind, mpre_U C P hw⟩ rfl t2 (hl.1.trans hll) t1 (lv_room (mcat_le h4)) hd hff) hK
end MC
