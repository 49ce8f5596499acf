/-! ===== the small machine's worlds in the heap ===== -/
def mmk (k : Nat) : Option mQ := match mmsB[k / 20]? with
  | some l => l[k % 20]?
  | none => none
def mrc (k : Nat) : Nat := match mmk k with
  | some q => q.2.2.2.2.2.1
  | none => 99
def mnm (k : Nat) : MethodName := match mmk k with
  | some q => q.1
  | none => objectInit
def mcl (c : Nat) : String := mcls.getD c ""
def mtr (ad : Nat → Nat) (v : Value) : Value := match v with
  | .ref h => .ref (ad h)
  | v => v
def mcTy (ci : Nat) : Nat → FieldType := match ci with
  | 0 => tyJ0
  | 1 => tyJ4
  | 2 => tyX0
  | 3 => tyX1
  | 4 => tyX2
  | 5 => tyX3
  | 6 => tyX4
  | 7 => tyX5
  | 8 => tyX6
  | _ => tyX7
def mcN (ci : Nat) : Nat := match ci with
  | 0 => 4
  | 1 => 4
  | 2 => 8
  | 3 => 3
  | 4 => 6
  | 5 => 6
  | 6 => 9
  | 7 => 7
  | 8 => 7
  | _ => 38
def mfv (ad : Nat → Nat) (w : mW) (h k : Nat) (ty : FieldType) : Value := match ty with
  | .long => .long (w.2.2.2 h k)
  | .object _ => va_rf ((w.1.2.2.2.1 h k).map ad)
  | .array _ => va_rf ((w.1.2.2.2.1 h k).map ad)
  | _ => .int (w.2.1 h k)
def mcE (dA : Nat → ClassId) (ad : Nat → Nat) (w : mW) (h : Nat) : va_E := match w.1.2.2.1 h with
  | (0, ci) => .inr (ci, (List.range (mcN ci)).map (fun k => mfv ad w h k (mcTy ci k)))
  | (t + 1, n) => .inl (dA (t + 1), n, .inl (fun j => w.2.2.1 h (nI j)))
def mwl (dA : Nat → ClassId) (ad : Nat → Nat) (w : mW) : va_W := (List.range w.1.1).map (fun h => (ad h, mcE dA ad w h))
theorem mtr_cat {ad : Nat → Nat} {v : Value} : (mtr ad v).category = v.category := by cases v <;> rfl
theorem mtr_rf {ad : Nat → Nat} {x : Option Nat} : mtr ad (va_rf x) = va_rf (x.map ad) := by cases x <;> rfl
theorem mtr_ext {ad ad' : Nat → Nat} {n : Nat} {v : Value} (h : ∀ a, okh n a → ad' a = ad a) (hv : okv n v) : mtr ad' v = mtr ad v := by
  cases v <;> first | rfl | (show Value.ref _ = Value.ref _; rw [h _ hv.of])
theorem mtrS_ext {ad ad' : Nat → Nat} {n : Nat} {st : List Value} (h : ∀ a, okh n a → ad' a = ad a) (hv : okS n st) : st.map (mtr ad') = st.map (mtr ad) := List.map_congr_left fun v hm => mtr_ext h (hv v hm)
theorem mwl_len {dA : Nat → ClassId} {ad : Nat → Nat} {w : mW} : (mwl dA ad w).length = w.1.1 := by simp [mwl]
theorem mwl_get {dA : Nat → ClassId} {ad : Nat → Nat} {w : mW} {h : Nat} (hh : h < w.1.1) : (mwl dA ad w)[h]? = some (ad h, mcE dA ad w h) := by simp [mwl, hh]
theorem mwl_of {dA : Nat → ClassId} {ad : Nat → Nat} {w : mW} {h : Nat} {q : Nat × va_E} (hq : (mwl dA ad w)[h]? = some q) : h < w.1.1 ∧ q = (ad h, mcE dA ad w h) := by
  have hl : h < w.1.1 := by
    have := (List.getElem?_eq_some_iff.mp hq).1
    rw [mwl_len] at this
    exact this
  rw [mwl_get hl] at hq
  exact ⟨hl, (Option.some.inj hq).symm⟩
theorem va_D_conv {A : Nat → Prop} {ws ws' : va_W} (hc : ∀ (k : Nat) (q' : Nat × va_E), ws'[k]? = some q' → ∃ q : Nat × va_E, ws[k]? = some q ∧ q.1 = q'.1) (h : va_D A ws) : va_D A ws' := by
  refine ⟨fun i j x y hi hj e => ?_, fun k q hk => ?_⟩
  · obtain ⟨x0, a1, a2⟩ := hc i x hi
    obtain ⟨y0, b1, b2⟩ := hc j y hj
    exact h.1 i j x0 y0 a1 b1 (by rw [a2, b2, e])
  · obtain ⟨q0, a1, a2⟩ := hc k q hk
    rw [← a2]
    exact h.2 k q0 a1
theorem mP_set {D : va_G} {cl : List vw_C} {dA : Nat → ClassId} {ad : Nat → Nat} {w w' : mW} {p : Nat} {e : va_E} {H1 : Heap} (hn : w'.1.1 = w.1.1) (ho : ∀ h, h < w.1.1 → h ≠ p → mcE dA ad w' h = mcE dA ad w h) (he : va_at D cl (ad p, e) H1 → va_at D cl (ad p, mcE dA ad w' p) H1)
    (h : va_P D cl ((mwl dA ad w).set p (ad p, e)) H1) : va_P D cl (mwl dA ad w') H1 := by
  intro k q hk
  obtain ⟨hl, rfl⟩ := mwl_of hk
  rw [hn] at hl
  by_cases hkp : k = p
  · subst hkp
    exact he (h k _ (List.getElem?_set_self (by rw [mwl_len]; exact hl)))
  · rw [ho k hl hkp]
    exact h k _ (by rw [List.getElem?_set_ne (Ne.symm hkp)]; exact mwl_get hl)
theorem mD_set {A : Nat → Prop} {dA : Nat → ClassId} {ad : Nat → Nat} {w w' : mW} {p : Nat} {e : va_E} (hn : w'.1.1 = w.1.1) (h : va_D A ((mwl dA ad w).set p (ad p, e))) : va_D A (mwl dA ad w') := by
  refine va_D_conv (fun k q hk => ?_) h
  obtain ⟨hl, rfl⟩ := mwl_of hk
  rw [hn] at hl
  by_cases hkp : k = p
  · subst hkp
    exact ⟨_, List.getElem?_set_self (by rw [mwl_len]; exact hl), rfl⟩
  · exact ⟨(ad k, mcE dA ad w k), by rw [List.getElem?_set_ne (Ne.symm hkp)]; exact mwl_get hl, rfl⟩
/-- a new cell: its handle is the number of those made, its address q -/
def mad (ad : Nat → Nat) (n q : Nat) : Nat → Nat := fun h => if h = n then q else ad h
theorem mad_ext {ad : Nat → Nat} {n q : Nat} (hn : n < mB) : ∀ a, okh n a → mad ad n q a = ad a := fun a h => by
  have : a ≠ n := by rcases h with h | h <;> omega
  simp [mad, this]
theorem mad_self {ad : Nat → Nat} {n q : Nat} : mad ad n q n = q := by simp [mad]
theorem mcE_ext {dA : Nat → ClassId} {ad ad' : Nat → Nat} {w w' : mW} {h : Nat} {n : Nat} (hk : w'.1.2.2.1 h = w.1.2.2.1 h) (hr : ∀ k, w'.1.2.2.2.1 h k = w.1.2.2.2.1 h k) (hf : ∀ k, w'.2.1 h k = w.2.1 h k) (hl : ∀ k, w'.2.2.2 h k = w.2.2.2 h k) (hm : ∀ i, w'.2.2.1 h i = w.2.2.1 h i)
    (ha : ∀ a, okh n a → ad' a = ad a) (hw : ∀ k x, w.1.2.2.2.1 h k = some x → okh n x) : mcE dA ad' w' h = mcE dA ad w h := by
  have hv : ∀ k ty, mfv ad' w' h k ty = mfv ad w h k ty := by
    intro k ty
    have e : (w'.1.2.2.2.1 h k).map ad' = (w.1.2.2.2.1 h k).map ad := by
      rw [hr k]
      cases hx : w.1.2.2.2.1 h k with
      | none => rfl
      | some x => exact congrArg some (ha x (hw k x hx))
    unfold mfv
    cases ty <;> simp only [e, hf, hl]
  unfold mcE
  rw [hk]
  split
  · exact congrArg Sum.inr (Prod.ext rfl (List.map_congr_left fun k _ => hv k _))
  · simp only [hm]
theorem mP_push {D : va_G} {cl : List vw_C} {dA : Nat → ClassId} {ad : Nat → Nat} {w w' : mW} {q : Nat} {e : va_E} {H1 : Heap} (hn : w'.1.1 = w.1.1 + 1) (ho : ∀ h, h < w.1.1 → mcE dA (mad ad w.1.1 q) w' h = mcE dA ad w h) (he : va_at D cl (q, e) H1 → va_at D cl (q, mcE dA (mad ad w.1.1 q) w' w.1.1) H1)
    (h : va_P D cl (mwl dA ad w ++ [(q, e)]) H1) : va_P D cl (mwl dA (mad ad w.1.1 q) w') H1 := by
  intro k p hk
  obtain ⟨hl, rfl⟩ := mwl_of hk
  rw [hn] at hl
  by_cases hkn : k = w.1.1
  · subst hkn
    rw [mad_self]
    exact he (h w.1.1 _ (by rw [List.getElem?_append_right (by rw [mwl_len]; exact Nat.le_refl _), mwl_len, Nat.sub_self]; rfl))
  · have hl : k < w.1.1 := by omega
    rw [ho k hl]
    have e1 : mad ad w.1.1 q k = ad k := by simp [mad, hkn]
    rw [e1]
    exact h k _ (by rw [List.getElem?_append_left (by rw [mwl_len]; exact hl)]; exact mwl_get hl)
theorem mD_push {A : Nat → Prop} {dA : Nat → ClassId} {ad : Nat → Nat} {w w' : mW} {q : Nat} {e : va_E} (hn : w'.1.1 = w.1.1 + 1) (h : va_D A (mwl dA ad w ++ [(q, e)])) : va_D A (mwl dA (mad ad w.1.1 q) w') := by
  refine va_D_conv (fun k p hk => ?_) h
  obtain ⟨hl, rfl⟩ := mwl_of hk
  rw [hn] at hl
  by_cases hkn : k = w.1.1
  · subst hkn
    exact ⟨_, by rw [List.getElem?_append_right (by rw [mwl_len]; exact Nat.le_refl _), mwl_len, Nat.sub_self]; rfl, by rw [mad_self]⟩
  · have hl : k < w.1.1 := by omega
    exact ⟨(ad k, mcE dA ad w k), by rw [List.getElem?_append_left (by rw [mwl_len]; exact hl)]; exact mwl_get hl, by simp [mad, hkn]⟩
theorem arrV_ext {cA : ClassId} {n : Nat} {f g : Nat → Value} (h : ∀ j, j < n → f j = g j) : arrV cA n f = arrV cA n g := by
  unfold arrV
  congr 1
  congr 1
  funext j
  exact h j.val j.isLt
theorem va_at_arr {D : va_G} {cl : List vw_C} {a : Nat} {cA : ClassId} {n : Nat} {f g : Nat → Int32} {H : Heap} (h : ∀ j, j < n → f j = g j) (hp : va_at D cl (a, .inl (cA, n, .inl f)) H) : va_at D cl (a, .inl (cA, n, .inl g)) H := by
  have e : vp_cell cA (n, .inl f) = vp_cell cA (n, .inl g) := by
    rw [vp_cell_i, vp_cell_i]
    exact arrV_ext fun j hj => by rw [h j hj]
  show H[a]? = some (vp_cell cA (n, .inl g))
  rw [← e]
  exact hp
/-- what stands outside the world: classes, links of nest mates, texts, static rows, the script -/
def mSE (D : va_G) (dA : Nat → ClassId) (adR : Nat → Nat) (E : mN) (A : Nat → Prop) (U : State) (H : Heap) : Prop :=
  va_K D vwCl [(dA 1, .int), (dA 2, .boolean), (dA 3, .byte)] U ∧
  (∀ q ∈ mMthT, q.2.2.2.2 = 6 ∨ q.2.2.2.2 = 7 → va_Nw (.methodLinkNest (mcl q.1) q.2.1 (mnm q.2.2.1) RX6) U) ∧
  va_Nw (.castable "[B" "java/lang/Cloneable") U ∧
  vk_S 11 mLen mByt (fun i => adR (mB + i)) (fun i => adR (mB + 100 + i)) A U H ∧
  (∀ q ∈ mLdcT, q.2.2.2.2 = 0 → vk_R (mcl q.1) q.2.1 (mTexts.getD q.2.2.1 "") (adR (mB + q.2.2.1)) U) ∧
  va_Z "java/lang/String" "COMPACT_STRINGS" "Z" (.int 1) A U H ∧
  va_Z RX5 "ARGUMENT_COUNTS" "[I" (.ref (adR 1000200)) A U H ∧
  va_Z RJ6 "DigitOnes" "[B" (.ref (adR 1000201)) A U H ∧
  va_Z RJ6 "DigitTens" "[B" (.ref (adR 1000202)) A U H ∧
  va_Z RJ3 "SIOOBE_FORMATTER" "Ljava/util/function/BiFunction;" (mtr adR E.2.2) A U H ∧
  va_T .int (adR 1000200) 6 (fun j => .int (mArg.getD j 0)) A U H ∧
  va_T .byte (adR 1000201) 100 (fun j => .int (mOne j)) A U H ∧
  va_T .byte (adR 1000202) 100 (fun j => .int (mTen j)) A U H ∧
  va_T .int (adR 1000300) E.1 (fun j => .int (E.2.1 j)) A U H
theorem mSE.same {D : va_G} {dA : Nat → ClassId} {adR : Nat → Nat} {E : mN} {A : Nat → Prop} {u U : State} {H : Heap} (hv : u.vm = U.vm) (h : mSE D dA adR E A u H) : mSE D dA adR E A U H := by
  have ha : u.vm.Alike U.vm := by rw [hv]; exact Vm.Alike.refl U.vm
  obtain ⟨h1, h2, h3, h4, h5, h6, h7, h8, h9, h10, h11, h12, h13, h14⟩ := h
  exact ⟨va_K.moved ha h1, fun q hq hc => va_Nw.same rfl hv (h2 q hq hc), va_Nw.same rfl hv h3, vk_S.moved ha h4, fun q hq hc => vk_R.same hv.symm (h5 q hq hc), va_Z.moved ha h6, va_Z.moved ha h7, va_Z.moved ha h8, va_Z.moved ha h9, va_Z.moved ha h10, va_T.moved ha h11, va_T.moved ha h12, va_T.moved ha h13, va_T.moved ha h14⟩
theorem mSE.warm {D : va_G} {dA : Nat → ClassId} {adR : Nat → Nat} {E : mN} {A : Nat → Prop} {s U : State} {H : Heap} (hW : s.WarmedH U.vm) (h : mSE D dA adR E A s H) : mSE D dA adR E A U H := by
  have ha : s.vm.Alike U.vm := hW.alike
  obtain ⟨h1, h2, h3, h4, h5, h6, h7, h8, h9, h10, h11, h12, h13, h14⟩ := h
  exact ⟨va_K.moved ha h1, fun q hq hc => va_Nw.warmM hW (h2 q hq hc), va_Nw.warmC hW h3, vk_S.moved ha h4, fun q hq hc => vk_R.warm hW (h5 q hq hc), va_Z.moved ha h6, va_Z.moved ha h7, va_Z.moved ha h8, va_Z.moved ha h9, va_Z.moved ha h10, va_T.moved ha h11, va_T.moved ha h12, va_T.moved ha h13, va_T.moved ha h14⟩
theorem mSE.kept {D : va_G} {dA : Nat → ClassId} {adR : Nat → Nat} {E : mN} {A : Nat → Prop} {U : State} {H H1 : Heap} (hq : ∀ a : Nat, a < H.size → ¬ A a → H1[a]? = H[a]?) (h : mSE D dA adR E A U H) : mSE D dA adR E A U H1 := by
  obtain ⟨h1, h2, h3, h4, h5, h6, h7, h8, h9, h10, h11, h12, h13, h14⟩ := h
  exact ⟨h1, h2, h3, h4.kept hq, h5, h6.kept hq, h7.kept hq, h8.kept hq, h9.kept hq, h10.kept hq, h11.kept hq, h12.kept hq, h13.kept hq, h14.kept hq⟩
theorem mSE.narrow {D : va_G} {dA : Nat → ClassId} {adR : Nat → Nat} {E : mN} {A B : Nat → Prop} {U : State} {H : Heap} (hAB : ∀ q, B q → A q) (h : mSE D dA adR E A U H) : mSE D dA adR E B U H := by
  obtain ⟨h1, h2, h3, h4, h5, h6, h7, h8, h9, h10, h11, h12, h13, h14⟩ := h
  exact ⟨h1, h2, h3, h4.narrow hAB, h5, h6.narrow hAB, h7.narrow hAB, h8.narrow hAB, h9.narrow hAB, h10.narrow hAB, h11.narrow hAB, h12.narrow hAB, h13.narrow hAB, h14.narrow hAB⟩
/-- the locals -/
def mprs (ad : Nat → Nat) : Nat → mLs → List (Nat × Value)
  | _, [] => []
  | i, some v :: l => (i, mtr ad v) :: mprs ad (i + 1) l
  | i, none :: l => mprs ad (i + 1) l
def mlv (ad : Nat → Nat) (ls : mLs) (arr : Array Slot) : Prop := arr.size = ls.length ∧ lv_wf arr ∧ ∀ i v, mget ls i = some v → arr[i]? = some (.val (mtr ad v))
theorem mprs_mem {ad : Nat → Nat} : ∀ (ls : mLs) (i : Nat) (q : Nat × Value), q ∈ mprs ad i ls ↔ ∃ j v, mget ls j = some v ∧ q = (i + j, mtr ad v)
  | [], i, q => by simp [mprs, mget]
  | none :: l, i, q => by
    rw [mprs, mprs_mem l (i + 1) q]
    constructor
    · rintro ⟨j, v, h1, rfl⟩
      exact ⟨j + 1, v, h1, by rw [show i + 1 + j = i + (j + 1) by omega]⟩
    · rintro ⟨j, v, h1, rfl⟩
      cases j with
      | zero => cases h1
      | succ j => exact ⟨j, v, h1, by rw [show i + 1 + j = i + (j + 1) by omega]⟩
  | some u :: l, i, q => by
    rw [mprs, List.mem_cons, mprs_mem l (i + 1) q]
    constructor
    · rintro (rfl | ⟨j, v, h1, rfl⟩)
      · exact ⟨0, u, rfl, rfl⟩
      · exact ⟨j + 1, v, h1, by rw [show i + 1 + j = i + (j + 1) by omega]⟩
    · rintro ⟨j, v, h1, rfl⟩
      cases j with
      | zero => cases h1; exact Or.inl rfl
      | succ j => exact Or.inr ⟨j, v, h1, by rw [show i + 1 + j = i + (j + 1) by omega]⟩
theorem mlv.has {ad : Nat → Nat} {ls : mLs} {arr : Array Slot} (h : mlv ad ls arr) : lv_has arr ls.length (mprs ad 0 ls) := ⟨h.1, h.2.1, fun q hq => by
  obtain ⟨j, v, h1, rfl⟩ := (mprs_mem ls 0 q).mp hq
  simpa using h.2.2 j v h1⟩
theorem mlv.set {ad : Nat → Nat} {ls ls' : mLs} {arr' : Array Slot} {i : Nat} {v : Value} (e : mset ls i v = some ls') (h : lv_has arr' ls.length ((i, mtr ad v) :: (mprs ad 0 ls).filter (fun q => !(q.1 == i) && !(q.1 + 1 == i && q.2.category == 2)))) : mlv ad ls' arr' := by
  obtain ⟨e1, e2, e3⟩ := mset_get e
  refine ⟨by rw [h.1, e1], h.2.1, fun j u hj => ?_⟩
  rcases e3 j u hj with ⟨rfl, rfl⟩ | ⟨a1, a2, a3⟩
  · exact h.2.2 _ List.mem_cons_self
  · refine h.2.2 (j, mtr ad u) (List.mem_cons_of_mem _ (List.mem_filter.mpr ⟨(mprs_mem ls 0 _).mpr ⟨j, u, a2, by simp⟩, ?_⟩))
    simp only [mtr_cat]
    simp only [Bool.and_eq_true, Bool.not_eq_true', beq_eq_false_iff_ne, ne_eq, Bool.and_eq_false_imp, beq_iff_eq]
    exact ⟨a1, fun hc hd => a3 ⟨hc, hd⟩⟩
theorem mlv.set2 {ad : Nat → Nat} {ls ls' : mLs} {arr' : Array Slot} {i : Nat} {v : Value} (e : mset2 ls i v = some ls') (h : lv_has arr' ls.length ((i, mtr ad v) :: (mprs ad 0 ls).filter (fun q => !(q.1 == i) && (!(q.1 == i + 1) && !(q.1 + 1 == i && q.2.category == 2))))) : mlv ad ls' arr' := by
  obtain ⟨e1, e2, e3⟩ := mset2_get e
  refine ⟨by rw [h.1, e1], h.2.1, fun j u hj => ?_⟩
  rcases e3 j u hj with ⟨rfl, rfl⟩ | ⟨a1, a4, a2, a3⟩
  · exact h.2.2 _ List.mem_cons_self
  · refine h.2.2 (j, mtr ad u) (List.mem_cons_of_mem _ (List.mem_filter.mpr ⟨(mprs_mem ls 0 _).mpr ⟨j, u, a2, by simp⟩, ?_⟩))
    simp only [mtr_cat]
    simp only [Bool.and_eq_true, Bool.not_eq_true', beq_eq_false_iff_ne, ne_eq, Bool.and_eq_false_imp, beq_iff_eq]
    exact ⟨a1, a4, fun hc hd => a3 ⟨hc, hd⟩⟩
theorem mlv.ext {ad ad' : Nat → Nat} {n : Nat} {ls : mLs} {arr : Array Slot} (ha : ∀ a, okh n a → ad' a = ad a) (hl : okL n ls) (h : mlv ad ls arr) : mlv ad' ls arr := ⟨h.1, h.2.1, fun i v hv => by rw [mtr_ext ha (hl i v hv)]; exact h.2.2 i v hv⟩
