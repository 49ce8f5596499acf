def mTy (t : Nat) : FieldType := match t with
  | 1 => .int
  | 2 => .boolean
  | _ => .byte
theorem mro_t {D : va_G} {dA : Nat → ClassId} {ad0 : Nat → Nat} {E : mN} {A : Nat → Prop} {U : State} {H : Heap} (hSE : mSE D dA ad0 E A U H) {h : Nat} (hB : mB ≤ h) (hk : (mroK E h).1 = 1 ∨ (mroK E h).1 = 2 ∨ (mroK E h).1 = 3) :
    ∃ f : Nat → Int32, (mroK E h).1 ≠ 2 ∧ va_T (mTy (mroK E h).1) (ad0 h) (mroK E h).2 (fun j => .int (f j)) A U H ∧ ∀ i : Int32, mroM E h i = f i.toNatClampNeg := by
  obtain ⟨-, -, -, hs, -, -, -, -, -, -, t1, t2, t3, t4⟩ := hSE
  unfold mroK mroM at *
  cases h1 : Nat.blt h 1000011 with
  | true => rw [h1] at hk; simp at hk
  | false =>
    rw [h1] at hk
    cases h2 : Nat.blt h 1000100 with
    | true => rw [h2] at hk; simp at hk
    | false =>
      rw [h2] at hk
      cases h3 : Nat.blt h 1000111 with
      | true =>
        have a1 := nblt_f h2
        have a2 := nblt_t h3
        obtain ⟨j, rfl⟩ : ∃ j : Nat, h = 1000100 + j := ⟨h - 1000100, (Nat.add_sub_cancel' a1).symm⟩
        have hj : j < 11 := Nat.lt_of_add_lt_add_left (show 1000100 + j < 1000100 + 11 from a2)
        refine ⟨fun k => (mByt.getD j []).getD k 0, by simp, ?_, fun i => ?_⟩
        · have e := (hs.1 j hj).2.2.2
          simp only [cond_true, cond_false, Nat.add_sub_cancel_left]
          exact e
        · simp
      | false =>
        rw [h3] at hk
        cases h4 : Nat.beq h 1000200 with
        | true =>
          cases Nat.eq_of_beq_eq_true h4
          exact ⟨fun k => mArg.getD k 0, by simp, t1, fun i => rfl⟩
        | false =>
          rw [h4] at hk
          cases h5 : Nat.beq h 1000201 with
          | true =>
            cases Nat.eq_of_beq_eq_true h5
            exact ⟨mOne, by simp, t2, fun i => rfl⟩
          | false =>
            rw [h5] at hk
            cases h6 : Nat.beq h 1000202 with
            | true =>
              cases Nat.eq_of_beq_eq_true h6
              exact ⟨mTen, by simp, t3, fun i => rfl⟩
            | false =>
              rw [h6] at hk
              cases h7 : Nat.beq h 1000300 with
              | true =>
                cases Nat.eq_of_beq_eq_true h7
                exact ⟨E.2.1, by simp, t4, fun i => rfl⟩
              | false => rw [h7] at hk; simp at hk
section MA
variable {p : Program} {l : Launch} {e : Env} {R : Room} {s : State} {m : MethodId} {args : Array Value} {below : List Frame} {meth : Method} {c : Code} {Q : State → Prop}
variable {cc : ByteArray} {own nl : Nat} {D : va_G} {dA : Nat → ClassId} {ad0 : Nat → Nat} {E : mN} {A : Nat → Prop} {n0 s0 : Nat}
variable {H : Heap} {locs : List Loc} {ad : Nat → Nat} {w : mW} {ls : mLs} {arr : Array Slot} {st : List Value} {pc : Nat} {K : Nat → mLs → List Value → mW → Prop}
theorem m_hn {h n : Nat} {hB : Nat.blt h mB = true} (ho : okv n (.ref h)) : h < n := by
  rcases ho.of with z | z
  · exact z
  · have := nblt_t hB; omega
theorem mtys_at (dA : Nat → ClassId) {t : Nat} (ht : t = 1 ∨ t = 2 ∨ t = 3) : ([(dA 1, FieldType.int), (dA 2, .boolean), (dA 3, .byte)] : List (ClassId × FieldType))[t - 1]? = some (dA t, mTy t) := by
  rcases ht with rfl | rfl | rfl <;> rfl
set_option maxHeartbeats 4000000 in
theorem ms_iald {i : Int32} {h : Nat} {r : List Value} (C : mCtx p s m args c cc own nl D dA ad0 E A) (P : mPt s D dA ad0 E A n0 nl H locs ad w ls arr) (ho : okv w.1.1 (.ref h)) (IH : mRest p l e R s m args below meth c Q D dA ad0 E A n0 s0 nl K)
    (hd : decode cc pc = .ok (.iaload, 1)) (hk : (mkd w.1 h).1 = 1) (hin : vp_in i (mkd w.1 h).2) (hK : K (pc + 1) ls (.int (mgM w.1 w.2.2.1 h i) :: r) w) :
    W p l e R s m args below meth c H locs (w.1.1 - n0) (w.1.2.1 - s0) Q (F0 m pc arr (.int i :: .ref (ad h) :: r.map (mtr ad))) := by
  obtain ⟨hx, hb, hml, hown, hts, hSE, hA⟩ := C
  obtain ⟨hS, hP, hD, had, hl, hll, hE⟩ := id P
  have hnn := vp_in_nn hin
  unfold mkd at hk hin
  unfold mgM at hK
  cases hB : Nat.blt h mB with
  | true =>
    rw [hB] at hk hin hK
    have hk : (w.1.2.2.1 h).1 = 1 := hk
    have hn := m_hn (hB := hB) ho
    have hg := mwl_get (dA := dA) (ad := ad) (w := w) hn
    rw [mcE_arr (t := (w.1.2.2.1 h).1) (n := (w.1.2.2.1 h).2) rfl (Or.inl hk), hk] at hg
    refine va_iald hx hb hSE.1 hP h 0 hg rfl hin hd ?_
    have := IH _ _ _ _ _ _ _ _ hK P
    simp only [nI_clampI hnn.1]
    exact this
  | false =>
    rw [hB] at hk hin hK
    rw [hE] at hk hin hK
    obtain ⟨f, -, hT, hf⟩ := mro_t hSE (nblt_f hB) (Or.inl hk)
    have hk : (mroK E h).1 = 1 := hk
    rw [hk] at hT
    rw [had h (Or.inr (nblt_f hB))]
    have hK : K (pc + 1) ls (.int (mroM E h i) :: r) w := hK
    rw [hf] at hK
    exact va_ti hx hb hT hS hin rfl hd (IH _ _ _ _ _ _ _ _ hK P)
set_option maxHeartbeats 4000000 in
theorem ms_bald {i : Int32} {h : Nat} {r : List Value} (C : mCtx p s m args c cc own nl D dA ad0 E A) (P : mPt s D dA ad0 E A n0 nl H locs ad w ls arr) (ho : okv w.1.1 (.ref h)) (IH : mRest p l e R s m args below meth c Q D dA ad0 E A n0 s0 nl K)
    (hd : decode cc pc = .ok (.baload, 1)) (hk : (mkd w.1 h).1 = 3 ∨ ((mkd w.1 h).1 = 2 ∧ Nat.blt h mB = true)) (hin : vp_in i (mkd w.1 h).2) (hK : K (pc + 1) ls (.int (mgM w.1 w.2.2.1 h i) :: r) w) :
    W p l e R s m args below meth c H locs (w.1.1 - n0) (w.1.2.1 - s0) Q (F0 m pc arr (.int i :: .ref (ad h) :: r.map (mtr ad))) := by
  obtain ⟨hx, hb, hml, hown, hts, hSE, hA⟩ := C
  obtain ⟨hS, hP, hD, had, hl, hll, hE⟩ := id P
  have hnn := vp_in_nn hin
  unfold mkd at hk hin
  unfold mgM at hK
  cases hB : Nat.blt h mB with
  | true =>
    rw [hB] at hk hin hK
    have hn := m_hn (hB := hB) ho
    have hg := mwl_get (dA := dA) (ad := ad) (w := w) hn
    have hK2 := IH _ _ _ _ _ _ _ _ hK P
    rcases hk with hk | ⟨hk, -⟩
    · have hk : (w.1.2.2.1 h).1 = 3 := hk
      rw [mcE_arr (t := (w.1.2.2.1 h).1) (n := (w.1.2.2.1 h).2) rfl (Or.inr (Or.inr hk)), hk] at hg
      refine va_bald hx hb hSE.1 hP h 2 hg rfl hin hd ?_
      simp only [nI_clampI hnn.1]
      exact hK2
    · have hk : (w.1.2.2.1 h).1 = 2 := hk
      rw [mcE_arr (t := (w.1.2.2.1 h).1) (n := (w.1.2.2.1 h).2) rfl (Or.inr (Or.inl hk)), hk] at hg
      refine va_zald hx hb hSE.1 hP h 1 hg rfl hin hd ?_
      simp only [nI_clampI hnn.1]
      exact hK2
  | false =>
    rw [hB] at hk hin hK
    rw [hE] at hk hin hK
    have hk : (mroK E h).1 = 3 := by
      rcases hk with hk | hk
      · exact hk
      · cases hk.2
    obtain ⟨f, -, hT, hf⟩ := mro_t hSE (nblt_f hB) (Or.inr (Or.inr hk))
    rw [hk] at hT
    rw [had h (Or.inr (nblt_f hB))]
    have hK : K (pc + 1) ls (.int (mroM E h i) :: r) w := hK
    rw [hf] at hK
    exact va_tb hx hb hT hS hin rfl hd (IH _ _ _ _ _ _ _ _ hK P)
set_option maxHeartbeats 4000000 in
theorem ms_alen {h : Nat} {r : List Value} (C : mCtx p s m args c cc own nl D dA ad0 E A) (P : mPt s D dA ad0 E A n0 nl H locs ad w ls arr) (ho : okv w.1.1 (.ref h)) (IH : mRest p l e R s m args below meth c Q D dA ad0 E A n0 s0 nl K)
    (hd : decode cc pc = .ok (.arraylength, 1)) (hk : (mkd w.1 h).1 = 1 ∨ (mkd w.1 h).1 = 2 ∧ Nat.blt h mB = true ∨ (mkd w.1 h).1 = 3) (hK : K (pc + 1) ls (.int (nI (mkd w.1 h).2) :: r) w) :
    W p l e R s m args below meth c H locs (w.1.1 - n0) (w.1.2.1 - s0) Q (F0 m pc arr (.ref (ad h) :: r.map (mtr ad))) := by
  obtain ⟨hx, hb, hml, hown, hts, hSE, hA⟩ := C
  obtain ⟨hS, hP, hD, had, hl, hll, hE⟩ := id P
  have hk : (mkd w.1 h).1 = 1 ∨ (mkd w.1 h).1 = 2 ∨ (mkd w.1 h).1 = 3 := by
    rcases hk with a | a | a
    · exact Or.inl a
    · exact Or.inr (Or.inl a.1)
    · exact Or.inr (Or.inr a)
  unfold mkd at hk hK
  cases hB : Nat.blt h mB with
  | true =>
    rw [hB] at hk hK
    have hn := m_hn (hB := hB) ho
    have hg := mwl_get (dA := dA) (ad := ad) (w := w) hn
    rw [mcE_arr (t := (w.1.2.2.1 h).1) (n := (w.1.2.2.1 h).2) rfl hk] at hg
    exact va_alen hx hb hSE.1 hP h _ hg (mtys_at dA hk) rfl hd (IH _ _ _ _ _ _ _ _ hK P)
  | false =>
    rw [hB] at hk hK
    rw [hE] at hk hK
    obtain ⟨f, -, hT, hf⟩ := mro_t hSE (nblt_f hB) hk
    rw [had h (Or.inr (nblt_f hB))]
    exact va_tlen hx hb hT hS rfl hd (IH _ _ _ _ _ _ _ _ hK P)
theorem mPt.wM {H1 : Heap} {locs1 : List Loc} {h t n : Nat} {i x : Int32} (P : mPt s D dA ad0 E A n0 nl H locs ad w ls arr) (hw : okW w) (hk : w.1.2.2.1 h = (t, n)) (ht : t = 1 ∨ t = 2 ∨ t = 3) (hin : vp_in i n) (hn : n ≤ 65536)
    (p1 : va_P D vwCl ((mwl dA ad w).set h (ad h, .inl (dA t, n, .inl (upd (fun j => w.2.2.1 h (nI j)) i.toNatClampNeg x)))) H1) (p2 : va_D A ((mwl dA ad w).set h (ad h, .inl (dA t, n, .inl (upd (fun j => w.2.2.1 h (nI j)) i.toNatClampNeg x))))) (p3 : va_S A s.heap H1 locs1) :
    mPt s D dA ad0 E A n0 nl H1 locs1 ad (w.1, w.2.1, uM w.2.2.1 h i x, w.2.2.2) ls arr := by
  refine P.set rfl rfl (fun h' hh hne => mcE_o hw rfl (fun _ => rfl) (fun _ => rfl) (fun _ => rfl) (fun j => uM_ne hne)) (fun z => ?_) p1 p2 p3
  rw [mcE_arr (w := (w.1, w.2.1, uM w.2.2.1 h i x, w.2.2.2)) (t := t) (n := n) hk ht]
  have hnn := vp_in_nn hin
  refine va_at_arr (fun j hj => ?_) z
  have hj2 : j < 2 ^ 31 := by omega
  show upd _ _ _ j = uM w.2.2.1 h i x h (nI j)
  rw [uM_at]
  unfold upd
  by_cases hji : j = i.toNatClampNeg
  · rw [if_pos hji, if_pos (by rw [hji, nI_clampI hnn.1])]
  · rw [if_neg hji, if_neg (fun z => hji (by rw [← z, nI_clamp hj2]))]
set_option maxHeartbeats 4000000 in
theorem ms_iast {i x : Int32} {h : Nat} {r : List Value} (C : mCtx p s m args c cc own nl D dA ad0 E A) (P : mPt s D dA ad0 E A n0 nl H locs ad w ls arr) (hw : okW w) (ho : okv w.1.1 (.ref h)) (IH : mRest p l e R s m args below meth c Q D dA ad0 E A n0 s0 nl K)
    (hd : decode cc pc = .ok (.iastore, 1)) (hB : Nat.blt h mB = true) (hk : (w.1.2.2.1 h).1 = 1) (hn : (w.1.2.2.1 h).2 ≤ 65536) (hin : vp_in i (w.1.2.2.1 h).2) (hK : K (pc + 1) ls r (w.1, w.2.1, uM w.2.2.1 h i x, w.2.2.2)) :
    W p l e R s m args below meth c H locs (w.1.1 - n0) (w.1.2.1 - s0) Q (F0 m pc arr (.int x :: .int i :: .ref (ad h) :: r.map (mtr ad))) := by
  obtain ⟨hx, hb, hml, hown, hts, hSE, hA⟩ := C
  obtain ⟨hS, hP, hD, had, hl, hll, hE⟩ := id P
  have hkk : w.1.2.2.1 h = (1, (w.1.2.2.1 h).2) := by rw [← hk]
  have hg := mwl_get (dA := dA) (ad := ad) (w := w) (m_hn (hB := hB) ho)
  rw [mcE_arr hkk (Or.inl rfl)] at hg
  exact va_iast hx hb hSE.1 hP hD hS h 0 hg rfl hin hd fun H1 locs1 p1 p2 p3 => by
      have z := IH _ _ _ _ arr H1 locs1 ad hK (P.wM hw hkk (Or.inl rfl) hin hn p1 p2 p3)
      exact z
set_option maxHeartbeats 4000000 in
theorem ms_bast {i x : Int32} {h : Nat} {r : List Value} (C : mCtx p s m args c cc own nl D dA ad0 E A) (P : mPt s D dA ad0 E A n0 nl H locs ad w ls arr) (hw : okW w) (ho : okv w.1.1 (.ref h)) (IH : mRest p l e R s m args below meth c Q D dA ad0 E A n0 s0 nl K)
    (hd : decode cc pc = .ok (.bastore, 1)) (hB : Nat.blt h mB = true) (hk : (w.1.2.2.1 h).1 = 2 ∨ (w.1.2.2.1 h).1 = 3) (hn : (w.1.2.2.1 h).2 ≤ 65536) (hin : vp_in i (w.1.2.2.1 h).2) (hK : K (pc + 1) ls r (w.1, w.2.1, uM w.2.2.1 h i (mnar (w.1.2.2.1 h).1 x), w.2.2.2)) :
    W p l e R s m args below meth c H locs (w.1.1 - n0) (w.1.2.1 - s0) Q (F0 m pc arr (.int x :: .int i :: .ref (ad h) :: r.map (mtr ad))) := by
  obtain ⟨hx, hb, hml, hown, hts, hSE, hA⟩ := C
  obtain ⟨hS, hP, hD, had, hl, hll, hE⟩ := id P
  have hg := mwl_get (dA := dA) (ad := ad) (w := w) (m_hn (hB := hB) ho)
  rcases hk with hk | hk
  · have hkk : w.1.2.2.1 h = (2, (w.1.2.2.1 h).2) := by rw [← hk]
    rw [mcE_arr hkk (Or.inr (Or.inl rfl))] at hg
    rw [hk] at hK
    exact va_zast hx hb hSE.1 hP hD hS h 1 hg rfl hin hd fun H1 locs1 p1 p2 p3 => by
      have z := IH _ _ _ _ arr H1 locs1 ad hK (P.wM hw hkk (Or.inr (Or.inl rfl)) hin hn p1 p2 p3)
      exact z
  · have hkk : w.1.2.2.1 h = (3, (w.1.2.2.1 h).2) := by rw [← hk]
    rw [mcE_arr hkk (Or.inr (Or.inr rfl))] at hg
    rw [hk] at hK
    exact va_bast hx hb hSE.1 hP hD hS h 2 hg rfl hin hd fun H1 locs1 p1 p2 p3 => by
      have z := IH _ _ _ _ arr H1 locs1 ad hK (P.wM hw hkk (Or.inr (Or.inr rfl)) hin hn p1 p2 p3)
      exact z
theorem mFA {U : State} {cA cB : ClassId} {ty : FieldType} (h1 : va_RA U cA ty) (h2 : U.vm.findClass ("[" ++ ty.toString) = some cB) (hp : ty = .int ∨ ty = .boolean ∨ ty = .byte) : cA = cB := by
  rcases hp with rfl | rfl | rfl <;> exact Option.some.inj (Eq.trans (Eq.symm h1) h2)
/-- a new cell's world: the old cells stay -/
theorem mcE_push {q : Nat} {kd : Nat × Nat} {sl : Nat} {F : mF} {M : mM} {L : mL} (hw : okW w) (hb : w.1.1 < mB) (hF : ∀ h k, h ≠ w.1.1 → F h k = w.2.1 h k) (hM : ∀ h i, h ≠ w.1.1 → M h i = w.2.2.1 h i) (hL : ∀ h k, h ≠ w.1.1 → L h k = w.2.2.2 h k) :
    ∀ h, h < w.1.1 → mcE dA (mad ad w.1.1 q) (pX w.1 kd sl, F, M, L) h = mcE dA ad w h := fun h hh => by
  have hne : h ≠ w.1.1 := Nat.ne_of_lt hh
  refine mcE_ext (n := w.1.1) ?_ (fun k => ?_) (fun k => hF h k hne) (fun k => hL h k hne) (fun i => hM h i hne) (mad_ext hb) (fun k x e => hw.1 h k x hh e)
  · show cond (Nat.beq h w.1.1) _ _ = _
    rw [nbeq_ne hne]; rfl
  · show cond (Nat.beq h w.1.1) _ _ = _
    rw [nbeq_ne hne]; rfl
theorem zF_ne {F : mF} {h h' k : Nat} (hh : h' ≠ h) : zF F h h' k = F h' k := by simp [zF, nbeq_ne hh]
theorem zL_ne {F : mL} {h h' k : Nat} (hh : h' ≠ h) : zL F h h' k = F h' k := by simp [zL, nbeq_ne hh]
set_option maxHeartbeats 4000000 in
theorem ms_newa {n : Int32} {t : ArrayType} {a : Nat} {r : List Value} (C : mCtx p s m args c cc own nl D dA ad0 E A) (P : mPt s D dA ad0 E A n0 nl H locs ad w ls arr) (hw : okW w) (hol : okL w.1.1 ls) (hr : okS w.1.1 r) (hn0 : n0 ≤ w.1.1) (hs0 : s0 ≤ w.1.2.1) (IH : mRest p l e R s m args below meth c Q D dA ad0 E A n0 s0 nl K)
    (hd : decode cc pc = .ok (.newarray t, 2)) (ht : (t = .int ∧ a = 1) ∨ (t = .boolean ∧ a = 2) ∨ (t = .byte ∧ a = 3)) (hn : ¬ n < 0) (hn2 : n.toNatClampNeg ≤ 65536) (hRc : w.1.1 + 1 - n0 ≤ R.cells) (hRs : w.1.2.1 + n.toNatClampNeg - s0 ≤ R.slots) (hB : w.1.1 < mB)
    (hK : K (pc + 2) ls (.ref w.1.1 :: r) (pX w.1 (a, n.toNatClampNeg) n.toNatClampNeg, zF w.2.1 w.1.1, sM w.2.2.1 w.1.1 (fun _ => 0), zL w.2.2.2 w.1.1)) :
    W p l e R s m args below meth c H locs (w.1.1 - n0) (w.1.2.1 - s0) Q (F0 m pc arr (.int n :: r.map (mtr ad))) := by
  obtain ⟨hx, hb, hml, hown, hts, hSE, hA⟩ := C
  obtain ⟨hS, hP, hD, had, hl, hll, hE⟩ := id P
  have ha : a = 1 ∨ a = 2 ∨ a = 3 := by rcases ht with h | h | h <;> simp [h.2]
  have hty : newarray.typeOf t = mTy a := by rcases ht with ⟨rfl, rfl⟩ | ⟨rfl, rfl⟩ | ⟨rfl, rfl⟩ <;> rfl
  have hty3 : mTy a = .int ∨ mTy a = .boolean ∨ mTy a = .byte := by rcases ha with rfl | rfl | rfl <;> simp [mTy]
  have harr : (Cond.arrayClass (newarray.typeOf t)).before args s = true := by
    rw [hty]
    rcases ha with rfl | rfl | rfl
    · exact hts _ (mOth_w _ (by simp [mTy]))
    · exact hts _ (mOth_w _ (by simp [mTy]))
    · exact hts _ (mOth_w _ (by simp [mTy]))
  have hdef : defaultValue (mTy a) = .int 0 := by rcases ha with rfl | rfl | rfl <;> rfl
  have hby : n.toNatClampNeg * componentBytes (mTy a) ≤ 536870912 := by
    have : componentBytes (mTy a) ≤ 8 := by rcases ha with rfl | rfl | rfl <;> decide
    exact Nat.le_trans (Nat.mul_le_mul hn2 this) (by decide)
  refine va_newaK hx hb harr rfl hd rfl hn rfl (by rw [hty]; exact hby) (by omega) (by omega) rfl fun H1 cA e1 z1 o1 hAr hNm => ?_
  rw [hty] at e1 hNm
  have hcA : dA a = cA := mFA ((hSE.1.2 (a - 1) _ (mtys_at dA ha)).2) hNm hty3
  subst hcA
  have hk : ∀ (k : Nat) (x : Nat × va_E), (mwl dA ad w)[k]? = some x → H1[x.1]? = H[x.1]? := fun k x hx => o1 x.1 ((hP k x hx).lt)
  have p1 : va_P D vwCl (mwl dA ad w ++ [(H.size, .inl (dA a, n.toNatClampNeg, .inl (fun _ => 0)))]) H1 := (hP.kept hk).app (fun k x hx => by
    have hz : k < 1 := (List.getElem?_eq_some_iff.mp hx).1
    rw [show k = 0 by omega] at hx
    cases hx
    show H1[H.size]? = some (vp_cell _ _)
    rw [vp_cell_i, ← hdef]
    exact e1)
  have p2 : va_D A (mwl dA ad w ++ [(H.size, .inl (dA a, n.toNatClampNeg, .inl (fun _ => 0)))]) := hD.push hP rfl (hA _ hS.1)
  have p3 : va_S A s.heap H1 locs := ⟨Nat.le_trans hS.1 (by omega), fun x h1 h2 => (o1 x (Nat.lt_of_lt_of_le h1 hS.1)).trans (hS.2.1 x h1 h2), hS.2.2⟩
  have P' := P.push (w' := (pX w.1 (a, n.toNatClampNeg) n.toNatClampNeg, zF w.2.1 w.1.1, sM w.2.2.1 w.1.1 (fun _ => 0), zL w.2.2.2 w.1.1)) rfl hB hn0 hol rfl (mcE_push hw hB (fun h k hne => zF_ne hne) (fun h i hne => sM_ne hne) (fun h k hne => zL_ne hne)) (fun z => by
    rw [mcE_arr (t := a) (n := n.toNatClampNeg) (show cond (Nat.beq w.1.1 w.1.1) _ _ = _ by rw [nbeq_self]; rfl) ha]
    exact va_at_arr (fun j hj => (sM_at (F := w.2.2.1) (h := w.1.1) (f := fun _ => 0) (j := nI j)).symm) z) p1 p2 p3
  have := IH _ _ _ _ _ _ _ _ hK P'
  have e1' : w.1.1 + 1 - n0 = w.1.1 - n0 + 1 := by omega
  have e2' : w.1.2.1 + n.toNatClampNeg - s0 = w.1.2.1 - s0 + n.toNatClampNeg := by omega
  have e3 : (Value.ref w.1.1 :: r).map (mtr (mad ad w.1.1 H.size)) = .ref H.size :: r.map (mtr ad) := by
    rw [List.map_cons, mtrS_ext (mad_ext hB) hr]
    show Value.ref (mad ad w.1.1 H.size w.1.1) :: _ = _
    rw [mad_self]
  rw [e3] at this
  have this : W p l e R s m args below meth c H1 locs (w.1.1 + 1 - n0) (w.1.2.1 + n.toNatClampNeg - s0) Q (F0 m (pc + 2) arr (.ref H.size :: r.map (mtr ad))) := this
  rw [e1', e2'] at this
  exact this
set_option maxHeartbeats 4000000 in
theorem ms_new {i a b : Nat} (C : mCtx p s m args c cc own nl D dA ad0 E A) (P : mPt s D dA ad0 E A n0 nl H locs ad w ls arr) (hw : okW w) (hol : okL w.1.1 ls) (hr : okS w.1.1 st) (hn0 : n0 ≤ w.1.1) (hs0 : s0 ≤ w.1.2.1) (IH : mRest p l e R s m args below meth c Q D dA ad0 E A n0 s0 nl K)
    (hd : decode cc pc = .ok (.new i, 3)) (hq : (own, i, a, b, 0) ∈ mNewT) (hRc : w.1.1 + 1 - n0 ≤ R.cells) (hRs : w.1.2.1 + b - s0 ≤ R.slots) (hB : w.1.1 < mB)
    (hK : K (pc + 3) ls (.ref w.1.1 :: st) (pX w.1 (0, a) b, zF w.2.1 w.1.1, w.2.2.1, zL w.2.2.2 w.1.1)) :
    W p l e R s m args below meth c H locs (w.1.1 - n0) (w.1.2.1 - s0) Q (F0 m pc arr (st.map (mtr ad))) := by
  obtain ⟨hx, hb, hml, hown, hts, hSE, hA⟩ := C
  obtain ⟨hS, hP, hD, had, hl, hll, hE⟩ := id P
  have h1 := List.all_eq_true.mp mNew_c _ hq
  simp only [mNewC, Bool.and_eq_true] at h1
  have ha : a < 10 := nblt_t h1.1
  have hbN : b = mcN a := Nat.eq_of_beq_eq_true h1.2
  subst hbN
  have hwd : ∀ x ∈ mNewW (own, i, a, mcN a, 0), x.before args s = true := fun x hxm => hts x (mNew_w x (List.mem_flatMap.mpr ⟨_, hq, hxm⟩))
  refine va_new (fs := (List.range (mcN a)).map (fun k => defaultValue (mcTy a k))) hx hb hts (mc_in a ha) (mcTy a) (mc_ty a ha) hown (hwd _ (by simp [mNewW])) (hwd _ (by simp [mNewW])) (hwd _ (by simp [mNewW])) hSE.1 hP hD hS hA (mc_at a ha) (fun j hj => ?_) (by omega) (by omega) hd (fun q H1 p1 p2 p3 => ?_)
  · simp [vp_V, hj]
  have hd0 : ∀ k, k < mcN a → mfv (mad ad w.1.1 q) (pX w.1 (0, a) (mcN a), zF w.2.1 w.1.1, w.2.2.1, zL w.2.2.2 w.1.1) w.1.1 k (mcTy a k) = defaultValue (mcTy a k) := by
    have key : ∀ k ty, mtc ty ≠ 98 → mfv (mad ad w.1.1 q) (pX w.1 (0, a) (mcN a), zF w.2.1 w.1.1, w.2.2.1, zL w.2.2.2 w.1.1) w.1.1 k ty = defaultValue ty := by
      intro k ty hne
      cases ty <;> first
        | (exact absurd rfl hne)
        | (show Value.int (zF w.2.1 w.1.1 w.1.1 k) = _; simp [zF]; rfl)
        | (show Value.long (zL w.2.2.2 w.1.1 w.1.1 k) = _; simp [zL]; rfl)
        | (show va_rf ((cond (Nat.beq w.1.1 w.1.1) none _ : Option Nat).map _) = _; rw [nbeq_self]; rfl)
    have all : ∀ a, a < 10 → ∀ k, k < mcN a → mtc (mcTy a k) ≠ 98 := by decide +kernel
    exact fun k hk => key k _ (all a ha k hk)
  have P' := P.push (w' := (pX w.1 (0, a) (mcN a), zF w.2.1 w.1.1, w.2.2.1, zL w.2.2.2 w.1.1)) rfl hB hn0 hol rfl (mcE_push hw hB (fun h k hne => zF_ne hne) (fun h i hne => rfl) (fun h k hne => zL_ne hne)) (fun z => by
    rw [mcE_obj (ci := a) (show cond (Nat.beq w.1.1 w.1.1) _ _ = _ by rw [nbeq_self]; rfl)]
    have e9 : (List.range (mcN a)).map (fun k => mfv (mad ad w.1.1 q) (pX w.1 (0, a) (mcN a), zF w.2.1 w.1.1, w.2.2.1, zL w.2.2.2 w.1.1) w.1.1 k (mcTy a k)) = (List.range (mcN a)).map (fun k => defaultValue (mcTy a k)) := List.map_congr_left fun k hk => hd0 k (List.mem_range.mp hk)
    rw [e9]
    exact z) p1 p2 p3
  have := IH _ _ _ _ _ _ _ _ hK P'
  have e1' : w.1.1 + 1 - n0 = w.1.1 - n0 + 1 := by omega
  have e2' : w.1.2.1 + mcN a - s0 = w.1.2.1 - s0 + mcN a := by omega
  have e3 : (Value.ref w.1.1 :: st).map (mtr (mad ad w.1.1 q)) = .ref q :: st.map (mtr ad) := by
    rw [List.map_cons, mtrS_ext (mad_ext hB) hr]
    show Value.ref (mad ad w.1.1 q w.1.1) :: _ = _
    rw [mad_self]
  rw [e3] at this
  have this : W p l e R s m args below meth c H1 locs (w.1.1 + 1 - n0) (w.1.2.1 + mcN a - s0) Q (F0 m (pc + 3) arr (.ref q :: st.map (mtr ad))) := this
  rw [e1', e2'] at this
  exact this
end MA
