theorem mro3 {E : mN} {h : Nat} (hk : (mroK E h).1 = 3) : (mroK E h).2 ≤ 100 := by
  unfold mroK at *
  cases h1 : Nat.blt h 1000011 with
  | true => rw [h1] at hk; simp at hk
  | false =>
    rw [h1] at hk
    cases h2 : Nat.blt h 1000100 with
    | true => rw [h2] at hk; simp at hk
    | false =>
      rw [h2] at hk
      cases h3 : Nat.blt h 1000111 with
      | true =>
        have a1 := nblt_f h2
        have a2 := nblt_t h3
        obtain ⟨j, rfl⟩ : ∃ j : Nat, h = 1000100 + j := ⟨h - 1000100, (Nat.add_sub_cancel' a1).symm⟩
        have hj : j < 11 := Nat.lt_of_add_lt_add_left (show 1000100 + j < 1000100 + 11 from a2)
        have hm : ∀ j, j < 11 → mLen.getD j 0 ≤ 100 := by decide
        simp only [cond_true, cond_false, Nat.add_sub_cancel_left]
        exact hm j hj
      | false =>
        rw [h3] at hk
        cases h4 : Nat.beq h 1000200 with
        | true => simp
        | false =>
          rw [h4] at hk
          cases h5 : Nat.beq h 1000201 with
          | true => simp
          | false =>
            rw [h5] at hk
            cases h6 : Nat.beq h 1000202 with
            | true => simp
            | false =>
              rw [h6] at hk
              cases h7 : Nat.beq h 1000300 with
              | true => rw [h7] at hk; simp at hk
              | false => rw [h7] at hk; simp at hk
section MN
variable {p : Program} {l : Launch} {e : Env} {R : Room} {s : State} {m : MethodId} {args : Array Value} {below : List Frame} {meth : Method} {c : Code} {Q : State → Prop}
variable {cc : ByteArray} {own nl : Nat} {D : va_G} {dA : Nat → ClassId} {ad0 : Nat → Nat} {E : mN} {A : Nat → Prop} {n0 s0 : Nat}
variable {H : Heap} {locs : List Loc} {ad : Nat → Nat} {w : mW} {ls : mLs} {arr : Array Slot} {st : List Value} {pc : Nat} {K : Nat → mLs → List Value → mW → Prop}
theorem mPt.cpy {H1 : Heap} {locs1 : List Loc} {hs hd n1 : Nat} {sp dp n : Int32} {f : Nat → Int32} (P : mPt s D dA ad0 E A n0 nl H locs ad w ls arr) (hw : okW w) (hk : w.1.2.2.1 hd = (3, n1)) (hn : n1 ≤ 65536) (hdp : ¬ dp < 0)
    (hf : ∀ j : Nat, j < n.toNatClampNeg → f (sp.toNatClampNeg + j) = mgM w.1 w.2.2.1 hs (nI (sp.toNatClampNeg + j)))
    (p1 : va_P D vwCl ((mwl dA ad w).set hd (ad hd, .inl (dA 3, n1, .inl (va_cpy f (fun j => w.2.2.1 hd (nI j)) sp.toNatClampNeg dp.toNatClampNeg n.toNatClampNeg)))) H1) (p2 : va_D A ((mwl dA ad w).set hd (ad hd, .inl (dA 3, n1, .inl (va_cpy f (fun j => w.2.2.1 hd (nI j)) sp.toNatClampNeg dp.toNatClampNeg n.toNatClampNeg))))) (p3 : va_S A s.heap H1 locs1) :
    mPt s D dA ad0 E A n0 nl H1 locs1 ad (w.1, w.2.1, mcpy w.1 w.2.2.1 hs hd sp dp n, w.2.2.2) ls arr := by
  refine P.set rfl rfl (fun h' hh hne => mcE_o hw rfl (fun _ => rfl) (fun _ => rfl) (fun _ => rfl) (fun j => by simp [mcpy, nbeq_ne hne])) (fun z => ?_) p1 p2 p3
  rw [mcE_arr (w := (w.1, w.2.1, mcpy w.1 w.2.2.1 hs hd sp dp n, w.2.2.2)) (t := 3) (n := n1) hk (Or.inr (Or.inr rfl))]
  refine va_at_arr (fun j hj => ?_) z
  have hj2 : j < 2 ^ 31 := by omega
  show va_cpy _ _ _ _ _ j = mcpy w.1 w.2.2.1 hs hd sp dp n hd (nI j)
  unfold va_cpy mcpy
  rw [nbeq_self, nI_clamp hj2]
  simp only [cond_true]
  by_cases hc : dp.toNatClampNeg ≤ j ∧ j < dp.toNatClampNeg + n.toNatClampNeg
  · rw [if_pos hc, if_pos ⟨nI_pos hj2, hc.1, hc.2⟩]
    exact hf _ (by omega)
  · rw [if_neg hc, if_neg (fun z => hc z.2)]
set_option maxHeartbeats 4000000 in
theorem ms_copy {i a b : Nat} {n dp sp : Int32} {hd hs : Nat} {r : List Value} (C : mCtx p s m args c cc own nl D dA ad0 E A) (P : mPt s D dA ad0 E A n0 nl H locs ad w ls arr) (hw : okW w) (ho : okv w.1.1 (.ref hd)) (ho2 : okv w.1.1 (.ref hs)) (IH : mRest p l e R s m args below meth c Q D dA ad0 E A n0 s0 nl K)
    (hRf : 1 ≤ R.frames) (hRl : 40 ≤ R.locals) (hq : (own, i, a, b, 8) ∈ mMthT) (hdc : decode cc pc = .ok (.invokestatic i, 3))
    (h4 : r.length ≤ 4) (hB : Nat.blt hd mB = true) (hn : (mkd w.1 hd).2 ≤ 65536) (hk1 : (mkd w.1 hd).1 = 3) (hk2 : (mkd w.1 hs).1 = 3) (a1 : ¬ sp < 0) (a2 : ¬ dp < 0) (a3 : ¬ n < 0) (a4 : sp.toNatClampNeg + n.toNatClampNeg ≤ (mkd w.1 hs).2) (a5 : dp.toNatClampNeg + n.toNatClampNeg ≤ (mkd w.1 hd).2)
    (hfit : ∀ i : Nat, i < n.toNatClampNeg → fits .byte (.int (mgM w.1 w.2.2.1 hs (nI (sp.toNatClampNeg + i)))) = true) (hK : K (pc + 3) ls r (w.1, w.2.1, mcpy w.1 w.2.2.1 hs hd sp dp n, w.2.2.2)) :
    W p l e R s m args below meth c H locs (w.1.1 - n0) (w.1.2.1 - s0) Q (F0 m pc arr (.int n :: .int dp :: .ref (ad hd) :: .int sp :: .ref (ad hs) :: r.map (mtr ad))) := by
  obtain ⟨hx, hb, hml, hown, hts, hSE, hA⟩ := C
  obtain ⟨hS, hP, hD, had, hl, hll, hE⟩ := id P
  have hreq : ∀ x ∈ [Cond.methodLink (mcl own) i arraycopyName, .native arraycopyName, .static arraycopyName, .initialized "java/lang/System"], x.before args s = true := fun x hxm => hts x (m_reqs hq x hxm)
  have hml2 : c.maxLocals = arr.size := hml.trans (hl.1.trans hll).symm
  have hloc : ((r.map (mtr ad)).map fun v => v.category).sum + (nativeFrameWords "java/lang/System" "arraycopy" 5 + 11) ≤ R.locals := by
    have z1 := mcat_le (ad := ad) h4
    have z2 : nativeFrameWords "java/lang/System" "arraycopy" 5 ≤ 21 := by decide +kernel
    omega
  have hkd : mkd w.1 hd = w.1.2.2.1 hd := by unfold mkd; rw [hB]; rfl
  rw [hkd] at hn hk1 a5
  have hkk : w.1.2.2.1 hd = (3, (w.1.2.2.1 hd).2) := by rw [← hk1]
  have hg := mwl_get (dA := dA) (ad := ad) (w := w) (m_hn (hB := hB) ho)
  rw [mcE_arr hkk (Or.inr (Or.inr rfl))] at hg
  cases hBs : Nat.blt hs mB with
  | true =>
    have hkd2 : mkd w.1 hs = w.1.2.2.1 hs := by unfold mkd; rw [hBs]; rfl
    rw [hkd2] at hk2 a4
    have hkk2 : w.1.2.2.1 hs = (3, (w.1.2.2.1 hs).2) := by rw [← hk2]
    have hg2 := mwl_get (dA := dA) (ad := ad) (w := w) (m_hn (hB := hBs) ho2)
    rw [mcE_arr hkk2 (Or.inr (Or.inr rfl))] at hg2
    have hgm : ∀ k, mgM w.1 w.2.2.1 hs k = w.2.2.1 hs k := fun k => by unfold mgM; rw [hBs]; rfl
    exact va_copyi hx hb hml2 hown (hreq _ (by simp)) (hreq _ (by simp)) (hreq _ (by simp)) (hreq _ (by simp)) hSE.1 hP hD hS hs hd 2 2 hg2 hg rfl rfl rfl a1 a2 a3 a4 a5 (fun i hi => by rw [← hgm]; exact hfit i hi) hRf hloc hdc fun H1 locs1 p1 p2 p3 => by
      have z := IH _ _ _ _ arr H1 locs1 ad hK (P.cpy hw hkk hn a2 (fun j hj => (hgm _).symm) p1 p2 p3)
      exact z
  | false =>
    have hkd2 : mkd w.1 hs = mroK E hs := by unfold mkd; rw [hBs, hE]; rfl
    rw [hkd2] at hk2 a4
    obtain ⟨f, -, hT, hf⟩ := mro_t hSE (nblt_f hBs) (Or.inr (Or.inr hk2))
    rw [hk2] at hT
    have hgm : ∀ k, mgM w.1 w.2.2.1 hs k = f k.toNatClampNeg := fun k => by unfold mgM; rw [hBs, hE]; exact hf k
    rw [had hs (Or.inr (nblt_f hBs))]
    have h100 := mro3 (E := E) (h := hs) hk2
    have hfj : ∀ j, j < n.toNatClampNeg → f (sp.toNatClampNeg + j) = mgM w.1 w.2.2.1 hs (nI (sp.toNatClampNeg + j)) := fun j hj => by rw [hgm, nI_clamp (by omega)]
    exact vk_copyt hx hb hml2 hown (hreq _ (by simp)) (hreq _ (by simp)) (hreq _ (by simp)) (hreq _ (by simp)) hSE.1 hP hD hS hT hd 2 hg rfl a1 a2 a3 a4 a5 (fun i hi => by rw [hfj i hi]; exact hfit i hi) hRf hloc hdc fun H1 locs1 p1 p2 p3 => by
      have z := IH _ _ _ _ arr H1 locs1 ad hK (P.cpy hw hkk hn a2 hfj p1 p2 p3)
      exact z
set_option maxHeartbeats 4000000 in
theorem ms_clone {i a b h : Nat} {r : List Value} (C : mCtx p s m args c cc own nl D dA ad0 E A) (P : mPt s D dA ad0 E A n0 nl H locs ad w ls arr) (hw : okW w) (hol : okL w.1.1 ls) (hr : okS w.1.1 r) (hn0 : n0 ≤ w.1.1) (hs0 : s0 ≤ w.1.2.1) (ho : okv w.1.1 (.ref h)) (IH : mRest p l e R s m args below meth c Q D dA ad0 E A n0 s0 nl K)
    (hRf : 1 ≤ R.frames) (hRl : 40 ≤ R.locals) (hq : (own, i, a, b, 10) ∈ mMthT) (hdc : decode cc pc = .ok (.invokevirtual i, 3)) (h4 : r.length ≤ 4) (hBh : Nat.blt h mB = true) (hk : (w.1.2.2.1 h).1 = 3) (hfit : ∀ i : Nat, i < (w.1.2.2.1 h).2 → fits .byte (.int (w.2.2.1 h (nI i))) = true)
    (hRc : w.1.1 + 1 - n0 ≤ R.cells) (hRs : w.1.2.1 + (w.1.2.2.1 h).2 - s0 ≤ R.slots) (hB : w.1.1 < mB)
    (hK : K (pc + 3) ls (.ref w.1.1 :: r) (pX w.1 (w.1.2.2.1 h) (w.1.2.2.1 h).2, zF w.2.1 w.1.1, sM w.2.2.1 w.1.1 (w.2.2.1 h), zL w.2.2.2 w.1.1)) :
    W p l e R s m args below meth c H locs (w.1.1 - n0) (w.1.2.1 - s0) Q (F0 m pc arr (.ref (ad h) :: r.map (mtr ad))) := by
  obtain ⟨hx, hb, hml, hown, hts, hSE, hA⟩ := C
  obtain ⟨hS, hP, hD, had, hl, hll, hE⟩ := id P
  have hreq : ∀ x ∈ [Cond.methodLink (mcl own) i mclnX, .sameMethod "[B" "java/lang/Object" "clone" "()Ljava/lang/Object;", .native mclnO, .instanceMethod mclnO, .selects "[B" mclnX mclnO], x.before args s = true := fun x hxm => hts x (m_reqs hq x hxm)
  have hml2 : c.maxLocals = arr.size := hml.trans (hl.1.trans hll).symm
  have hloc : ((r.map (mtr ad)).map fun v => v.category).sum + 14 ≤ R.locals := by
    have z1 := mcat_le (ad := ad) h4
    omega
  have hkk : w.1.2.2.1 h = (3, (w.1.2.2.1 h).2) := by rw [← hk]
  have hg := mwl_get (dA := dA) (ad := ad) (w := w) (m_hn (hB := hBh) ho)
  rw [mcE_arr hkk (Or.inr (Or.inr rfl))] at hg
  have hRA := (hSE.1.2 2 _ rfl).2
  have hnm : s.vm.findClass "[B" = some (dA 3) := hRA
  refine va_clone hx hb hml2 (ad := "[B") hown (hreq _ (by simp [mclnX])) (hreq _ (by simp)) (hreq _ (by simp [mclnO])) (hreq _ (by simp [mclnO])) (hreq _ (by simp [mclnO, mclnX])) hSE.2.2.1 hSE.1 hP hD hS hA h 2 hg rfl hnm (fun k v hv => ?_) hRf hloc (by omega) (by show _ + (w.1.2.2.1 h).2 ≤ _; omega) hdc (fun q H1 _ p1 p2 p3 => ?_)
  · rw [vp_cell_i] at hv
    have hk2 : k < (w.1.2.2.1 h).2 := by
      have := (Array.getElem?_eq_some_iff.mp hv).1
      rw [arrV_size] at this
      exact this
    rw [arrV_read _ _ hk2] at hv
    cases hv
    exact hfit k hk2
  have P' := P.push (w' := (pX w.1 (w.1.2.2.1 h) (w.1.2.2.1 h).2, zF w.2.1 w.1.1, sM w.2.2.1 w.1.1 (w.2.2.1 h), zL w.2.2.2 w.1.1)) rfl hB hn0 hol rfl (mcE_push hw hB (fun h k hne => zF_ne hne) (fun h i hne => sM_ne hne) (fun h k hne => zL_ne hne)) (fun z => by
    rw [mcE_arr (t := 3) (n := (w.1.2.2.1 h).2) (show cond (Nat.beq w.1.1 w.1.1) _ _ = _ by rw [nbeq_self]; exact hkk) (Or.inr (Or.inr rfl))]
    exact va_at_arr (fun j hj => (sM_at (F := w.2.2.1) (h := w.1.1) (f := w.2.2.1 h) (j := nI j)).symm) z) p1 p2 p3
  have := IH _ _ _ _ _ _ _ _ hK P'
  have e1' : w.1.1 + 1 - n0 = w.1.1 - n0 + 1 := by omega
  have e2' : w.1.2.1 + (w.1.2.2.1 h).2 - s0 = w.1.2.1 - s0 + (w.1.2.2.1 h).2 := by omega
  have e3 : (Value.ref w.1.1 :: r).map (mtr (mad ad w.1.1 q)) = .ref q :: r.map (mtr ad) := by
    rw [List.map_cons, mtrS_ext (mad_ext hB) hr]
    show Value.ref (mad ad w.1.1 q w.1.1) :: _ = _
    rw [mad_self]
  rw [e3] at this
  have this : W p l e R s m args below meth c H1 locs (w.1.1 + 1 - n0) (w.1.2.1 + (w.1.2.2.1 h).2 - s0) Q (F0 m (pc + 3) arr (.ref q :: r.map (mtr ad))) := this
  rw [e1', e2'] at this
  exact this
end MN
