theorem fil_take {p : Int32 → Bool} {l : List Int32} {k : Nat} (hk : k < l.length) : (l.take (k + 1)).filter p = if p (l.getD k 0) = true then (l.take k).filter p ++ [l.getD k 0] else (l.take k).filter p := by
  have e : l.take (k + 1) = l.take k ++ [l.getD k 0] := by
    rw [List.take_succ]
    simp [List.getD_eq_getElem?_getD, List.getElem?_eq_getElem hk]
  rw [e, List.filter_append]
  by_cases h : p (l.getD k 0) = true
  · rw [if_pos h, List.filter_cons_of_pos h]; rfl
  · rw [if_neg h, List.filter_cons_of_neg h]; simp
theorem fil_len {p : Int32 → Bool} {l : List Int32} {k : Nat} (hk : k ≤ l.length) : ((l.take k).filter p).length ≤ k := by
  refine Nat.le_trans (List.length_filter_le _ _) ?_
  simp
  omega
def rowL (row : Int32 → Int32) (n : Nat) : List Int32 := (List.range n).map (fun k => row (nI k))
theorem LL_row {row : Int32 → Int32} {n : Nat} : LL (nI n) row (rowL row n) := ⟨by unfold rowL; simp, fun k hk => by
  unfold rowL at *
  simp only [List.length_map, List.length_range] at hk
  simp [List.getD_eq_getElem?_getD, hk]⟩
theorem RR.rowK {s : mSt} {F : mF} {M M1 : mM} (H : RR s F M) (hM : ∀ a i, a ≠ 42 → M1 a i = M a i) : RR (wKn s (rowL (M1 42) (sKn s).length)) F M1 := by
  obtain ⟨k1, k2, k3, k4, k5, k6, l1, l2, l3, l4, e⟩ := H
  exact ⟨fun i hi => by rw [hM _ _ (by omega)]; exact k1 i hi, fun i hi => by rw [hM _ _ (by omega)]; exact k2 i hi, fun i hi => by rw [hM _ _ (by omega)]; exact k3 i hi, fun i hi a b => by rw [hM _ _ (by omega)]; exact k4 i hi a b, fun i j hi a b => by rw [hM _ _ (by omega)]; exact k5 i j hi a b, fun k hk => by rw [hM _ _ (by omega)]; exact k6 k hk, ⟨l1.1, fun q hq => by rw [hM _ _ (by omega)]; exact l1.2 q hq⟩, (by rw [l2.1]; exact LL_row), ⟨l3.1, fun q hq => by rw [hM _ _ (by omega)]; exact l3.2 q hq⟩, ⟨l4.1, fun q hq => by rw [hM _ _ (by omega)]; exact l4.2 q hq⟩, e⟩
set_option maxRecDepth 100000 in
theorem lp_X7_keep1 {d : Nat} {Y : mY} {F : mF} {M : mM} {L : mL} {s : mSt} {Q : Option Value → mW → Prop} (H : RR s F M) (hI : InvW s) (hlen : (sKn s).length ≤ 100) (hQ : ∀ M' l2, (∀ p, p < ((sKn s).filter (hasY s)).length → M' 42 (nI p) = ((sKn s).filter (hasY s)).getD p 0) → (∀ a i, a ≠ 42 → M' a i = M a i) → Wp (d + 2) tX7_keepRemembered 46 [some (.ref 34), some (.int (nI ((sKn s).filter (hasY s)).length)), some l2] [] (mXY Y, F, M', L) Q) :
    ∀ (n q : Nat) (M1 : mM), q + n = (sKn s).length → (∀ p, p < (((sKn s).take q).filter (hasY s)).length → M1 42 (nI p) = (((sKn s).take q).filter (hasY s)).getD p 0) → (∀ p, q ≤ p → p < (sKn s).length → M1 42 (nI p) = (sKn s).getD p 0) → (∀ a i, a ≠ 42 → M1 a i = M a i) → Wp (d + 2) tX7_keepRemembered 4 [some (.ref 34), some (.int (nI (((sKn s).take q).filter (hasY s)).length)), some (.int (nI q))] [] (mXY Y, F, M1, L) Q
  | 0, q, M1, hq, i1, i2, i3 => by
    have hF := H.2.2.2.2.2.2.2.1.1
    refine r_iload_n (p := 5) rfl rfl rfl ?_
    refine r_aload_n (p := 6) rfl rfl rfl ?_
    refine r_getI (p := 9) rfl rfl rfl rfl ?_
    rw [hF]
    refine r_icmp_ge (p := 12) rfl rfl (fun c1 => ?_) (fun c1 => ?_)
    · have hke : (sKn s).take q = sKn s := List.take_of_length_le (by omega)
      rw [hke] at i1 ⊢
      exact hQ M1 _ i1 i3
    · exact absurd (nI_le (a := (sKn s).length) (b := q) (by omega) (by omega)) c1
  | n + 1, q, M1, hq, i1, i2, i3 => by
    have hF := H.2.2.2.2.2.2.2.1.1
    have hql : q < (sKn s).length := by omega
    have e0 := i2 q (Nat.le_refl _) hql
    have ef := fil_take (p := hasY s) hql
    have hj := fil_len (p := hasY s) (l := sKn s) (k := q) (by omega)
    have ho := hI.2.2.2.2.2.2.1.2 ((sKn s).getD q 0) (getD_mem hql)
    refine r_iload_n (p := 5) rfl rfl rfl ?_
    refine r_aload_n (p := 6) rfl rfl rfl ?_
    refine r_getI (p := 9) rfl rfl rfl rfl ?_
    rw [hF]
    refine r_icmp_ge (p := 12) rfl rfl (fun c1 => ?_) (fun c1 => ?_)
    · exact absurd c1 (nI_ge (a := q) (b := (sKn s).length) (by omega) (by omega))
    · refine r_aload_n (p := 13) rfl rfl rfl ?_
      refine r_aload_n (p := 14) rfl rfl rfl ?_
      refine r_getR (p := 17) rfl rfl rfl rfl rfl ?_
      refine r_iload_n (p := 18) rfl rfl rfl ?_
      refine r_iald (p := 19) rfl rfl rfl (vp_in_nI (show q < 100 by omega) (by omega)) rfl ?_
      rw [e0]
      refine r_cV (p := 22) rfl rfl rfl (Nat.le_of_ble_eq_true rfl) rfl (s_X7_hasYoung (s := wKn s (rowL (M1 42) (sKn s).length)) (H.rowK i3) (hI.2.2.1 _ ho.1) ho.1 hI.2.2.2.1 ?_)
      rw [show hasY (wKn s (rowL (M1 42) (sKn s).length)) ((sKn s).getD q 0) = hasY s ((sKn s).getD q 0) from rfl]
      refine r_if_eq (p := 25) rfl rfl (fun c2 => ?_) (fun c2 => ?_)
      · refine r_iinc (v := (nI (q + 1))) (p := 43) rfl rfl (nI_1 _) rfl rfl ?_
        refine r_goto rfl ?_
        have hh : ¬ hasY s ((sKn s).getD q 0) = true := fun w => absurd c2 (by rw [if_pos w]; decide)
        rw [if_neg hh] at ef
        have z := lp_X7_keep1 (d := d) H hI hlen hQ n (q + 1) M1 (by omega) (by rw [ef]; exact i1) (fun p hp hp2 => i2 p (by omega) hp2) i3
        rw [ef] at z
        exact z
      · refine r_aload_n (p := 26) rfl rfl rfl ?_
        refine r_getR (p := 29) rfl rfl rfl rfl rfl ?_
        refine r_iload_n (p := 30) rfl rfl rfl ?_
        refine r_aload_n (p := 31) rfl rfl rfl ?_
        refine r_getR (p := 34) rfl rfl rfl rfl rfl ?_
        refine r_iload_n (p := 35) rfl rfl rfl ?_
        refine r_iald (p := 36) rfl rfl rfl (vp_in_nI (show q < 100 by omega) (by omega)) rfl ?_
        rw [e0]
        refine r_iast (p := 37) rfl rfl rfl (vp_in_nI (show (((sKn s).take q).filter (hasY s)).length < 100 by omega) (by omega)) (by decide) rfl ?_
        refine r_iinc (v := (nI ((((sKn s).take q).filter (hasY s)).length + 1))) (p := 40) rfl rfl (nI_1 _) rfl rfl ?_
        refine r_iinc (v := (nI (q + 1))) (p := 43) rfl rfl (nI_1 _) rfl rfl ?_
        refine r_goto rfl ?_
        have hh : hasY s ((sKn s).getD q 0) = true := Classical.byContradiction fun w => c2 (if_neg w)
        rw [if_pos hh] at ef
        have z := lp_X7_keep1 (d := d) H hI hlen hQ n (q + 1) (uM M1 42 (nI (((sKn s).take q).filter (hasY s)).length) ((sKn s).getD q 0)) (by omega) (by
          rw [ef]
          intro p hp
          simp only [List.length_append, List.length_singleton] at hp
          rw [uM_at]
          by_cases hpj : p = (((sKn s).take q).filter (hasY s)).length
          · rw [if_pos (by rw [hpj]), hpj]; simp
          · rw [if_neg (fun z => hpj (nI_inj (by omega) (by omega) z)), i1 p (by omega)]
            simp [List.getD_eq_getElem?_getD, List.getElem?_append_left (show p < (((sKn s).take q).filter (hasY s)).length by omega)]) (fun p hp hp2 => by
          rw [uM_at, if_neg (fun z => by have := nI_inj (by omega) (by omega) z; omega)]
          exact i2 p (by omega) hp2) (fun a i ha => by rw [uM_ne ha]; exact i3 a i ha)
        rw [ef, List.length_append, List.length_singleton] at z
        exact z
