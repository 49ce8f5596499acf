theorem RR.new {s : mSt} {F : mF} {M : mM} {v : Int32} (H : RR s F M) (hI : Inv s) (ha : ¬ (100 : Int32) ≤ sAl s) : RR (newS s v) (uF (uF F 34 3 (sAl s + 1)) 34 11 (F 34 11 + 1)) (uM (uM (uM (uM (uM (uM (uM (uM (uM M 35 (sAl s) 1) 36 (sAl s) 0) 37 (sAl s) v) 39 (sAl s) 0) 38 (4 * sAl s + 0) (-1)) 38 (4 * sAl s + 1) (-1)) 38 (4 * sAl s + 2) (-1)) 38 (4 * sAl s + 3) (-1)) 41 (F 34 11) (sAl s)) := by
  obtain ⟨n, hn, hal, hin, hg⟩ := al_new hI ha
  have hnl : (sNu s).length < 100 := len99 hI.2.2.2.2.2.1.1 (fun x hx => ((hI.2.2.2.2.2.1.2 x).mp hx).1) hin (fun z => absurd (hg.symm.trans ((hI.2.2.2.2.2.1.2 _).mp z).2) (by decide))
  obtain ⟨c1, c2, c3, c4, c5, c6, l1, l2, l3, l4, e1, e2, e3⟩ := H
  refine ⟨fun i hi => ?_, fun i hi => ?_, fun i hi => ?_, fun i hi hq hp => ?_, fun i j hi h0 h1 => ?_, c6, l1.app (by omega) (sAl s), l2, l3, l4, e1, rfl, e3⟩
  · show (if i = sAl s then 1 else M 35 i) = if i = sAl s then 1 else sG s i
    rw [c1 i hi]
  · show (if i = sAl s then 0 else M 36 i) = if i = sAl s then 0 else sA s i
    rw [c2 i hi]
  · show (if i = sAl s then v else M 37 i) = if i = sAl s then v else sN s i
    rw [c3 i hi]
  · have hq : (if i = sAl s then 1 else sG s i) = 2 := hq
    split at hq
    · exact absurd hq (by decide)
    · rename_i hne
      show (if i = sAl s then 0 else M 39 i) = sC s i
      rw [if_neg hne]
      exact c4 i hi hq hp
  · have e := c5 i j hi h0 h1
    show (if 4 * i + j = 4 * sAl s + 3 then (-1) else if 4 * i + j = 4 * sAl s + 2 then (-1) else if 4 * i + j = 4 * sAl s + 1 then (-1) else if 4 * i + j = 4 * sAl s + 0 then (-1) else M 38 (4 * i + j)) = (if 4 * i + j = 4 * sAl s + 3 then (-1) else if 4 * i + j = 4 * sAl s + 2 then (-1) else if 4 * i + j = 4 * sAl s + 1 then (-1) else if 4 * i + j = 4 * sAl s + 0 then (-1) else sR s (4 * i + j))
    rw [e]
theorem vp4 {k : Int32} (h0 : ¬ k < 0) (h1 : ¬ 3 < k) : vp_in k 4 := vpi (v := 4) (by decide) rfl h0 (fun q => h1 (Int32.lt_of_lt_of_le (by decide) q))
set_option maxRecDepth 100000 in
theorem s_X7_allocate {d : Nat} {Y : mY} {F : mF} {M : mM} {L : mL} {s : mSt} {v : Int32} {Q : Option Value → mW → Prop} (H : RR s F M) (hI : Inv s) (hQ : ∀ F' M', RR (aloc s v).2 F' M' → frR F M F' M' → Q (some (.int (aloc s v).1)) (mXY Y, F', eM F M' (aloc s v).1, L)) : Cw (d + 2) 11 [.ref 34, .int v] (mXY Y, F, M, L) Q := by
  have hal := H.alw
  have hnc := H.2.2.2.2.2.2.2.2.2.2.1.1
  refine Cw_in rfl rfl ?_
  refine r_iload_n (p := 1) rfl rfl rfl ?_
  refine r_iconst (v := 0) (p := 2) rfl rfl rfl ?_
  refine r_iconst (v := 4) (p := 3) rfl rfl rfl ?_
  refine r_cS1 (p := 6) rfl rfl (Nat.le_of_ble_eq_true rfl) rfl (s_X7_in ?_)
  rw [in_eq]
  refine r_if_ne (p := 9) rfl rfl (fun c1 => ?_) (fun c1 => ?_)
  · have ho : ¬ (v < 0 ∨ 4 < v) := fun q => c1 (if_neg fun w => q.elim w.1 w.2)
    refine r_aload_n (p := 17) rfl rfl rfl ?_
    refine r_getI (p := 20) rfl rfl rfl rfl ?_
    rw [hnc]
    refine r_aload_n (p := 21) rfl rfl rfl ?_
    refine r_iconst (v := 1) (p := 22) rfl rfl rfl ?_
    refine r_cV (p := 25) rfl rfl rfl (Nat.le_of_ble_eq_true rfl) rfl (s_X7_words H hI.1 (by decide) ?_)
    refine r_isub (p := 26) rfl rfl ?_
    refine r_iconst (v := 1) (p := 27) rfl rfl rfl ?_
    refine r_iload_n (p := 28) rfl rfl rfl ?_
    refine r_iadd (p := 29) rfl rfl ?_
    refine r_icmp_lt (p := 32) rfl rfl (fun c2 => ?_) (fun c2 => ?_)
    · refine r_aload_n (p := 42) rfl rfl rfl ?_
      refine r_bipush (v := (-4)) (p := 44) rfl rfl rfl ?_
      refine r_cV (p := 47) rfl rfl rfl (Nat.le_of_ble_eq_true rfl) rfl (s_X7_fail vpf4 ?_)
      rw [f_fail]
      have e : aloc s v = (-4, s) := by
        unfold aloc
        rw [if_neg ho, if_pos ?_]
        exact Or.inl c2
      rw [e] at hQ
      have z := hQ _ _ H frR.rf
      rw [eM_4] at z
      refine r_ireturn rfl trivial ?_
      exact z
    · refine r_aload_n (p := 33) rfl rfl rfl ?_
      refine r_getI (p := 36) rfl rfl rfl rfl ?_
      rw [hal]
      refine r_bipush (v := 100) (p := 38) rfl rfl rfl ?_
      refine r_icmp_ne (p := 41) rfl rfl (fun c3 => ?_) (fun c3 => ?_)
      · refine r_aload_n (p := 49) rfl rfl rfl ?_
        refine r_getI (p := 52) rfl rfl rfl rfl ?_
        rw [hal]
        have ha : ¬ (100 : Int32) ≤ sAl s := by
          obtain ⟨n, n1, n2, n3⟩ := hI.1
          intro q
          have : n = 100 := Classical.byContradiction fun w => absurd q (by rw [n2]; exact nI_ge (a := n) (b := 100) (by omega) (by omega))
          exact c3 (by rw [n2, this]; rfl)
        obtain ⟨n, hn, hn2, hin, hg⟩ := al_new hI ha
        have hnl : (sNu s).length < 100 := len99 hI.2.2.2.2.2.1.1 (fun x hx => ((hI.2.2.2.2.2.1.2 x).mp hx).1) hin (fun z => absurd (hg.symm.trans ((hI.2.2.2.2.2.1.2 _).mp z).2) (by decide))
        have e : aloc s v = (sAl s, newS s v) := by
          unfold aloc
          rw [if_neg ho, if_neg (fun z => z.elim c2 ha)]
        rw [e] at hQ
        refine r_istore_n (p := 53) rfl rfl rfl ?_
        refine r_aload_n (p := 54) rfl rfl rfl ?_
        refine r_dup (p := 55) rfl rfl rfl ?_
        refine r_getI (p := 58) rfl rfl rfl rfl ?_
        rw [hal]
        refine r_iconst (v := 1) (p := 59) rfl rfl rfl ?_
        refine r_iadd (p := 60) rfl rfl ?_
        refine r_putI (p := 63) rfl rfl rfl rfl ?_
        refine r_aload_n (p := 64) rfl rfl rfl ?_
        refine r_getR (p := 67) rfl rfl rfl rfl rfl ?_
        refine r_iload_n (p := 68) rfl rfl rfl ?_
        refine r_iconst (v := 1) (p := 69) rfl rfl rfl ?_
        refine r_iast (p := 70) rfl rfl rfl (vp100 hin) (by decide) rfl ?_
        refine r_aload_n (p := 71) rfl rfl rfl ?_
        refine r_getR (p := 74) rfl rfl rfl rfl rfl ?_
        refine r_iload_n (p := 75) rfl rfl rfl ?_
        refine r_iconst (v := 0) (p := 76) rfl rfl rfl ?_
        refine r_iast (p := 77) rfl rfl rfl (vp100 hin) (by decide) rfl ?_
        refine r_aload_n (p := 78) rfl rfl rfl ?_
        refine r_getR (p := 81) rfl rfl rfl rfl rfl ?_
        refine r_iload_n (p := 82) rfl rfl rfl ?_
        refine r_iload_n (p := 83) rfl rfl rfl ?_
        refine r_iast (p := 84) rfl rfl rfl (vp100 hin) (by decide) rfl ?_
        refine r_aload_n (p := 85) rfl rfl rfl ?_
        refine r_getR (p := 88) rfl rfl rfl rfl rfl ?_
        refine r_iload_n (p := 89) rfl rfl rfl ?_
        refine r_iconst (v := 0) (p := 90) rfl rfl rfl ?_
        refine r_iast (p := 91) rfl rfl rfl (vp100 hin) (by decide) rfl ?_
        refine r_iconst (v := 0) (p := 92) rfl rfl rfl ?_
        refine r_istore_n (p := 93) rfl rfl rfl ?_
        refine r_iload_n (p := 94) rfl rfl rfl ?_
        refine r_iconst (v := 4) (p := 95) rfl rfl rfl ?_
        refine r_icmp_ge (p := 98) rfl rfl (fun c => absurd c (by decide)) (fun _ => ?_)
        refine r_aload_n (p := 99) rfl rfl rfl ?_
        refine r_getR (p := 102) rfl rfl rfl rfl rfl ?_
        refine r_iconst (v := 4) (p := 103) rfl rfl rfl ?_
        refine r_iload_n (p := 104) rfl rfl rfl ?_
        refine r_imul (p := 105) rfl rfl ?_
        refine r_iload_n (p := 106) rfl rfl rfl ?_
        refine r_iadd (p := 107) rfl rfl ?_
        refine r_iconst (v := (-1)) (p := 108) rfl rfl rfl ?_
        refine r_iast (p := 109) rfl rfl rfl (vp400 hin (by decide) (by decide)) (by decide) rfl ?_
        refine r_iinc (v := 1) (p := 112) rfl rfl rfl rfl rfl ?_
        refine r_goto rfl ?_
        refine r_iload_n (p := 94) rfl rfl rfl ?_
        refine r_iconst (v := 4) (p := 95) rfl rfl rfl ?_
        refine r_icmp_ge (p := 98) rfl rfl (fun c => absurd c (by decide)) (fun _ => ?_)
        refine r_aload_n (p := 99) rfl rfl rfl ?_
        refine r_getR (p := 102) rfl rfl rfl rfl rfl ?_
        refine r_iconst (v := 4) (p := 103) rfl rfl rfl ?_
        refine r_iload_n (p := 104) rfl rfl rfl ?_
        refine r_imul (p := 105) rfl rfl ?_
        refine r_iload_n (p := 106) rfl rfl rfl ?_
        refine r_iadd (p := 107) rfl rfl ?_
        refine r_iconst (v := (-1)) (p := 108) rfl rfl rfl ?_
        refine r_iast (p := 109) rfl rfl rfl (vp400 hin (by decide) (by decide)) (by decide) rfl ?_
        refine r_iinc (v := 2) (p := 112) rfl rfl rfl rfl rfl ?_
        refine r_goto rfl ?_
        refine r_iload_n (p := 94) rfl rfl rfl ?_
        refine r_iconst (v := 4) (p := 95) rfl rfl rfl ?_
        refine r_icmp_ge (p := 98) rfl rfl (fun c => absurd c (by decide)) (fun _ => ?_)
        refine r_aload_n (p := 99) rfl rfl rfl ?_
        refine r_getR (p := 102) rfl rfl rfl rfl rfl ?_
        refine r_iconst (v := 4) (p := 103) rfl rfl rfl ?_
        refine r_iload_n (p := 104) rfl rfl rfl ?_
        refine r_imul (p := 105) rfl rfl ?_
        refine r_iload_n (p := 106) rfl rfl rfl ?_
        refine r_iadd (p := 107) rfl rfl ?_
        refine r_iconst (v := (-1)) (p := 108) rfl rfl rfl ?_
        refine r_iast (p := 109) rfl rfl rfl (vp400 hin (by decide) (by decide)) (by decide) rfl ?_
        refine r_iinc (v := 3) (p := 112) rfl rfl rfl rfl rfl ?_
        refine r_goto rfl ?_
        refine r_iload_n (p := 94) rfl rfl rfl ?_
        refine r_iconst (v := 4) (p := 95) rfl rfl rfl ?_
        refine r_icmp_ge (p := 98) rfl rfl (fun c => absurd c (by decide)) (fun _ => ?_)
        refine r_aload_n (p := 99) rfl rfl rfl ?_
        refine r_getR (p := 102) rfl rfl rfl rfl rfl ?_
        refine r_iconst (v := 4) (p := 103) rfl rfl rfl ?_
        refine r_iload_n (p := 104) rfl rfl rfl ?_
        refine r_imul (p := 105) rfl rfl ?_
        refine r_iload_n (p := 106) rfl rfl rfl ?_
        refine r_iadd (p := 107) rfl rfl ?_
        refine r_iconst (v := (-1)) (p := 108) rfl rfl rfl ?_
        refine r_iast (p := 109) rfl rfl rfl (vp400 hin (by decide) (by decide)) (by decide) rfl ?_
        refine r_iinc (v := 4) (p := 112) rfl rfl rfl rfl rfl ?_
        refine r_goto rfl ?_
        refine r_iload_n (p := 94) rfl rfl rfl ?_
        refine r_iconst (v := 4) (p := 95) rfl rfl rfl ?_
        refine r_icmp_ge (p := 98) rfl rfl (fun _ => ?_) (fun c => absurd c (by decide))
        refine r_aload_n (p := 116) rfl rfl rfl ?_
        refine r_getR (p := 119) rfl rfl rfl rfl rfl ?_
        refine r_aload_n (p := 120) rfl rfl rfl ?_
        refine r_getI (p := 123) rfl rfl rfl rfl ?_
        refine r_iload_n (p := 124) rfl rfl rfl ?_
        refine r_iast (p := 125) rfl rfl rfl (by show vp_in (F 34 11) 100; rw [H.2.2.2.2.2.2.1.1]; exact vp_in_nI hnl (by omega)) (by decide) rfl ?_
        refine r_aload_n (p := 126) rfl rfl rfl ?_
        refine r_dup (p := 127) rfl rfl rfl ?_
        refine r_getI (p := 130) rfl rfl rfl rfl ?_
        refine r_iconst (v := 1) (p := 131) rfl rfl rfl ?_
        refine r_iadd (p := 132) rfl rfl ?_
        refine r_putI (p := 135) rfl rfl rfl rfl ?_
        refine r_iload_n (p := 136) rfl rfl rfl ?_
        refine r_ireturn rfl trivial ?_
        have z := hQ _ _ (H.new hI ha) ((frR.f (by omega)).tr ((frR.f (by omega)).tr ((frR.m (by omega)).tr ((frR.m (by omega)).tr ((frR.m (by omega)).tr ((frR.m (by omega)).tr ((frR.m (by omega)).tr ((frR.m (by omega)).tr ((frR.m (by omega)).tr ((frR.m (by omega)).tr ((frR.m (by omega)).tr frR.rf)))))))))))
        rw [eM_no (show ¬ sAl s < -1 by rw [hn2]; exact fun q => absurd (Int32.lt_trans q (by decide)) (nI_pos (n := n) (by omega)))] at z
        exact z
      · refine r_aload_n (p := 42) rfl rfl rfl ?_
        refine r_bipush (v := (-4)) (p := 44) rfl rfl rfl ?_
        refine r_cV (p := 47) rfl rfl rfl (Nat.le_of_ble_eq_true rfl) rfl (s_X7_fail vpf4 ?_)
        rw [f_fail]
        have e : aloc s v = (-4, s) := by
          unfold aloc
          rw [if_neg ho, if_pos ?_]
          exact Or.inr (by rw [show sAl s = 100 from c3]; decide)
        rw [e] at hQ
        have z := hQ _ _ H frR.rf
        rw [eM_4] at z
        refine r_ireturn rfl trivial ?_
        exact z
  · refine r_aload_n (p := 10) rfl rfl rfl ?_
    refine r_bipush (v := (-2)) (p := 12) rfl rfl rfl ?_
    refine r_cV (p := 15) rfl rfl rfl (Nat.le_of_ble_eq_true rfl) rfl (s_X7_fail vpf2 ?_)
    rw [f_fail]
    have ho : v < 0 ∨ 4 < v := Classical.byContradiction fun q => absurd c1 (by rw [if_pos ⟨fun w => q (Or.inl w), fun w => q (Or.inr w)⟩]; decide)
    have e : aloc s v = (-2, s) := if_pos ho
    rw [e] at hQ
    have z := hQ _ _ H frR.rf
    rw [eM_2] at z
    refine r_ireturn rfl trivial ?_
    exact z
set_option maxRecDepth 100000 in
theorem lp_X7_remember {d : Nat} {Y : mY} {L : mL} {s : mSt} {F : mF} {M : mM} {v : Int32} {Q : Option Value → mW → Prop} (H : RR s F M) (hl : (sKn s).length ≤ 100) (h99 : v ∉ sKn s → (sKn s).length < 100) (hv : inR v) (hQ : ∀ F' M', RR (wKn s (addL (sKn s) v)) F' M' → frR F M F' M' → Q none (mXY Y, F', M', L)) :
    ∀ (t : List Int32) (j : Nat), (sKn s).drop j = t → j ≤ (sKn s).length → (∀ x ∈ (sKn s).take j, ¬ x = v) → Wp d tX7_remember 2 [some (.ref 34), some (.int v), some (.int (nI j))] [] (mXY Y, F, M, L) Q
  | [], j, hj, hjl, hn => by
    have hd : (sKn s).length ≤ j := List.drop_eq_nil_iff.mp hj
    rw [List.take_of_length_le hd] at hn
    have hm : v ∉ sKn s := fun z => hn v z rfl
    have h1 := h99 hm
    have e : addL (sKn s) v = sKn s ++ [v] := if_pos ⟨hv, hm⟩
    rw [e] at hQ
    refine r_iload_n (p := 3) rfl rfl rfl ?_
    refine r_aload_n (p := 4) rfl rfl rfl ?_
    refine r_getI (p := 7) rfl rfl rfl rfl ?_
    rw [H.2.2.2.2.2.2.2.1.1]
    refine r_icmp_ge (p := 10) rfl rfl (fun c1 => ?_) (fun c1 => ?_)
    · refine r_aload_n (p := 28) rfl rfl rfl ?_
      refine r_getR (p := 31) rfl rfl rfl rfl rfl ?_
      refine r_aload_n (p := 32) rfl rfl rfl ?_
      refine r_getI (p := 35) rfl rfl rfl rfl ?_
      refine r_iload_n (p := 36) rfl rfl rfl ?_
      refine r_iast (p := 37) rfl rfl rfl (by rw [H.2.2.2.2.2.2.2.1.1]; exact vp_in_nI h1 (by omega)) (by decide) rfl ?_
      refine r_aload_n (p := 38) rfl rfl rfl ?_
      refine r_dup (p := 39) rfl rfl rfl ?_
      refine r_getI (p := 42) rfl rfl rfl rfl ?_
      refine r_iconst (v := 1) (p := 43) rfl rfl rfl ?_
      refine r_iadd (p := 44) rfl rfl ?_
      refine r_putI (p := 47) rfl rfl rfl rfl ?_
      refine r_return rfl ?_
      exact hQ _ _ (H.pushK (by omega) v) ((frR.m (by omega)).tr (frR.f (by omega)))
    · exact absurd (nI_le hd (by omega)) c1
  | x :: t, j, hj, hjl, hn => by
    obtain ⟨hd, hx, ht⟩ := drop_c (z := 0) hj
    refine r_iload_n (p := 3) rfl rfl rfl ?_
    refine r_aload_n (p := 4) rfl rfl rfl ?_
    refine r_getI (p := 7) rfl rfl rfl rfl ?_
    rw [H.2.2.2.2.2.2.2.1.1]
    refine r_icmp_ge (p := 10) rfl rfl (fun c1 => ?_) (fun c1 => ?_)
    · exact absurd c1 (nI_ge hd (by omega))
    · refine r_aload_n (p := 11) rfl rfl rfl ?_
      refine r_getR (p := 14) rfl rfl rfl rfl rfl ?_
      refine r_iload_n (p := 15) rfl rfl rfl ?_
      refine r_iald (p := 16) rfl rfl rfl (vp_in_nI (show j < 100 by omega) (by omega)) rfl ?_
      rw [H.2.2.2.2.2.2.2.1.at hj]
      refine r_iload_n (p := 17) rfl rfl rfl ?_
      refine r_icmp_ne (p := 20) rfl rfl (fun c2 => ?_) (fun c2 => ?_)
      · refine r_iinc (v := (nI (j + 1))) (p := 24) rfl rfl (nI_1 j) rfl rfl ?_
        refine r_goto rfl ?_
        refine lp_X7_remember H hl h99 hv hQ t (j + 1) ht hd (fun y hy => ?_)
        have e : (sKn s).take (j + 1) = (sKn s).take j ++ [x] := by
          rw [List.take_succ, ← hx]
          simp [List.getD_eq_getElem?_getD, List.getElem?_eq_getElem hd]
        rw [e] at hy
        rcases List.mem_append.mp hy with q | q
        · exact hn y q
        · rw [List.mem_singleton.mp q]; exact c2
      · refine r_return rfl ?_
        have e : addL (sKn s) v = sKn s := if_neg (fun z => z.2 (by rw [← c2, ← hx]; exact getD_mem hd))
        rw [e] at hQ
        exact hQ F M H frR.rf
set_option maxRecDepth 100000 in
theorem s_X7_remember {d : Nat} {Y : mY} {L : mL} {s : mSt} {F : mF} {M : mM} {v : Int32} {Q : Option Value → mW → Prop} (H : RR s F M) (hl : (sKn s).length ≤ 100) (h99 : v ∉ sKn s → (sKn s).length < 100) (hv : inR v) (hQ : ∀ F' M', RR (wKn s (addL (sKn s) v)) F' M' → frR F M F' M' → Q none (mXY Y, F', M', L)) : Cw (d + 1) 14 [.ref 34, .int v] (mXY Y, F, M, L) Q := by
  refine Cw_in rfl rfl ?_
  refine r_iconst (v := 0) (p := 1) rfl rfl rfl ?_
  refine r_istore_n (p := 2) rfl rfl rfl ?_
  exact lp_X7_remember H hl h99 hv hQ (sKn s) 0 rfl (Nat.zero_le _) (fun x hx => by cases hx)
theorem in_sub {n : Nat} (hn : n ≤ 4) {j : Int32} : (¬ j < 0 ∧ ¬ nI n - 1 < j) ↔ (¬ j < 0 ∧ j < nI n) := by
  refine ⟨fun h => ⟨h.1, ?_⟩, fun h => ⟨h.1, ?_⟩⟩
  · obtain ⟨b, hb, rfl⟩ := nI_of h.1
    have h2 := Int32.not_lt.mp h.2
    rcases Nat.eq_zero_or_pos n with e | e
    · subst e
      exact absurd h2 (Int32.not_le.mpr (Int32.lt_of_lt_of_le (show nI 0 - 1 < 0 by decide) (Int32.not_lt.mp h.1)))
    · have e1 : nI n - 1 = nI (n - 1) := by
        rw [show nI n = nI (n - 1) + 1 by rw [nI_1]; congr 1; omega]
        grind
      rw [e1] at h2
      refine (nI_ltI hb (by omega)).mpr ?_
      refine Nat.lt_of_not_le fun q => absurd h2 ?_
      exact nI_ge (a := n - 1) (b := b) (by omega) hb
  · obtain ⟨b, hb, rfl⟩ := nI_of h.1
    have h2 := (nI_ltI hb (by omega)).mp h.2
    have e1 : nI n - 1 = nI (n - 1) := by
      rw [show nI n = nI (n - 1) + 1 by rw [nI_1]; congr 1; omega]
      grind
    rw [e1]
    exact Int32.not_lt.mpr (nI_le (by omega) (by omega))
set_option maxRecDepth 100000 in
theorem s_X7_isField {d : Nat} {Y : mY} {L : mL} {s : mSt} {F : mF} {M : mM} {i j : Int32} {Q : Option Value → mW → Prop} (H : RR s F M) (hI : Inv s) (hQ : Q (some (.int (if fldP s i j then 1 else 0))) (mXY Y, F, M, L)) : Cw (d + 3) 15 [.ref 34, .int i, .int j] (mXY Y, F, M, L) Q := by
  refine Cw_in rfl rfl ?_
  refine r_aload_n (p := 1) rfl rfl rfl ?_
  refine r_iload_n (p := 2) rfl rfl rfl ?_
  refine r_cV (p := 5) rfl rfl rfl (Nat.le_of_ble_eq_true rfl) rfl (s_X7_isThere H hI ?_)
  refine r_if_eq (p := 8) rfl rfl (fun c1 => ?_) (fun c1 => ?_)
  · refine r_iconst (v := 0) (p := 29) rfl rfl rfl ?_
    have e : ¬ fldP s i j := fun w => absurd c1 (by rw [if_pos w.1]; decide)
    rw [if_neg e] at hQ
    refine r_ireturn rfl mok_0 ?_
    exact hQ
  · have hl : liveP s i := Classical.byContradiction fun q => c1 (if_neg q)
    obtain ⟨n, hn, hn2⟩ := hI.2.2.1 i hl.1
    refine r_iload_n (p := 9) rfl rfl rfl ?_
    refine r_iconst (v := 0) (p := 10) rfl rfl rfl ?_
    refine r_aload_n (p := 11) rfl rfl rfl ?_
    refine r_getR (p := 14) rfl rfl rfl rfl rfl ?_
    refine r_iload_n (p := 15) rfl rfl rfl ?_
    refine r_iald (p := 16) rfl rfl rfl (vp100 hl.1) rfl ?_
    rw [H.2.2.1 i hl.1]
    refine r_iconst (v := 1) (p := 17) rfl rfl rfl ?_
    refine r_isub (p := 18) rfl rfl ?_
    refine r_cS1 (p := 21) rfl rfl (Nat.le_of_ble_eq_true rfl) rfl (s_X7_in ?_)
    rw [in_eq]
    refine r_if_eq (p := 24) rfl rfl (fun c2 => ?_) (fun c2 => ?_)
    · refine r_iconst (v := 0) (p := 29) rfl rfl rfl ?_
      have e : ¬ fldP s i j := fun w => absurd c2 (by rw [if_pos (by have := w.2; rw [hn2] at this ⊢; exact (in_sub hn).mpr this)]; decide)
      rw [if_neg e] at hQ
      refine r_ireturn rfl mok_0 ?_
      exact hQ
    · refine r_iconst (v := 1) (p := 25) rfl rfl rfl ?_
      refine r_goto rfl ?_
      have e : fldP s i j := ⟨hl, Classical.byContradiction fun q => c2 (if_neg fun w => q (by rw [hn2]; rw [hn2] at w; exact (in_sub hn).mp w))⟩
      rw [if_pos e] at hQ
      refine r_ireturn rfl mok_1 ?_
      exact hQ
set_option maxRecDepth 100000 in
theorem s_X7_isTarget {d : Nat} {Y : mY} {L : mL} {s : mSt} {F : mF} {M : mM} {t : Int32} {Q : Option Value → mW → Prop} (H : RR s F M) (hI : Inv s) (hQ : Q (some (.int (if tgtP s t then 1 else 0))) (mXY Y, F, M, L)) : Cw (d + 3) 5 [.ref 34, .int t] (mXY Y, F, M, L) Q := by
  refine Cw_in rfl rfl ?_
  refine r_iload_n (p := 1) rfl rfl rfl ?_
  refine r_iconst (v := (-1)) (p := 2) rfl rfl rfl ?_
  refine r_icmp_eq (p := 5) rfl rfl (fun c1 => ?_) (fun c1 => ?_)
  · refine r_iconst (v := 1) (p := 14) rfl rfl rfl ?_
    refine r_goto rfl ?_
    rw [if_pos (Or.inl c1)] at hQ
    refine r_ireturn rfl mok_1 ?_
    exact hQ
  · refine r_aload_n (p := 6) rfl rfl rfl ?_
    refine r_iload_n (p := 7) rfl rfl rfl ?_
    refine r_cV (p := 10) rfl rfl rfl (Nat.le_of_ble_eq_true rfl) rfl (s_X7_isThere H hI ?_)
    refine r_if_eq (p := 13) rfl rfl (fun c2 => ?_) (fun c2 => ?_)
    · refine r_iconst (v := 0) (p := 18) rfl rfl rfl ?_
      rw [if_neg (fun z => z.elim c1 (fun q => absurd c2 (by rw [if_pos q]; decide)))] at hQ
      refine r_ireturn rfl mok_0 ?_
      exact hQ
    · refine r_iconst (v := 1) (p := 14) rfl rfl rfl ?_
      refine r_goto rfl ?_
      rw [if_pos (Or.inr (Classical.byContradiction fun q => c2 (if_neg q)))] at hQ
      refine r_ireturn rfl mok_1 ?_
      exact hQ
theorem RR.stR {s : mSt} {F : mF} {M : mM} (H : RR s F M) {i j t : Int32} : RR (wR s (up1 (sR s) (4 * i + j) t)) F (uM M 38 (4 * i + j) t) := by
  obtain ⟨c1, c2, c3, c4, c5, c6⟩ := H
  refine ⟨c1, c2, c3, c4, fun a b ha h0 h1 => ?_, c6⟩
  rw [uM_at, c5 a b ha h0 h1]
theorem RR.stO {s : mSt} {F : mF} {M : mM} (H : RR s F M) {k t : Int32} : RR (wO s (up1 (sO s) k t)) F (uM M 40 k t) := by
  obtain ⟨c1, c2, c3, c4, c5, c6, c7⟩ := H
  refine ⟨c1, c2, c3, c4, c5, fun a ha => ?_, c7⟩
  rw [uM_at, c6 a ha]
theorem stB_ok {x : Int32} (h : x = -1 ∨ inR x) : ¬ x < -1 := by
  rcases h with q | q
  · rw [q]; decide
  · exact fun z => q.1 (Int32.lt_trans z (by decide))
set_option maxRecDepth 100000 in
theorem wr_end {d : Nat} {Y : mY} {F F2 : mF} {M M2 M3 : mM} {L : mL} {s : mSt} {i j t : Int32} {Q : Option Value → mW → Prop} (hI : Inv s) (ho : fldP s i j ∧ tgtP s t) (H1 : RR (wR s (up1 (sR s) (4 * i + j) t)) F M3) (R2 : RR (stK s i j t) F2 M2) (f2 : frR F M F2 M2) (hok : ¬ sR s (4 * i + j) < -1) (hk : sPh (stK s i j t) = sPh s) (hQ : ∀ F' M', RR (stB (stK s i j t) t) F' M' → frR F M F' M' → Q (some (.int (sR s (4 * i + j)))) (mXY Y, F', eM F M' (sR s (4 * i + j)), L)) : Wp (d + 3) tX7_write 93 [some (.ref 34), some (.int i), some (.int j), some (.int t), some (.int (sR s (4 * i + j)))] [] (mXY Y, F2, M2, L) Q := by
  have hph := R2.2.2.2.2.2.2.2.2.2.2.2.2.1.1
  refine r_aload_n (p := 94) rfl rfl rfl ?_
  refine r_getI (p := 97) rfl rfl rfl rfl ?_
  rw [hph]
  refine r_iconst (v := 1) (p := 98) rfl rfl rfl ?_
  refine r_icmp_ne (p := 101) rfl rfl (fun c1 => ?_) (fun c1 => ?_)
  · refine r_iload (p := 108) rfl rfl rfl ?_
    have e2 : stB (stK s i j t) t = stK s i j t := if_neg c1
    rw [e2] at hQ
    have z := hQ _ _ R2 f2
    rw [eM_no hok] at z
    refine r_ireturn rfl trivial ?_
    exact z
  · have hp1 : sPh (stK s i j t) = 1 := c1
    refine r_aload_n (p := 102) rfl rfl rfl ?_
    refine r_iload_n (p := 103) rfl rfl rfl ?_
    refine r_cV (p := 106) rfl rfl rfl (Nat.le_of_ble_eq_true rfl) rfl (s_X7_shade R2 (Inv_stK hI ho.2) hp1 (neg1 (tgt_in ho.2)) (fun F3 M4 R3 f3 => ?_))
    refine r_iload (p := 108) rfl rfl rfl ?_
    have e2 : stB (stK s i j t) t = shd (stK s i j t) t := if_pos hp1
    rw [e2] at hQ
    have z := hQ _ _ R3 (f2.tr f3)
    rw [eM_no hok] at z
    refine r_ireturn rfl trivial ?_
    exact z
set_option maxRecDepth 100000 in
theorem s_X7_write {d : Nat} {Y : mY} {F : mF} {M : mM} {L : mL} {s : mSt} {i j t : Int32} {Q : Option Value → mW → Prop} (H : RR s F M) (hI : Inv s) (hQ : ∀ F' M', RR (stF s i j t).2 F' M' → frR F M F' M' → Q (some (.int (stF s i j t).1)) (mXY Y, F', eM F M' (stF s i j t).1, L)) : Cw (d + 4) 16 [.ref 34, .int i, .int j, .int t] (mXY Y, F, M, L) Q := by
  have hph := H.2.2.2.2.2.2.2.2.2.2.2.2.1.1
  refine Cw_in rfl rfl ?_
  refine r_aload_n (p := 1) rfl rfl rfl ?_
  refine r_iload_n (p := 2) rfl rfl rfl ?_
  refine r_iload_n (p := 3) rfl rfl rfl ?_
  refine r_cV (p := 6) rfl rfl rfl (Nat.le_of_ble_eq_true rfl) rfl (s_X7_isField H hI ?_)
  refine r_if_eq (p := 9) rfl rfl (fun c1 => ?_) (fun c1 => ?_)
  · refine r_aload_n (p := 18) rfl rfl rfl ?_
    refine r_bipush (v := (-2)) (p := 20) rfl rfl rfl ?_
    refine r_cV (p := 23) rfl rfl rfl (Nat.le_of_ble_eq_true rfl) rfl (s_X7_fail vpf2 ?_)
    rw [f_fail]
    have e : stF s i j t = (-2, s) := if_pos (fun q => absurd c1 (by rw [if_pos q.1]; decide))
    rw [e] at hQ
    have z := hQ _ _ H frR.rf
    rw [eM_2] at z
    refine r_ireturn rfl trivial ?_
    exact z
  · refine r_aload_n (p := 10) rfl rfl rfl ?_
    refine r_iload_n (p := 11) rfl rfl rfl ?_
    refine r_cV (p := 14) rfl rfl rfl (Nat.le_of_ble_eq_true rfl) rfl (s_X7_isTarget H hI ?_)
    refine r_if_ne (p := 17) rfl rfl (fun c2 => ?_) (fun c2 => ?_)
    · have ho : fldP s i j ∧ tgtP s t := ⟨Classical.byContradiction fun q => c1 (if_neg q), Classical.byContradiction fun q => c2 (if_neg q)⟩
      have hti := neg1 (tgt_in ho.2)
      obtain ⟨n, hn, hn2⟩ := hI.2.2.1 i ho.1.1.1
      have hj4 : j < 4 := Int32.lt_of_lt_of_le ho.1.2.2 (by rw [hn2]; exact nI_le (a := n) (b := 4) hn (by omega))
      refine r_aload_n (p := 25) rfl rfl rfl ?_
      refine r_getI (p := 28) rfl rfl rfl rfl ?_
      rw [hph]
      refine r_iconst (v := 2) (p := 29) rfl rfl rfl ?_
      refine r_icmp_ne (p := 32) rfl rfl (fun c3 => ?_) (fun c3 => ?_)
      · have hdm : ¬ (sPh s = 2 ∧ whtP s t) := fun q => c3 q.1
        have e : stF s i j t = (sR s (4 * i + j), stB (stK s i j t) t) := by
          unfold stF
          rw [if_neg (not_not_intro ho), if_neg hdm]
        rw [e] at hQ
        have hok := stB_ok (hI.2.2.2.1 (4 * i + j))
        have H1 := H.stR (i := i) (j := j) (t := t)
        refine r_aload_n (p := 48) rfl rfl rfl ?_
        refine r_getR (p := 51) rfl rfl rfl rfl rfl ?_
        refine r_iconst (v := 4) (p := 52) rfl rfl rfl ?_
        refine r_iload_n (p := 53) rfl rfl rfl ?_
        refine r_imul (p := 54) rfl rfl ?_
        refine r_iload_n (p := 55) rfl rfl rfl ?_
        refine r_iadd (p := 56) rfl rfl ?_
        refine r_iald (p := 57) rfl rfl rfl (vp400 ho.1.1.1 ho.1.2.1 hj4) rfl ?_
        rw [H.2.2.2.2.1 i j ho.1.1.1 ho.1.2.1 hj4]
        refine r_istore (p := 59) rfl rfl rfl ?_
        refine r_aload_n (p := 60) rfl rfl rfl ?_
        refine r_getR (p := 63) rfl rfl rfl rfl rfl ?_
        refine r_iconst (v := 4) (p := 64) rfl rfl rfl ?_
        refine r_iload_n (p := 65) rfl rfl rfl ?_
        refine r_imul (p := 66) rfl rfl ?_
        refine r_iload_n (p := 67) rfl rfl rfl ?_
        refine r_iadd (p := 68) rfl rfl ?_
        refine r_iload_n (p := 69) rfl rfl rfl ?_
        refine r_iast (p := 70) rfl rfl rfl (vp400 ho.1.1.1 ho.1.2.1 hj4) (by decide) rfl ?_
        refine r_aload_n (p := 71) rfl rfl rfl ?_
        refine r_getR (p := 74) rfl rfl rfl rfl rfl ?_
        refine r_iload_n (p := 75) rfl rfl rfl ?_
        refine r_iald (p := 76) rfl rfl rfl (vp100 ho.1.1.1) rfl ?_
        rw [show (uM M 38 (4 * i + j) t) 35 i = sG s i from H.1 i ho.1.1.1]
        refine r_iconst (v := 2) (p := 77) rfl rfl rfl ?_
        refine r_icmp_ne (p := 80) rfl rfl (fun c4 => ?_) (fun c4 => ?_)
        · have hk : stK s i j t = wR s (up1 (sR s) (4 * i + j) t) := if_neg (fun q => c4 q.1.2)
          have R2 : RR (stK s i j t) F (uM M 38 (4 * i + j) t) := by rw [hk]; exact H1
          have f2 : frR F M F (uM M 38 (4 * i + j) t) := frR.m (by omega)
          exact wr_end hI ho H1 R2 f2 hok (by rw [hk]) hQ
        · refine r_aload_n (p := 81) rfl rfl rfl ?_
          refine r_iload_n (p := 82) rfl rfl rfl ?_
          refine r_cV (p := 85) rfl rfl rfl (Nat.le_of_ble_eq_true rfl) rfl (s_X7_isYoung hti ?_)
          rw [H1.yng hti]
          show Wp _ _ _ _ [.int (if yngP s t then 1 else 0)] _ _
          refine r_if_eq (p := 88) rfl rfl (fun c5 => ?_) (fun c5 => ?_)
          · have hk : stK s i j t = wR s (up1 (sR s) (4 * i + j) t) := if_neg (fun q => absurd c5 (by rw [if_pos q.2]; decide))
            have R2 : RR (stK s i j t) F (uM M 38 (4 * i + j) t) := by rw [hk]; exact H1
            have f2 : frR F M F (uM M 38 (4 * i + j) t) := frR.m (by omega)
            exact wr_end hI ho H1 R2 f2 hok (by rw [hk]) hQ
          · have hyt : yngP s t := Classical.byContradiction fun q => c5 (if_neg q)
            refine r_aload_n (p := 89) rfl rfl rfl ?_
            refine r_iload_n (p := 90) rfl rfl rfl ?_
            refine r_cV (p := 93) rfl rfl rfl (Nat.le_of_ble_eq_true rfl) rfl (s_X7_remember H1 hI.knl (fun q => len99 hI.2.2.2.2.2.2.1.1 (fun x hx => (hI.2.2.2.2.2.2.1.2 x hx).1) ho.1.1.1 q) ho.1.1.1 (fun F9 M9 R9 f9 => ?_))
            have hk : stK s i j t = wKn (wR s (up1 (sR s) (4 * i + j) t)) (addL (sKn s) i) := if_pos ⟨⟨ho.1.1.1, c4⟩, hyt⟩
            have R2 : RR (stK s i j t) F9 M9 := by rw [hk]; exact R9
            have f2 : frR F M F9 M9 := (frR.m (by omega)).tr f9
            exact wr_end hI ho H1 R2 f2 hok (by rw [hk]) hQ
      · refine r_aload_n (p := 33) rfl rfl rfl ?_
        refine r_iload_n (p := 34) rfl rfl rfl ?_
        refine r_cV (p := 37) rfl rfl rfl (Nat.le_of_ble_eq_true rfl) rfl (s_X7_isWhite hti ?_)
        rw [H.wht (show ¬ sPh s = 0 by rw [show sPh s = 2 from c3]; decide) hti]
        refine r_if_eq (p := 40) rfl rfl (fun c6 => ?_) (fun c6 => ?_)
        · have hdm : ¬ (sPh s = 2 ∧ whtP s t) := fun q => absurd c6 (by rw [if_pos q.2]; decide)
          have e : stF s i j t = (sR s (4 * i + j), stB (stK s i j t) t) := by
            unfold stF
            rw [if_neg (not_not_intro ho), if_neg hdm]
          rw [e] at hQ
          have hok := stB_ok (hI.2.2.2.1 (4 * i + j))
          have H1 := H.stR (i := i) (j := j) (t := t)
          refine r_aload_n (p := 48) rfl rfl rfl ?_
          refine r_getR (p := 51) rfl rfl rfl rfl rfl ?_
          refine r_iconst (v := 4) (p := 52) rfl rfl rfl ?_
          refine r_iload_n (p := 53) rfl rfl rfl ?_
          refine r_imul (p := 54) rfl rfl ?_
          refine r_iload_n (p := 55) rfl rfl rfl ?_
          refine r_iadd (p := 56) rfl rfl ?_
          refine r_iald (p := 57) rfl rfl rfl (vp400 ho.1.1.1 ho.1.2.1 hj4) rfl ?_
          rw [H.2.2.2.2.1 i j ho.1.1.1 ho.1.2.1 hj4]
          refine r_istore (p := 59) rfl rfl rfl ?_
          refine r_aload_n (p := 60) rfl rfl rfl ?_
          refine r_getR (p := 63) rfl rfl rfl rfl rfl ?_
          refine r_iconst (v := 4) (p := 64) rfl rfl rfl ?_
          refine r_iload_n (p := 65) rfl rfl rfl ?_
          refine r_imul (p := 66) rfl rfl ?_
          refine r_iload_n (p := 67) rfl rfl rfl ?_
          refine r_iadd (p := 68) rfl rfl ?_
          refine r_iload_n (p := 69) rfl rfl rfl ?_
          refine r_iast (p := 70) rfl rfl rfl (vp400 ho.1.1.1 ho.1.2.1 hj4) (by decide) rfl ?_
          refine r_aload_n (p := 71) rfl rfl rfl ?_
          refine r_getR (p := 74) rfl rfl rfl rfl rfl ?_
          refine r_iload_n (p := 75) rfl rfl rfl ?_
          refine r_iald (p := 76) rfl rfl rfl (vp100 ho.1.1.1) rfl ?_
          rw [show (uM M 38 (4 * i + j) t) 35 i = sG s i from H.1 i ho.1.1.1]
          refine r_iconst (v := 2) (p := 77) rfl rfl rfl ?_
          refine r_icmp_ne (p := 80) rfl rfl (fun c7 => ?_) (fun c7 => ?_)
          · have hk : stK s i j t = wR s (up1 (sR s) (4 * i + j) t) := if_neg (fun q => c7 q.1.2)
            have R2 : RR (stK s i j t) F (uM M 38 (4 * i + j) t) := by rw [hk]; exact H1
            have f2 : frR F M F (uM M 38 (4 * i + j) t) := frR.m (by omega)
            exact wr_end hI ho H1 R2 f2 hok (by rw [hk]) hQ
          · refine r_aload_n (p := 81) rfl rfl rfl ?_
            refine r_iload_n (p := 82) rfl rfl rfl ?_
            refine r_cV (p := 85) rfl rfl rfl (Nat.le_of_ble_eq_true rfl) rfl (s_X7_isYoung hti ?_)
            rw [H1.yng hti]
            show Wp _ _ _ _ [.int (if yngP s t then 1 else 0)] _ _
            refine r_if_eq (p := 88) rfl rfl (fun c8 => ?_) (fun c8 => ?_)
            · have hk : stK s i j t = wR s (up1 (sR s) (4 * i + j) t) := if_neg (fun q => absurd c8 (by rw [if_pos q.2]; decide))
              have R2 : RR (stK s i j t) F (uM M 38 (4 * i + j) t) := by rw [hk]; exact H1
              have f2 : frR F M F (uM M 38 (4 * i + j) t) := frR.m (by omega)
              exact wr_end hI ho H1 R2 f2 hok (by rw [hk]) hQ
            · have hyt : yngP s t := Classical.byContradiction fun q => c8 (if_neg q)
              refine r_aload_n (p := 89) rfl rfl rfl ?_
              refine r_iload_n (p := 90) rfl rfl rfl ?_
              refine r_cV (p := 93) rfl rfl rfl (Nat.le_of_ble_eq_true rfl) rfl (s_X7_remember H1 hI.knl (fun q => len99 hI.2.2.2.2.2.2.1.1 (fun x hx => (hI.2.2.2.2.2.2.1.2 x hx).1) ho.1.1.1 q) ho.1.1.1 (fun F9 M9 R9 f9 => ?_))
              have hk : stK s i j t = wKn (wR s (up1 (sR s) (4 * i + j) t)) (addL (sKn s) i) := if_pos ⟨⟨ho.1.1.1, c7⟩, hyt⟩
              have R2 : RR (stK s i j t) F9 M9 := by rw [hk]; exact R9
              have f2 : frR F M F9 M9 := (frR.m (by omega)).tr f9
              exact wr_end hI ho H1 R2 f2 hok (by rw [hk]) hQ
        · refine r_aload_n (p := 41) rfl rfl rfl ?_
          refine r_bipush (v := (-3)) (p := 43) rfl rfl rfl ?_
          refine r_cV (p := 46) rfl rfl rfl (Nat.le_of_ble_eq_true rfl) rfl (s_X7_fail vpf3 ?_)
          rw [f_fail]
          have e : stF s i j t = (-3, s) := by
            unfold stF
            rw [if_neg (not_not_intro ho), if_pos ⟨c3, Classical.byContradiction fun q => c6 (if_neg q)⟩]
          rw [e] at hQ
          have z := hQ _ _ H frR.rf
          rw [eM_3] at z
          refine r_ireturn rfl trivial ?_
          exact z
    · refine r_aload_n (p := 18) rfl rfl rfl ?_
      refine r_bipush (v := (-2)) (p := 20) rfl rfl rfl ?_
      refine r_cV (p := 23) rfl rfl rfl (Nat.le_of_ble_eq_true rfl) rfl (s_X7_fail vpf2 ?_)
      rw [f_fail]
      have e : stF s i j t = (-2, s) := if_pos (fun q => absurd c2 (by rw [if_pos q.2]; decide))
      rw [e] at hQ
      have z := hQ _ _ H frR.rf
      rw [eM_2] at z
      refine r_ireturn rfl trivial ?_
      exact z
set_option maxRecDepth 100000 in
theorem s_X7_setRoot {d : Nat} {Y : mY} {F : mF} {M : mM} {L : mL} {s : mSt} {i t : Int32} {Q : Option Value → mW → Prop} (H : RR s F M) (hI : Inv s) (hQ : ∀ F' M', RR (stR s i t).2 F' M' → frR F M F' M' → Q (some (.int (stR s i t).1)) (mXY Y, F', eM F M' (stR s i t).1, L)) : Cw (d + 4) 17 [.ref 34, .int i, .int t] (mXY Y, F, M, L) Q := by
  have hph := H.2.2.2.2.2.2.2.2.2.2.2.2.1.1
  refine Cw_in rfl rfl ?_
  refine r_iload_n (p := 1) rfl rfl rfl ?_
  refine r_iconst (v := 0) (p := 2) rfl rfl rfl ?_
  refine r_iconst (v := 3) (p := 3) rfl rfl rfl ?_
  refine r_cS1 (p := 6) rfl rfl (Nat.le_of_ble_eq_true rfl) rfl (s_X7_in ?_)
  rw [in_eq]
  refine r_if_eq (p := 9) rfl rfl (fun c1 => ?_) (fun c1 => ?_)
  · refine r_aload_n (p := 18) rfl rfl rfl ?_
    refine r_bipush (v := (-2)) (p := 20) rfl rfl rfl ?_
    refine r_cV (p := 23) rfl rfl rfl (Nat.le_of_ble_eq_true rfl) rfl (s_X7_fail vpf2 ?_)
    rw [f_fail]
    have e : stR s i t = (-2, s) := if_pos (fun q => absurd c1 (by rw [if_pos q.1]; decide))
    rw [e] at hQ
    have z := hQ _ _ H frR.rf
    rw [eM_2] at z
    refine r_ireturn rfl trivial ?_
    exact z
  · refine r_aload_n (p := 10) rfl rfl rfl ?_
    refine r_iload_n (p := 11) rfl rfl rfl ?_
    refine r_cV (p := 14) rfl rfl rfl (Nat.le_of_ble_eq_true rfl) rfl (s_X7_isTarget H hI ?_)
    refine r_if_ne (p := 17) rfl rfl (fun c2 => ?_) (fun c2 => ?_)
    · have ho : (¬ i < 0 ∧ ¬ 3 < i) ∧ tgtP s t := ⟨Classical.byContradiction fun q => c1 (if_neg q), Classical.byContradiction fun q => c2 (if_neg q)⟩
      have hti := neg1 (tgt_in ho.2)
      refine r_aload_n (p := 25) rfl rfl rfl ?_
      refine r_getI (p := 28) rfl rfl rfl rfl ?_
      rw [hph]
      refine r_iconst (v := 2) (p := 29) rfl rfl rfl ?_
      refine r_icmp_ne (p := 32) rfl rfl (fun c3 => ?_) (fun c3 => ?_)
      · have hdm : ¬ (sPh s = 2 ∧ whtP s t) := fun q => c3 q.1
        have e : stR s i t = (sO s i, stB (wO s (up1 (sO s) i t)) t) := by
          unfold stR
          rw [if_neg (not_not_intro ho), if_neg hdm]
        rw [e] at hQ
        have hok := stB_ok (hI.2.2.2.2.1 i)
        have H1 := H.stO (k := i) (t := t)
        have hI1 : Inv (wO s (up1 (sO s) i t)) := by
          obtain ⟨h1, h2, h3, h4, h5, h6⟩ := hI
          refine ⟨h1, h2, h3, h4, fun x => ?_, h6⟩
          show (if x = i then t else sO s x) = -1 ∨ inR (if x = i then t else sO s x)
          split
          · exact tgt_in ho.2
          · exact h5 x
        have f1 : frR F M F (uM M 40 i t) := frR.m (by omega)
        refine r_aload_n (p := 48) rfl rfl rfl ?_
        refine r_getR (p := 51) rfl rfl rfl rfl rfl ?_
        refine r_iload_n (p := 52) rfl rfl rfl ?_
        refine r_iald (p := 53) rfl rfl rfl (vp4 ho.1.1 ho.1.2) rfl ?_
        obtain ⟨n4, hn4, hi4⟩ := nI_of2 (M := 3) (n := 3) (x := i) rfl ho.1.1 (Int32.not_lt.mp ho.1.2)
        have hr4 := H.2.2.2.2.2.1 n4 (by omega)
        rw [← hi4] at hr4
        rw [hr4]
        refine r_istore_n (p := 54) rfl rfl rfl ?_
        refine r_aload_n (p := 55) rfl rfl rfl ?_
        refine r_getR (p := 58) rfl rfl rfl rfl rfl ?_
        refine r_iload_n (p := 59) rfl rfl rfl ?_
        refine r_iload_n (p := 60) rfl rfl rfl ?_
        refine r_iast (p := 61) rfl rfl rfl (vp4 ho.1.1 ho.1.2) (by decide) rfl ?_
        refine r_aload_n (p := 62) rfl rfl rfl ?_
        refine r_getI (p := 65) rfl rfl rfl rfl ?_
        rw [hph]
        refine r_iconst (v := 1) (p := 66) rfl rfl rfl ?_
        refine r_icmp_ne (p := 69) rfl rfl (fun c4 => ?_) (fun c4 => ?_)
        · refine r_iload_n (p := 75) rfl rfl rfl ?_
          have e2 : stB (wO s (up1 (sO s) i t)) t = wO s (up1 (sO s) i t) := if_neg c4
          rw [e2] at hQ
          have z := hQ _ _ H1 f1
          rw [eM_no hok] at z
          refine r_ireturn rfl trivial ?_
          exact z
        · have hp1 : sPh (wO s (up1 (sO s) i t)) = 1 := c4
          refine r_aload_n (p := 70) rfl rfl rfl ?_
          refine r_iload_n (p := 71) rfl rfl rfl ?_
          refine r_cV (p := 74) rfl rfl rfl (Nat.le_of_ble_eq_true rfl) rfl (s_X7_shade H1 hI1 hp1 hti (fun F3 M4 R3 f3 => ?_))
          refine r_iload_n (p := 75) rfl rfl rfl ?_
          have e2 : stB (wO s (up1 (sO s) i t)) t = shd (wO s (up1 (sO s) i t)) t := if_pos hp1
          rw [e2] at hQ
          have z := hQ _ _ R3 (f1.tr f3)
          rw [eM_no hok] at z
          refine r_ireturn rfl trivial ?_
          exact z
      · refine r_aload_n (p := 33) rfl rfl rfl ?_
        refine r_iload_n (p := 34) rfl rfl rfl ?_
        refine r_cV (p := 37) rfl rfl rfl (Nat.le_of_ble_eq_true rfl) rfl (s_X7_isWhite hti ?_)
        rw [H.wht (show ¬ sPh s = 0 by rw [show sPh s = 2 from c3]; decide) hti]
        refine r_if_eq (p := 40) rfl rfl (fun c5 => ?_) (fun c5 => ?_)
        · have hdm : ¬ (sPh s = 2 ∧ whtP s t) := fun q => absurd c5 (by rw [if_pos q.2]; decide)
          have e : stR s i t = (sO s i, stB (wO s (up1 (sO s) i t)) t) := by
            unfold stR
            rw [if_neg (not_not_intro ho), if_neg hdm]
          rw [e] at hQ
          have hok := stB_ok (hI.2.2.2.2.1 i)
          have H1 := H.stO (k := i) (t := t)
          have hI1 : Inv (wO s (up1 (sO s) i t)) := by
            obtain ⟨h1, h2, h3, h4, h5, h6⟩ := hI
            refine ⟨h1, h2, h3, h4, fun x => ?_, h6⟩
            show (if x = i then t else sO s x) = -1 ∨ inR (if x = i then t else sO s x)
            split
            · exact tgt_in ho.2
            · exact h5 x
          have f1 : frR F M F (uM M 40 i t) := frR.m (by omega)
          refine r_aload_n (p := 48) rfl rfl rfl ?_
          refine r_getR (p := 51) rfl rfl rfl rfl rfl ?_
          refine r_iload_n (p := 52) rfl rfl rfl ?_
          refine r_iald (p := 53) rfl rfl rfl (vp4 ho.1.1 ho.1.2) rfl ?_
          obtain ⟨n4, hn4, hi4⟩ := nI_of2 (M := 3) (n := 3) (x := i) rfl ho.1.1 (Int32.not_lt.mp ho.1.2)
          have hr4 := H.2.2.2.2.2.1 n4 (by omega)
          rw [← hi4] at hr4
          rw [hr4]
          refine r_istore_n (p := 54) rfl rfl rfl ?_
          refine r_aload_n (p := 55) rfl rfl rfl ?_
          refine r_getR (p := 58) rfl rfl rfl rfl rfl ?_
          refine r_iload_n (p := 59) rfl rfl rfl ?_
          refine r_iload_n (p := 60) rfl rfl rfl ?_
          refine r_iast (p := 61) rfl rfl rfl (vp4 ho.1.1 ho.1.2) (by decide) rfl ?_
          refine r_aload_n (p := 62) rfl rfl rfl ?_
          refine r_getI (p := 65) rfl rfl rfl rfl ?_
          rw [hph]
          refine r_iconst (v := 1) (p := 66) rfl rfl rfl ?_
          refine r_icmp_ne (p := 69) rfl rfl (fun c6 => ?_) (fun c6 => ?_)
          · refine r_iload_n (p := 75) rfl rfl rfl ?_
            have e2 : stB (wO s (up1 (sO s) i t)) t = wO s (up1 (sO s) i t) := if_neg c6
            rw [e2] at hQ
            have z := hQ _ _ H1 f1
            rw [eM_no hok] at z
            refine r_ireturn rfl trivial ?_
            exact z
          · have hp1 : sPh (wO s (up1 (sO s) i t)) = 1 := c6
            refine r_aload_n (p := 70) rfl rfl rfl ?_
            refine r_iload_n (p := 71) rfl rfl rfl ?_
            refine r_cV (p := 74) rfl rfl rfl (Nat.le_of_ble_eq_true rfl) rfl (s_X7_shade H1 hI1 hp1 hti (fun F3 M4 R3 f3 => ?_))
            refine r_iload_n (p := 75) rfl rfl rfl ?_
            have e2 : stB (wO s (up1 (sO s) i t)) t = shd (wO s (up1 (sO s) i t)) t := if_pos hp1
            rw [e2] at hQ
            have z := hQ _ _ R3 (f1.tr f3)
            rw [eM_no hok] at z
            refine r_ireturn rfl trivial ?_
            exact z
        · refine r_aload_n (p := 41) rfl rfl rfl ?_
          refine r_bipush (v := (-3)) (p := 43) rfl rfl rfl ?_
          refine r_cV (p := 46) rfl rfl rfl (Nat.le_of_ble_eq_true rfl) rfl (s_X7_fail vpf3 ?_)
          rw [f_fail]
          have e : stR s i t = (-3, s) := by
            unfold stR
            rw [if_neg (not_not_intro ho), if_pos ⟨c3, Classical.byContradiction fun q => c5 (if_neg q)⟩]
          rw [e] at hQ
          have z := hQ _ _ H frR.rf
          rw [eM_3] at z
          refine r_ireturn rfl trivial ?_
          exact z
    · refine r_aload_n (p := 18) rfl rfl rfl ?_
      refine r_bipush (v := (-2)) (p := 20) rfl rfl rfl ?_
      refine r_cV (p := 23) rfl rfl rfl (Nat.le_of_ble_eq_true rfl) rfl (s_X7_fail vpf2 ?_)
      rw [f_fail]
      have e : stR s i t = (-2, s) := if_pos (fun q => absurd c2 (by rw [if_pos q.2]; decide))
      rw [e] at hQ
      have z := hQ _ _ H frR.rf
      rw [eM_2] at z
      refine r_ireturn rfl trivial ?_
      exact z
