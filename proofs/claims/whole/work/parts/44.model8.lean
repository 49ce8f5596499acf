set_option maxRecDepth 100000 in
theorem lp_X7_hasYoung {d : Nat} {Y : mY} {L : mL} {s : mSt} {v : Int32} {k : Nat} {F : mF} {M : mM} {Q : Option Value → mW → Prop} (hk : k ≤ 4) (hn : sN s v = nI k) (hv : inR v) (hr : ∀ k, sR s k = -1 ∨ inR (sR s k)) (H : RR s F M) :
    ∀ (n j : Nat) (b : Bool), j + n = k → Q (some (.int (if (b || ((seqI n j).map (fun j => sR s (4 * v + j))).any (fun x => decide (yngP s x))) = true then 1 else 0))) (mXY Y, F, M, L) → Wp (d + 1) tX7_hasYoung 4 [some (.ref 34), some (.int v), some (.int (if b = true then 1 else 0)), some (.int (nI j))] [] (mXY Y, F, M, L) Q
  | 0, j, b, hj, hQ => by
    refine r_iload_n (p := 5) rfl rfl rfl ?_
    refine r_aload_n (p := 6) rfl rfl rfl ?_
    refine r_getR (p := 9) rfl rfl rfl rfl rfl ?_
    refine r_iload_n (p := 10) rfl rfl rfl ?_
    refine r_iald (p := 11) rfl rfl rfl (vp100 hv) rfl ?_
    rw [H.2.2.1 v hv, hn]
    refine r_icmp_ge (p := 14) rfl rfl (fun c1 => ?_) (fun c1 => ?_)
    · refine r_iload_n (p := 48) rfl rfl rfl ?_
      refine r_ireturn rfl (by cases b <;> first | exact mok_0 | exact mok_1) ?_
      rw [seqI, List.map_nil, List.any_nil, Bool.or_false] at hQ
      exact hQ
    · exact absurd (nI_le (a := k) (b := j) (by omega) (by omega)) c1
  | n + 1, j, b, hj, hQ => by
    have hx := nI_x (j := j) (k := k) (by omega) (by omega) hk
    have hx4 := Int32.not_le.mp hx.2.1
    rw [seqI, List.map_cons, List.any_cons, ← Bool.or_assoc] at hQ
    refine r_iload_n (p := 5) rfl rfl rfl ?_
    refine r_aload_n (p := 6) rfl rfl rfl ?_
    refine r_getR (p := 9) rfl rfl rfl rfl rfl ?_
    refine r_iload_n (p := 10) rfl rfl rfl ?_
    refine r_iald (p := 11) rfl rfl rfl (vp100 hv) rfl ?_
    rw [H.2.2.1 v hv, hn]
    refine r_icmp_ge (p := 14) rfl rfl (fun c1 => ?_) (fun c1 => ?_)
    · refine r_iload_n (p := 48) rfl rfl rfl ?_
      exact absurd c1 (nI_ge (a := j) (b := k) (by omega) (by omega))
    · refine r_iload_n (p := 15) rfl rfl rfl ?_
      refine r_if_ne (p := 18) rfl rfl (fun c2 => ?_) (fun c2 => ?_)
      · refine r_iconst (v := 1) (p := 36) rfl rfl rfl ?_
        refine r_goto rfl ?_
        refine r_istore_n (p := 41) rfl rfl rfl ?_
        refine r_iinc (v := nI (j + 1)) (p := 44) rfl rfl (nI_1 j) rfl rfl ?_
        refine r_goto rfl ?_
        have hb : b = true := by
          cases b with
          | true => rfl
          | false => exact absurd rfl c2
        have e : (b || decide (yngP s (sR s (4 * v + nI j)))) = true := by rw [hb]; rfl
        rw [e] at hQ
        exact lp_X7_hasYoung hk hn hv hr H n (j + 1) true (by omega) hQ
      · refine r_aload_n (p := 19) rfl rfl rfl ?_
        refine r_aload_n (p := 20) rfl rfl rfl ?_
        refine r_getR (p := 23) rfl rfl rfl rfl rfl ?_
        refine r_iconst (v := 4) (p := 24) rfl rfl rfl ?_
        refine r_iload_n (p := 25) rfl rfl rfl ?_
        refine r_imul (p := 26) rfl rfl ?_
        refine r_iload_n (p := 27) rfl rfl rfl ?_
        refine r_iadd (p := 28) rfl rfl ?_
        refine r_iald (p := 29) rfl rfl rfl (vp400 hv hx.1 hx4) rfl ?_
        rw [H.2.2.2.2.1 v (nI j) hv hx.1 hx4]
        refine r_cV (p := 32) rfl rfl rfl (Nat.le_of_ble_eq_true rfl) rfl (s_X7_isYoung (neg1 (hr _)) ?_)
        rw [H.yng (neg1 (hr _))]
        refine r_if_eq (p := 35) rfl rfl (fun c3 => ?_) (fun c3 => ?_)
        · refine r_iconst (v := 0) (p := 40) rfl rfl rfl ?_
          refine r_istore_n (p := 41) rfl rfl rfl ?_
          refine r_iinc (v := nI (j + 1)) (p := 44) rfl rfl (nI_1 j) rfl rfl ?_
          refine r_goto rfl ?_
          have hb : b = false := by
            cases b with
            | false => rfl
            | true => exact absurd c2 (by decide)
          have hy : ¬ yngP s (sR s (4 * v + nI j)) := fun q => absurd c3 (by rw [if_pos q]; decide)
          have e : (b || decide (yngP s (sR s (4 * v + nI j)))) = false := by rw [hb, decide_eq_false hy]; rfl
          rw [e] at hQ
          exact lp_X7_hasYoung hk hn hv hr H n (j + 1) false (by omega) hQ
        · refine r_iconst (v := 1) (p := 36) rfl rfl rfl ?_
          refine r_goto rfl ?_
          refine r_istore_n (p := 41) rfl rfl rfl ?_
          refine r_iinc (v := nI (j + 1)) (p := 44) rfl rfl (nI_1 j) rfl rfl ?_
          refine r_goto rfl ?_
          have hy : yngP s (sR s (4 * v + nI j)) := Classical.byContradiction fun q => c3 (if_neg q)
          have e : (b || decide (yngP s (sR s (4 * v + nI j)))) = true := by rw [decide_eq_true hy, Bool.or_true]
          rw [e] at hQ
          exact lp_X7_hasYoung hk hn hv hr H n (j + 1) true (by omega) hQ
set_option maxRecDepth 100000 in
theorem s_X7_hasYoung {d : Nat} {Y : mY} {F : mF} {M : mM} {L : mL} {v : Int32} {s : mSt} {Q : Option Value → mW → Prop} (H : RR s F M) (hI : ∃ n, n ≤ 4 ∧ sN s v = nI n) (hv : inR v) (hr : ∀ k, sR s k = -1 ∨ inR (sR s k)) (hQ : Q (some (.int (if hasY s v = true then 1 else 0))) (mXY Y, F, M, L)) : Cw (d + 2) 22 [.ref 34, .int v] (mXY Y, F, M, L) Q := by
  obtain ⟨k, hk, hn⟩ := hI
  refine Cw_in rfl rfl ?_
  refine r_iconst (v := 0) (p := 1) rfl rfl rfl ?_
  refine r_istore_n (p := 2) rfl rfl rfl ?_
  refine r_iconst (v := 0) (p := 3) rfl rfl rfl ?_
  refine r_istore_n (p := 4) rfl rfl rfl ?_
  refine lp_X7_hasYoung hk hn hv hr H k 0 false (by omega) ?_
  unfold hasY flds at hQ
  rw [hn, nI_clamp (by omega)] at hQ
  rw [Bool.false_or]
  exact hQ
theorem RR.cc {s : mSt} {F : mF} {M : mM} {c c' : Int32 → Int32} (H : RR (wC s c) F M) (h : ∀ i, c i = c' i) : RR (wC s c') F M := by
  have e : c = c' := funext h
  rw [← e]; exact H
theorem RR.old2 {s : mSt} {F : mF} {M : mM} (H : RR s F M) {v : Int32} (hv : yngP s v) : RR (wC (wG s (up1 (sG s) v 2)) (up1 (sC s) v (M 39 v))) F (uM M 35 v 2) := by
  obtain ⟨c1, c2, c3, c4, c5⟩ := H
  refine ⟨fun i hi => ?_, c2, c3, fun i hi hg hp => ?_, c5⟩
  · rw [uM_at]; show _ = if i = v then 2 else sG s i; rw [c1 i hi]
  · show M 39 i = if i = v then M 39 v else sC s i
    have hg : (if i = v then 2 else sG s i) = 2 := hg
    split
    · rename_i e; rw [e]
    · rename_i e
      rw [if_neg e] at hg
      exact c4 i hi hg hp
theorem up2 {c : Int32 → Int32} {v x y : Int32} (i : Int32) : up1 (up1 c v x) v y i = up1 c v y i := by
  show (if i = v then y else if i = v then x else c i) = if i = v then y else c i
  split <;> rfl
set_option maxRecDepth 100000 in
theorem s_X7_promote {d : Nat} {Y : mY} {F : mF} {M : mM} {L : mL} {s : mSt} {v : Int32} {l : List Int32} {Q : Option Value → mW → Prop} (H : RR s F M) (hI : InvW s) (hv : yngP s v) (hV : VS l F M) (hQ : ∀ F' M', RR (prm s v) F' M' → VS l F' M' → frR F M F' M' → Q none (mXY Y, F', M', L)) : Cw (d + 2) 21 [.ref 34, .int v] (mXY Y, F, M, L) Q := by
  have hph := H.2.2.2.2.2.2.2.2.2.2.2.2.1.1
  have hq : v ∉ sQu s := fun z => absurd (hv.2.symm.trans (hI.2.2.2.2.2.2.2.1.2.1 v z).1.2) (by decide)
  have hl := len99 hI.2.2.2.2.2.2.2.1.1 (fun x hx => (hI.2.2.2.2.2.2.2.1.2.1 x hx).1.1) hv.1 hq
  have hL := H.2.2.2.2.2.2.2.2.1.1
  have H0 := H.old2 hv
  refine Cw_in rfl rfl ?_
  refine r_aload_n (p := 1) rfl rfl rfl ?_
  refine r_getR (p := 4) rfl rfl rfl rfl rfl ?_
  refine r_iload_n (p := 5) rfl rfl rfl ?_
  refine r_iconst (v := 2) (p := 6) rfl rfl rfl ?_
  refine r_iast (p := 7) rfl rfl rfl (vp100 hv.1) (by decide) rfl ?_
  refine r_aload_n (p := 8) rfl rfl rfl ?_
  refine r_getI (p := 11) rfl rfl rfl rfl ?_
  refine r_iconst (v := 1) (p := 12) rfl rfl rfl ?_
  refine r_icmp_ne (p := 15) rfl rfl (fun c1 => ?_) (fun c1 => ?_)
  · refine r_aload_n (p := 24) rfl rfl rfl ?_
    refine r_getR (p := 27) rfl rfl rfl rfl rfl ?_
    refine r_iload_n (p := 28) rfl rfl rfl ?_
    refine r_aload_n (p := 29) rfl rfl rfl ?_
    refine r_getI (p := 32) rfl rfl rfl rfl ?_
    refine r_iconst (v := 2) (p := 33) rfl rfl rfl ?_
    refine r_icmp_ne (p := 36) rfl rfl (fun c2 => ?_) (fun c2 => ?_)
    · refine r_iconst (v := 0) (p := 41) rfl rfl rfl ?_
      refine r_iast (p := 42) rfl rfl rfl (vp100 hv.1) (by decide) rfl ?_
      have n1 : ¬ sPh s = 1 := fun q => c1 (hph.trans q)
      have n2 : ¬ sPh s = 2 := fun q => c2 (hph.trans q)
      have e : prm s v = wG s (up1 (sG s) v 2) := by unfold prm; rw [if_neg n1, if_neg n2]
      rw [e] at hQ
      have p0 : sPh s = 0 := by
        rcases hI.2.2.2.2.2.2.2.2.2 with q | q | q
        · exact q
        · exact absurd q n1
        · exact absurd q n2
      refine r_return rfl ?_
      refine hQ _ _ ?_ hV ((frR.m (by omega)).tr (frR.m (by omega)))
      obtain ⟨k1, k2, k3, k4, k5⟩ := H0
      exact ⟨k1, k2, k3, fun i hi hg hp => absurd p0 hp, k5⟩
    · refine r_iconst (v := 2) (p := 37) rfl rfl rfl ?_
      refine r_goto rfl ?_
      refine r_iast (p := 42) rfl rfl rfl (vp100 hv.1) (by decide) rfl ?_
      have n1 : ¬ sPh s = 1 := fun q => c1 (hph.trans q)
      have e : prm s v = wC (wG s (up1 (sG s) v 2)) (up1 (sC s) v 2) := by unfold prm; rw [if_neg n1, if_pos (hph ▸ c2)]
      rw [e] at hQ
      refine r_return rfl ?_
      exact hQ _ _ ((H0.paint v 2).cc (s := wG s (up1 (sG s) v 2)) (up2 (v := v))) hV ((frR.m (by omega)).tr (frR.m (by omega)))
  · refine r_aload_n (p := 16) rfl rfl rfl ?_
    refine r_iload_n (p := 17) rfl rfl rfl ?_
    refine r_cV (p := 20) rfl rfl rfl (Nat.le_of_ble_eq_true rfl) rfl (Cw_in rfl rfl ?_)
    refine r_aload_n (p := 1) rfl rfl rfl ?_
    refine r_getR (p := 4) rfl rfl rfl rfl rfl ?_
    refine r_iload_n (p := 5) rfl rfl rfl ?_
    refine r_iconst (v := 1) (p := 6) rfl rfl rfl ?_
    refine r_iast (p := 7) rfl rfl rfl (vp100 hv.1) (by decide) rfl ?_
    refine r_aload_n (p := 8) rfl rfl rfl ?_
    refine r_getR (p := 11) rfl rfl rfl rfl rfl ?_
    refine r_aload_n (p := 12) rfl rfl rfl ?_
    refine r_getI (p := 15) rfl rfl rfl rfl ?_
    refine r_iload_n (p := 16) rfl rfl rfl ?_
    refine r_iast (p := 17) rfl rfl rfl (by rw [show F 34 15 = nI (sQu s).length from hL]; exact vp_in_nI hl (by omega)) (by decide) rfl ?_
    refine r_aload_n (p := 18) rfl rfl rfl ?_
    refine r_dup (p := 19) rfl rfl rfl ?_
    refine r_getI (p := 22) rfl rfl rfl rfl ?_
    refine r_iconst (v := 1) (p := 23) rfl rfl rfl ?_
    refine r_iadd (p := 24) rfl rfl ?_
    refine r_putI (p := 27) rfl rfl rfl rfl ?_
    refine r_return rfl ?_
    refine r_goto rfl ?_
    have e : prm s v = wQu (wC (wG s (up1 (sG s) v 2)) (up1 (sC s) v 1)) (sQu s ++ [v]) := if_pos (hph ▸ c1)
    rw [e] at hQ
    have H1 := ((H0.paint v 1).cc (s := wG s (up1 (sG s) v 2)) (up2 (v := v))).pushQ hl v
    refine r_return rfl ?_
    exact hQ _ _ H1 hV ((frR.m (by omega)).tr ((frR.m (by omega)).tr ((frR.m (by omega)).tr (frR.f (by omega)))))
