theorem sumL_app {h : Int32 → Int32} : ∀ {a b : List Int32}, sumL h (a ++ b) = sumL h a + sumL h b
  | [], b => (Int32.zero_add _).symm
  | x :: a, b => by
    show h x + sumL h (a ++ b) = h x + sumL h a + sumL h b
    rw [sumL_app, Int32.add_assoc]
theorem sumL_m {h : Int32 → Int32} {m : Nat} (hm : m ≤ 100) (h0 : ∀ j, m ≤ j → j < 100 → h (nI j) = 0) : sumL h (seqI m 0) = sumL h (seqI 100 0) := by
  have e : seqI 100 0 = seqI m 0 ++ seqI (100 - m) m := by
    have := seqI_app m (100 - m) 0
    rw [show m + (100 - m) = 100 by omega, Nat.zero_add] at this
    exact this
  rw [e, sumL_app, sumL_0 (l := seqI (100 - m) m) (fun x hx => ?_), Int32.add_zero]
  obtain ⟨q, h1, h2, rfl⟩ := seqI_mem hx
  exact h0 q h1 (by omega)
set_option maxRecDepth 100000 in
theorem lp_X7_words {d : Nat} {Y : mY} {L : mL} {F : mF} {M : mM} {s : mSt} {m : Nat} {k : Int32} {Q : Option Value → mW → Prop} (H : RR s F M) (hm : m ≤ 100) (hal : sAl s = nI m) :
    ∀ (n j : Nat) (x : Int32), j + n = m → Q (some (.int (x + sumL (fun i => if sG s i = k then 1 + sN s i else 0) (seqI n j)))) (mXY Y, F, M, L) → Wp d tX7_words 4 [some (.ref 34), some (.int k), some (.int x), some (.int (nI j))] [] (mXY Y, F, M, L) Q
  | 0, j, x, hj, hQ => by
    refine r_iload_n (p := 5) rfl rfl rfl ?_
    refine r_aload_n (p := 6) rfl rfl rfl ?_
    refine r_getI (p := 9) rfl rfl rfl rfl ?_
    rw [H.alw, hal]
    refine r_icmp_ge (p := 12) rfl rfl (fun c1 => ?_) (fun c1 => ?_)
    · refine r_iload_n (p := 44) rfl rfl rfl ?_
      refine r_ireturn rfl trivial ?_
      exact ret_eq (Int32.add_zero _) hQ
    · exact absurd (nI_le (a := m) (b := j) (by omega) (by omega)) c1
  | n + 1, j, x, hj, hQ => by
    have hi : inR (nI j) := inR_nI (by omega)
    have hQ : Q (some (.int (x + ((if sG s (nI j) = k then 1 + sN s (nI j) else 0) + sumL (fun i => if sG s i = k then 1 + sN s i else 0) (seqI n (j + 1)))))) (mXY Y, F, M, L) := hQ
    rw [← Int32.add_assoc] at hQ
    refine r_iload_n (p := 5) rfl rfl rfl ?_
    refine r_aload_n (p := 6) rfl rfl rfl ?_
    refine r_getI (p := 9) rfl rfl rfl rfl ?_
    rw [H.alw, hal]
    refine r_icmp_ge (p := 12) rfl rfl (fun c1 => ?_) (fun c1 => ?_)
    · refine r_iload_n (p := 44) rfl rfl rfl ?_
      exact absurd c1 (nI_ge (a := j) (b := m) (by omega) (by omega))
    · refine r_iload_n (p := 13) rfl rfl rfl ?_
      refine r_aload_n (p := 14) rfl rfl rfl ?_
      refine r_getR (p := 17) rfl rfl rfl rfl rfl ?_
      refine r_iload_n (p := 18) rfl rfl rfl ?_
      refine r_iald (p := 19) rfl rfl rfl (vp100 hi) rfl ?_
      rw [H.1 _ hi]
      refine r_iload_n (p := 20) rfl rfl rfl ?_
      refine r_icmp_ne (p := 23) rfl rfl (fun c2 => ?_) (fun c2 => ?_)
      · refine r_iconst (v := 0) (p := 35) rfl rfl rfl ?_
        refine r_iadd (p := 36) rfl rfl ?_
        refine r_istore_n (p := 37) rfl rfl rfl ?_
        refine r_iinc (v := (nI (j + 1))) (p := 40) rfl rfl (nI_1 j) rfl rfl ?_
        refine r_goto rfl ?_
        rw [if_neg c2] at hQ
        exact lp_X7_words H hm hal n (j + 1) _ (by omega) hQ
      · refine r_iconst (v := 1) (p := 24) rfl rfl rfl ?_
        refine r_aload_n (p := 25) rfl rfl rfl ?_
        refine r_getR (p := 28) rfl rfl rfl rfl rfl ?_
        refine r_iload_n (p := 29) rfl rfl rfl ?_
        refine r_iald (p := 30) rfl rfl rfl (vp100 hi) rfl ?_
        rw [H.2.2.1 _ hi]
        refine r_iadd (p := 31) rfl rfl ?_
        refine r_goto rfl ?_
        refine r_iadd (p := 36) rfl rfl ?_
        refine r_istore_n (p := 37) rfl rfl rfl ?_
        refine r_iinc (v := (nI (j + 1))) (p := 40) rfl rfl (nI_1 j) rfl rfl ?_
        refine r_goto rfl ?_
        rw [if_pos c2] at hQ
        exact lp_X7_words H hm hal n (j + 1) _ (by omega) hQ
set_option maxRecDepth 100000 in
theorem s_X7_words {d : Nat} {Y : mY} {F : mF} {M : mM} {L : mL} {s : mSt} {k : Int32} {Q : Option Value → mW → Prop} (H : RR s F M) (hI : ∃ n, n ≤ 100 ∧ sAl s = nI n ∧ ∀ j, n ≤ j → j < 100 → sG s (nI j) = 0) (hk : ¬ k = 0) (hQ : Q (some (.int (wds (sG s) (sN s) k))) (mXY Y, F, M, L)) : Cw (d + 1) 8 [.ref 34, .int k] (mXY Y, F, M, L) Q := by
  obtain ⟨m, hm, hal, hg⟩ := hI
  refine Cw_in rfl rfl ?_
  refine r_iconst (v := 0) (p := 1) rfl rfl rfl ?_
  refine r_istore_n (p := 2) rfl rfl rfl ?_
  refine r_iconst (v := 0) (p := 3) rfl rfl rfl ?_
  refine r_istore_n (p := 4) rfl rfl rfl ?_
  refine lp_X7_words H hm hal m 0 0 (by omega) (ret_eq ?_ hQ)
  rw [Int32.zero_add, sumL_m hm (fun j h1 h2 => if_neg (by rw [hg j h1 h2]; exact fun q => hk q.symm))]
  rfl
set_option maxRecDepth 100000 in
theorem lp_X7_oldCount {d : Nat} {Y : mY} {L : mL} {F : mF} {M : mM} {s : mSt} {m : Nat} {Q : Option Value → mW → Prop} (H : RR s F M) (hm : m ≤ 100) (hal : sAl s = nI m) :
    ∀ (n j : Nat) (x : Int32), j + n = m → Q (some (.int (x + sumL (fun i => if sG s i = 2 then 1 else 0) (seqI n j)))) (mXY Y, F, M, L) → Wp d tX7_oldCount 4 [some (.ref 34), some (.int x), some (.int (nI j))] [] (mXY Y, F, M, L) Q
  | 0, j, x, hj, hQ => by
    refine r_iload_n (p := 5) rfl rfl rfl ?_
    refine r_aload_n (p := 6) rfl rfl rfl ?_
    refine r_getI (p := 9) rfl rfl rfl rfl ?_
    rw [H.alw, hal]
    refine r_icmp_ge (p := 12) rfl rfl (fun c1 => ?_) (fun c1 => ?_)
    · refine r_iload_n (p := 37) rfl rfl rfl ?_
      refine r_ireturn rfl trivial ?_
      exact ret_eq (Int32.add_zero _) hQ
    · exact absurd (nI_le (a := m) (b := j) (by omega) (by omega)) c1
  | n + 1, j, x, hj, hQ => by
    have hi : inR (nI j) := inR_nI (by omega)
    have hQ : Q (some (.int (x + ((if sG s (nI j) = 2 then 1 else 0) + sumL (fun i => if sG s i = 2 then 1 else 0) (seqI n (j + 1)))))) (mXY Y, F, M, L) := hQ
    rw [← Int32.add_assoc] at hQ
    refine r_iload_n (p := 5) rfl rfl rfl ?_
    refine r_aload_n (p := 6) rfl rfl rfl ?_
    refine r_getI (p := 9) rfl rfl rfl rfl ?_
    rw [H.alw, hal]
    refine r_icmp_ge (p := 12) rfl rfl (fun c1 => ?_) (fun c1 => ?_)
    · refine r_iload_n (p := 37) rfl rfl rfl ?_
      exact absurd c1 (nI_ge (a := j) (b := m) (by omega) (by omega))
    · refine r_iload_n (p := 13) rfl rfl rfl ?_
      refine r_aload_n (p := 14) rfl rfl rfl ?_
      refine r_getR (p := 17) rfl rfl rfl rfl rfl ?_
      refine r_iload_n (p := 18) rfl rfl rfl ?_
      refine r_iald (p := 19) rfl rfl rfl (vp100 hi) rfl ?_
      rw [H.1 _ hi]
      refine r_iconst (v := 2) (p := 20) rfl rfl rfl ?_
      refine r_icmp_ne (p := 23) rfl rfl (fun c2 => ?_) (fun c2 => ?_)
      · refine r_iconst (v := 0) (p := 28) rfl rfl rfl ?_
        refine r_iadd (p := 29) rfl rfl ?_
        refine r_istore_n (p := 30) rfl rfl rfl ?_
        refine r_iinc (v := (nI (j + 1))) (p := 33) rfl rfl (nI_1 j) rfl rfl ?_
        refine r_goto rfl ?_
        rw [if_neg c2] at hQ
        exact lp_X7_oldCount H hm hal n (j + 1) _ (by omega) hQ
      · refine r_iconst (v := 1) (p := 24) rfl rfl rfl ?_
        refine r_goto rfl ?_
        refine r_iadd (p := 29) rfl rfl ?_
        refine r_istore_n (p := 30) rfl rfl rfl ?_
        refine r_iinc (v := (nI (j + 1))) (p := 33) rfl rfl (nI_1 j) rfl rfl ?_
        refine r_goto rfl ?_
        rw [if_pos c2] at hQ
        exact lp_X7_oldCount H hm hal n (j + 1) _ (by omega) hQ
set_option maxRecDepth 100000 in
theorem s_X7_oldCount {d : Nat} {Y : mY} {F : mF} {M : mM} {L : mL} {s : mSt} {Q : Option Value → mW → Prop} (H : RR s F M) (hI : ∃ n, n ≤ 100 ∧ sAl s = nI n ∧ ∀ j, n ≤ j → j < 100 → sG s (nI j) = 0) (hQ : Q (some (.int (cnt (sG s) 2))) (mXY Y, F, M, L)) : Cw (d + 1) 44 [.ref 34] (mXY Y, F, M, L) Q := by
  obtain ⟨m, hm, hal, hg⟩ := hI
  refine Cw_in rfl rfl ?_
  refine r_iconst (v := 0) (p := 1) rfl rfl rfl ?_
  refine r_istore_n (p := 2) rfl rfl rfl ?_
  refine r_iconst (v := 0) (p := 3) rfl rfl rfl ?_
  refine r_istore_n (p := 4) rfl rfl rfl ?_
  refine lp_X7_oldCount H hm hal m 0 0 (by omega) (ret_eq ?_ hQ)
  rw [Int32.zero_add, sumL_m hm (fun j h1 h2 => if_neg (by rw [hg j h1 h2]; decide))]
  rfl
set_option maxRecDepth 100000 in
theorem lp_X7_thereAre {d : Nat} {Y : mY} {L : mL} {F : mF} {M : mM} {s : mSt} {m : Nat} {Q : Option Value → mW → Prop} (H : RR s F M) (hm : m ≤ 100) (hal : sAl s = nI m) :
    ∀ (n j : Nat) (x : Int32), j + n = m → Q (some (.int (x + sumL (fun i => if sG s i = 0 then 0 else 1) (seqI n j)))) (mXY Y, F, M, L) → Wp d tX7_thereAre 4 [some (.ref 34), some (.int x), some (.int (nI j))] [] (mXY Y, F, M, L) Q
  | 0, j, x, hj, hQ => by
    refine r_iload_n (p := 5) rfl rfl rfl ?_
    refine r_aload_n (p := 6) rfl rfl rfl ?_
    refine r_getI (p := 9) rfl rfl rfl rfl ?_
    rw [H.alw, hal]
    refine r_icmp_ge (p := 12) rfl rfl (fun c1 => ?_) (fun c1 => ?_)
    · refine r_iload_n (p := 36) rfl rfl rfl ?_
      refine r_ireturn rfl trivial ?_
      exact ret_eq (Int32.add_zero _) hQ
    · exact absurd (nI_le (a := m) (b := j) (by omega) (by omega)) c1
  | n + 1, j, x, hj, hQ => by
    have hi : inR (nI j) := inR_nI (by omega)
    have hQ : Q (some (.int (x + ((if sG s (nI j) = 0 then 0 else 1) + sumL (fun i => if sG s i = 0 then 0 else 1) (seqI n (j + 1)))))) (mXY Y, F, M, L) := hQ
    rw [← Int32.add_assoc] at hQ
    refine r_iload_n (p := 5) rfl rfl rfl ?_
    refine r_aload_n (p := 6) rfl rfl rfl ?_
    refine r_getI (p := 9) rfl rfl rfl rfl ?_
    rw [H.alw, hal]
    refine r_icmp_ge (p := 12) rfl rfl (fun c1 => ?_) (fun c1 => ?_)
    · refine r_iload_n (p := 36) rfl rfl rfl ?_
      exact absurd c1 (nI_ge (a := j) (b := m) (by omega) (by omega))
    · refine r_iload_n (p := 13) rfl rfl rfl ?_
      refine r_aload_n (p := 14) rfl rfl rfl ?_
      refine r_getR (p := 17) rfl rfl rfl rfl rfl ?_
      refine r_iload_n (p := 18) rfl rfl rfl ?_
      refine r_iald (p := 19) rfl rfl rfl (vp100 hi) rfl ?_
      rw [H.1 _ hi]
      refine r_if_ne (p := 22) rfl rfl (fun c2 => ?_) (fun c2 => ?_)
      · refine r_iconst (v := 1) (p := 27) rfl rfl rfl ?_
        refine r_iadd (p := 28) rfl rfl ?_
        refine r_istore_n (p := 29) rfl rfl rfl ?_
        refine r_iinc (v := (nI (j + 1))) (p := 32) rfl rfl (nI_1 j) rfl rfl ?_
        refine r_goto rfl ?_
        rw [if_neg c2] at hQ
        exact lp_X7_thereAre H hm hal n (j + 1) _ (by omega) hQ
      · refine r_iconst (v := 0) (p := 23) rfl rfl rfl ?_
        refine r_goto rfl ?_
        refine r_iadd (p := 28) rfl rfl ?_
        refine r_istore_n (p := 29) rfl rfl rfl ?_
        refine r_iinc (v := (nI (j + 1))) (p := 32) rfl rfl (nI_1 j) rfl rfl ?_
        refine r_goto rfl ?_
        rw [if_pos c2] at hQ
        exact lp_X7_thereAre H hm hal n (j + 1) _ (by omega) hQ
set_option maxRecDepth 100000 in
theorem s_X7_thereAre {d : Nat} {Y : mY} {F : mF} {M : mM} {L : mL} {s : mSt} {Q : Option Value → mW → Prop} (H : RR s F M) (hI : ∃ n, n ≤ 100 ∧ sAl s = nI n ∧ ∀ j, n ≤ j → j < 100 → sG s (nI j) = 0) (hQ : Q (some (.int (sumL (fun i => if sG s i = 0 then 0 else 1) (seqI 100 0)))) (mXY Y, F, M, L)) : Cw (d + 1) 9 [.ref 34] (mXY Y, F, M, L) Q := by
  obtain ⟨m, hm, hal, hg⟩ := hI
  refine Cw_in rfl rfl ?_
  refine r_iconst (v := 0) (p := 1) rfl rfl rfl ?_
  refine r_istore_n (p := 2) rfl rfl rfl ?_
  refine r_iconst (v := 0) (p := 3) rfl rfl rfl ?_
  refine r_istore_n (p := 4) rfl rfl rfl ?_
  refine lp_X7_thereAre H hm hal m 0 0 (by omega) (ret_eq ?_ hQ)
  rw [Int32.zero_add, sumL_m hm (fun j h1 h2 => if_pos (hg j h1 h2))]
