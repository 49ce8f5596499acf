set_option maxRecDepth 100000 in
theorem s_X7_add {d : Nat} {Y : mY} {F : mF} {M : mM} {L : mL} {h : Int64} {v : Int32} {Q : Option Value → mW → Prop} (hL : L 34 37 = h) (hQ : ∀ L', L' 34 37 = mx h v → Q none (mXY Y, F, M, L')) : Cw (d + 1) 71 [.ref 34, .int v] (mXY Y, F, M, L) Q := by
  refine Cw_in rfl rfl ?_
  refine r_aload_n (p := 1) rfl rfl rfl ?_
  refine r_ldc2 (v := 31) (p := 4) rfl rfl rfl ?_
  refine r_aload_n (p := 5) rfl rfl rfl ?_
  refine r_getL (p := 8) rfl rfl rfl rfl ?_
  refine r_lmul (p := 9) rfl rfl ?_
  refine r_iload_n (p := 10) rfl rfl rfl ?_
  refine r_i2l (p := 11) rfl rfl ?_
  refine r_ladd (p := 12) rfl rfl ?_
  refine r_putL (p := 15) rfl rfl rfl rfl ?_
  exact r_return rfl (hQ _ (by rw [← hL]; rfl))
set_option maxRecDepth 100000 in
theorem lp_X7_addObject {d : Nat} {Y : mY} {F : mF} {M : mM} {s : mSt} {i : Int32} {k : Nat} {Q : Option Value → mW → Prop} (H : RR s F M) (hv : inR i) (hk : k ≤ 4) (hn : sN s i = nI k) :
    ∀ (n j : Nat) (h : Int64) (L : mL), L 34 37 = h → j + n = k → (∀ L', L' 34 37 = ((((seqI n j).map (fun j => sR s (4 * i + j))) ++ (if sG s i = 2 ∧ ¬ sPh s = 0 then [sC s i] else [])).foldl mx h) → Q none (mXY Y, F, M, L')) → Wp (d + 1) tX7_addObject 46 [some (.ref 34), some (.int i), some (.int (nI j))] [] (mXY Y, F, M, L) Q
  | 0, j, h, L, hL, hj, hQ => by
    refine r_iload_n (p := 47) rfl rfl rfl ?_
    refine r_aload_n (p := 48) rfl rfl rfl ?_
    refine r_getR (p := 51) rfl rfl rfl rfl rfl ?_
    refine r_iload_n (p := 52) rfl rfl rfl ?_
    refine r_iald (p := 53) rfl rfl rfl (vp100 hv) rfl ?_
    rw [H.2.2.1 i hv, hn]
    refine r_icmp_ge (p := 56) rfl rfl (fun c1 => ?_) (fun c1 => ?_)
    · refine r_aload_n (p := 77) rfl rfl rfl ?_
      refine r_getR (p := 80) rfl rfl rfl rfl rfl ?_
      refine r_iload_n (p := 81) rfl rfl rfl ?_
      refine r_iald (p := 82) rfl rfl rfl (vp100 hv) rfl ?_
      rw [H.1 i hv]
      refine r_iconst (v := 2) (p := 83) rfl rfl rfl ?_
      refine r_icmp_ne (p := 86) rfl rfl (fun c2 => ?_) (fun c2 => ?_)
      · rw [if_neg (fun q => c2 q.1)] at hQ
        exact r_return rfl (hQ _ hL)
      · refine r_aload_n (p := 87) rfl rfl rfl ?_
        refine r_getI (p := 90) rfl rfl rfl rfl ?_
        rw [H.2.2.2.2.2.2.2.2.2.2.2.2.1.1]
        refine r_if_eq (p := 93) rfl rfl (fun c3 => ?_) (fun c3 => ?_)
        · rw [if_neg (fun q => q.2 c3)] at hQ
          exact r_return rfl (hQ _ hL)
        · refine r_aload_n (p := 94) rfl rfl rfl ?_
          refine r_aload_n (p := 95) rfl rfl rfl ?_
          refine r_getR (p := 98) rfl rfl rfl rfl rfl ?_
          refine r_iload_n (p := 99) rfl rfl rfl ?_
          refine r_iald (p := 100) rfl rfl rfl (vp100 hv) rfl ?_
          rw [H.2.2.2.1 i hv c2 c3]
          refine r_cV (p := 103) rfl rfl rfl (Nat.le_of_ble_eq_true rfl) rfl (s_X7_add hL (fun L1 hL => ?_))
          rw [if_pos ⟨c2, c3⟩] at hQ
          exact r_return rfl (hQ _ hL)
    · exact absurd (nI_le (a := k) (b := j) (by omega) (by omega)) c1
  | n + 1, j, h, L, hL, hj, hQ => by
    have hx := nI_x (j := j) (k := k) (by omega) (by omega) hk
    have hx4 := Int32.not_le.mp hx.2.1
    refine r_iload_n (p := 47) rfl rfl rfl ?_
    refine r_aload_n (p := 48) rfl rfl rfl ?_
    refine r_getR (p := 51) rfl rfl rfl rfl rfl ?_
    refine r_iload_n (p := 52) rfl rfl rfl ?_
    refine r_iald (p := 53) rfl rfl rfl (vp100 hv) rfl ?_
    rw [H.2.2.1 i hv, hn]
    refine r_icmp_ge (p := 56) rfl rfl (fun c1 => ?_) (fun c1 => ?_)
    · exact absurd c1 (nI_ge (a := j) (b := k) (by omega) (by omega))
    · refine r_aload_n (p := 57) rfl rfl rfl ?_
      refine r_aload_n (p := 58) rfl rfl rfl ?_
      refine r_getR (p := 61) rfl rfl rfl rfl rfl ?_
      refine r_iconst (v := 4) (p := 62) rfl rfl rfl ?_
      refine r_iload_n (p := 63) rfl rfl rfl ?_
      refine r_imul (p := 64) rfl rfl ?_
      refine r_iload_n (p := 65) rfl rfl rfl ?_
      refine r_iadd (p := 66) rfl rfl ?_
      refine r_iald (p := 67) rfl rfl rfl (vp400 hv hx.1 hx4) rfl ?_
      rw [H.2.2.2.2.1 i (nI j) hv hx.1 hx4]
      refine r_cV (p := 70) rfl rfl rfl (Nat.le_of_ble_eq_true rfl) rfl (s_X7_add hL (fun L1 hL => ?_))
      refine r_iinc (v := (nI (j + 1))) (p := 73) rfl rfl (nI_1 j) rfl rfl ?_
      refine r_goto rfl ?_
      exact lp_X7_addObject H hv hk hn n (j + 1) _ _ hL (by omega) hQ
set_option maxRecDepth 100000 in
theorem s_X7_addObject {d : Nat} {Y : mY} {F : mF} {M : mM} {L : mL} {s : mSt} {i : Int32} {h : Int64} {Q : Option Value → mW → Prop} (hL : L 34 37 = h) (H : RR s F M) (hI : Inv s) (hv : inR i) (hQ : ∀ L', L' 34 37 = (obL s i).foldl mx h → Q none (mXY Y, F, M, L')) : Cw (d + 2) 72 [.ref 34, .int i] (mXY Y, F, M, L) Q := by
  obtain ⟨k, hk, hn⟩ := hI.2.2.1 _ hv
  have e : obL s i = [i, (if sG s i = 2 then 1 else 0), sA s i, nI k] ++ (((seqI k 0).map (fun j => sR s (4 * i + j))) ++ (if sG s i = 2 ∧ ¬ sPh s = 0 then [sC s i] else [])) := by
    unfold obL flds
    rw [hn, nI_clamp (by omega), List.append_assoc]
  rw [e, List.foldl_append] at hQ
  refine Cw_in rfl rfl ?_
  refine r_aload_n (p := 1) rfl rfl rfl ?_
  refine r_iload_n (p := 2) rfl rfl rfl ?_
  refine r_cV (p := 5) rfl rfl rfl (Nat.le_of_ble_eq_true rfl) rfl (s_X7_add hL (fun L1 hL => ?_))
  refine r_aload_n (p := 6) rfl rfl rfl ?_
  refine r_aload_n (p := 7) rfl rfl rfl ?_
  refine r_getR (p := 10) rfl rfl rfl rfl rfl ?_
  refine r_iload_n (p := 11) rfl rfl rfl ?_
  refine r_iald (p := 12) rfl rfl rfl (vp100 hv) rfl ?_
  rw [H.1 i hv]
  refine r_iconst (v := 2) (p := 13) rfl rfl rfl ?_
  refine r_icmp_ne (p := 16) rfl rfl (fun c1 => ?_) (fun c1 => ?_)
  · refine r_iconst (v := 0) (p := 21) rfl rfl rfl ?_
    rw [if_neg c1] at hQ
    refine r_cV (p := 24) rfl rfl rfl (Nat.le_of_ble_eq_true rfl) rfl (s_X7_add hL (fun L1 hL => ?_))
    refine r_aload_n (p := 25) rfl rfl rfl ?_
    refine r_aload_n (p := 26) rfl rfl rfl ?_
    refine r_getR (p := 29) rfl rfl rfl rfl rfl ?_
    refine r_iload_n (p := 30) rfl rfl rfl ?_
    refine r_iald (p := 31) rfl rfl rfl (vp100 hv) rfl ?_
    rw [H.2.1 i hv]
    refine r_cV (p := 34) rfl rfl rfl (Nat.le_of_ble_eq_true rfl) rfl (s_X7_add hL (fun L1 hL => ?_))
    refine r_aload_n (p := 35) rfl rfl rfl ?_
    refine r_aload_n (p := 36) rfl rfl rfl ?_
    refine r_getR (p := 39) rfl rfl rfl rfl rfl ?_
    refine r_iload_n (p := 40) rfl rfl rfl ?_
    refine r_iald (p := 41) rfl rfl rfl (vp100 hv) rfl ?_
    rw [H.2.2.1 i hv, hn]
    refine r_cV (p := 44) rfl rfl rfl (Nat.le_of_ble_eq_true rfl) rfl (s_X7_add hL (fun L1 hL => ?_))
    refine r_iconst (v := 0) (p := 45) rfl rfl rfl ?_
    refine r_istore_n (p := 46) rfl rfl rfl ?_
    exact lp_X7_addObject H hv hk hn k 0 _ _ hL (by omega) hQ
  · refine r_iconst (v := 1) (p := 17) rfl rfl rfl ?_
    refine r_goto rfl ?_
    rw [if_pos c1] at hQ
    refine r_cV (p := 24) rfl rfl rfl (Nat.le_of_ble_eq_true rfl) rfl (s_X7_add hL (fun L1 hL => ?_))
    refine r_aload_n (p := 25) rfl rfl rfl ?_
    refine r_aload_n (p := 26) rfl rfl rfl ?_
    refine r_getR (p := 29) rfl rfl rfl rfl rfl ?_
    refine r_iload_n (p := 30) rfl rfl rfl ?_
    refine r_iald (p := 31) rfl rfl rfl (vp100 hv) rfl ?_
    rw [H.2.1 i hv]
    refine r_cV (p := 34) rfl rfl rfl (Nat.le_of_ble_eq_true rfl) rfl (s_X7_add hL (fun L1 hL => ?_))
    refine r_aload_n (p := 35) rfl rfl rfl ?_
    refine r_aload_n (p := 36) rfl rfl rfl ?_
    refine r_getR (p := 39) rfl rfl rfl rfl rfl ?_
    refine r_iload_n (p := 40) rfl rfl rfl ?_
    refine r_iald (p := 41) rfl rfl rfl (vp100 hv) rfl ?_
    rw [H.2.2.1 i hv, hn]
    refine r_cV (p := 44) rfl rfl rfl (Nat.le_of_ble_eq_true rfl) rfl (s_X7_add hL (fun L1 hL => ?_))
    refine r_iconst (v := 0) (p := 45) rfl rfl rfl ?_
    refine r_istore_n (p := 46) rfl rfl rfl ?_
    exact lp_X7_addObject H hv hk hn k 0 _ _ hL (by omega) hQ
theorem ob_dead {s : mSt} : ∀ {l : List Int32} {h : Int64}, (∀ x ∈ l, sG s x = 0) → l.foldl (ob s) h = h
  | [], _, _ => rfl
  | x :: t, h, e => by
    rw [List.foldl_cons, show ob s h x = h from if_pos (e x List.mem_cons_self)]
    exact ob_dead (fun y hy => e y (List.mem_cons_of_mem _ hy))
theorem ob_all {s : mSt} {m : Nat} (hm : m ≤ 100) (h0 : ∀ j, m ≤ j → j < 100 → sG s (nI j) = 0) {h : Int64} : (seqI 100 0).foldl (ob s) h = (seqI m 0).foldl (ob s) h := by
  have e : seqI 100 0 = seqI m 0 ++ seqI (100 - m) m := by
    have := seqI_app (a := m) (b := 100 - m) (j := 0)
    rw [show m + (100 - m) = 100 by omega, Nat.zero_add] at this
    exact this
  rw [e, List.foldl_append]
  exact ob_dead (fun x hx => by obtain ⟨k, k1, k2, rfl⟩ := seqI_mem hx; exact h0 k k1 (by omega))
set_option maxRecDepth 100000 in
theorem lp_X7_dign {d : Nat} {Y : mY} {F : mF} {M : mM} {s : mSt} {Q : Option Value → mW → Prop} (H : RR s F M) (hI : Inv s) :
    ∀ (t : List Int32) (j : Nat) (h : Int64) (L : mL), L 34 37 = h → (sNu s).drop j = t → j ≤ (sNu s).length → (∀ L' l1, L' 34 37 = t.foldl mx h → Wp (d + 4) tX7_digest 151 [some (.ref 34), some l1] [] (mXY Y, F, M, L') Q) → Wp (d + 4) tX7_digest 127 [some (.ref 34), some (.int (nI j))] [] (mXY Y, F, M, L) Q
  | [], j, h, L, hL, hj, hjl, hQ => by
    have hd : (sNu s).length ≤ j := List.drop_eq_nil_iff.mp hj
    have hl := hI.nul
    refine r_iload_n (p := 128) rfl rfl rfl ?_
    refine r_aload_n (p := 129) rfl rfl rfl ?_
    refine r_getI (p := 132) rfl rfl rfl rfl ?_
    rw [H.2.2.2.2.2.2.1.1]
    refine r_icmp_ge (p := 135) rfl rfl (fun c1 => ?_) (fun c1 => ?_)
    · exact hQ _ _ hL
    · exact absurd (nI_le hd (by omega)) c1
  | x :: t, j, h, L, hL, hj, hjl, hQ => by
    obtain ⟨hd, hx, ht⟩ := drop_c (z := 0) hj
    have hl := hI.nul
    refine r_iload_n (p := 128) rfl rfl rfl ?_
    refine r_aload_n (p := 129) rfl rfl rfl ?_
    refine r_getI (p := 132) rfl rfl rfl rfl ?_
    rw [H.2.2.2.2.2.2.1.1]
    refine r_icmp_ge (p := 135) rfl rfl (fun c1 => ?_) (fun c1 => ?_)
    · exact absurd c1 (nI_ge hd (by omega))
    · refine r_aload_n (p := 136) rfl rfl rfl ?_
      refine r_aload_n (p := 137) rfl rfl rfl ?_
      refine r_getR (p := 140) rfl rfl rfl rfl rfl ?_
      refine r_iload_n (p := 141) rfl rfl rfl ?_
      refine r_iald (p := 142) rfl rfl rfl (vp_in_nI (show j < 100 by omega) (by omega)) rfl ?_
      rw [H.2.2.2.2.2.2.1.at hj]
      refine r_cV (p := 145) rfl rfl rfl (Nat.le_of_ble_eq_true rfl) rfl (s_X7_add hL (fun L1 hL => ?_))
      refine r_iinc (v := (nI (j + 1))) (p := 148) rfl rfl (nI_1 j) rfl rfl ?_
      refine r_goto rfl ?_
      exact lp_X7_dign H hI t (j + 1) _ _ hL ht hd hQ
set_option maxRecDepth 100000 in
theorem lp_X7_digk {d : Nat} {Y : mY} {F : mF} {M : mM} {s : mSt} {Q : Option Value → mW → Prop} (H : RR s F M) (hI : Inv s) :
    ∀ (t : List Int32) (j : Nat) (h : Int64) (L : mL), L 34 37 = h → (sKn s).drop j = t → j ≤ (sKn s).length → (∀ L' l1, L' 34 37 = t.foldl mx h → Wp (d + 4) tX7_digest 211 [some (.ref 34), some l1] [] (mXY Y, F, M, L') Q) → Wp (d + 4) tX7_digest 187 [some (.ref 34), some (.int (nI j))] [] (mXY Y, F, M, L) Q
  | [], j, h, L, hL, hj, hjl, hQ => by
    have hd : (sKn s).length ≤ j := List.drop_eq_nil_iff.mp hj
    have hl := hI.knl
    refine r_iload_n (p := 188) rfl rfl rfl ?_
    refine r_aload_n (p := 189) rfl rfl rfl ?_
    refine r_getI (p := 192) rfl rfl rfl rfl ?_
    rw [H.2.2.2.2.2.2.2.1.1]
    refine r_icmp_ge (p := 195) rfl rfl (fun c1 => ?_) (fun c1 => ?_)
    · exact hQ _ _ hL
    · exact absurd (nI_le hd (by omega)) c1
  | x :: t, j, h, L, hL, hj, hjl, hQ => by
    obtain ⟨hd, hx, ht⟩ := drop_c (z := 0) hj
    have hl := hI.knl
    refine r_iload_n (p := 188) rfl rfl rfl ?_
    refine r_aload_n (p := 189) rfl rfl rfl ?_
    refine r_getI (p := 192) rfl rfl rfl rfl ?_
    rw [H.2.2.2.2.2.2.2.1.1]
    refine r_icmp_ge (p := 195) rfl rfl (fun c1 => ?_) (fun c1 => ?_)
    · exact absurd c1 (nI_ge hd (by omega))
    · refine r_aload_n (p := 196) rfl rfl rfl ?_
      refine r_aload_n (p := 197) rfl rfl rfl ?_
      refine r_getR (p := 200) rfl rfl rfl rfl rfl ?_
      refine r_iload_n (p := 201) rfl rfl rfl ?_
      refine r_iald (p := 202) rfl rfl rfl (vp_in_nI (show j < 100 by omega) (by omega)) rfl ?_
      rw [H.2.2.2.2.2.2.2.1.at hj]
      refine r_cV (p := 205) rfl rfl rfl (Nat.le_of_ble_eq_true rfl) rfl (s_X7_add hL (fun L1 hL => ?_))
      refine r_iinc (v := (nI (j + 1))) (p := 208) rfl rfl (nI_1 j) rfl rfl ?_
      refine r_goto rfl ?_
      exact lp_X7_digk H hI t (j + 1) _ _ hL ht hd hQ
set_option maxRecDepth 100000 in
theorem lp_X7_digo {d : Nat} {Y : mY} {F : mF} {M : mM} {s : mSt} {m : Nat} {Q : Option Value → mW → Prop} (H : RR s F M) (hI : Inv s) (hm : m ≤ 100) (hal : sAl s = nI m) :
    ∀ (n j : Nat) (h : Int64) (L : mL), L 34 37 = h → j + n = m → (∀ L' l1, L' 34 37 = (seqI n j).foldl (ob s) h → Wp (d + 4) tX7_digest 241 [some (.ref 34), some l1] [] (mXY Y, F, M, L') Q) → Wp (d + 4) tX7_digest 213 [some (.ref 34), some (.int (nI j))] [] (mXY Y, F, M, L) Q
  | 0, j, h, L, hL, hj, hQ => by
    refine r_iload_n (p := 214) rfl rfl rfl ?_
    refine r_aload_n (p := 215) rfl rfl rfl ?_
    refine r_getI (p := 218) rfl rfl rfl rfl ?_
    rw [H.alw, hal]
    refine r_icmp_ge (p := 221) rfl rfl (fun c1 => ?_) (fun c1 => ?_)
    · exact hQ _ _ hL
    · exact absurd (nI_le (a := m) (b := j) (by omega) (by omega)) c1
  | n + 1, j, h, L, hL, hj, hQ => by
    have hin : inR (nI j) := inR_nI (by omega)
    refine r_iload_n (p := 214) rfl rfl rfl ?_
    refine r_aload_n (p := 215) rfl rfl rfl ?_
    refine r_getI (p := 218) rfl rfl rfl rfl ?_
    rw [H.alw, hal]
    refine r_icmp_ge (p := 221) rfl rfl (fun c1 => ?_) (fun c1 => ?_)
    · exact absurd c1 (nI_ge (a := j) (b := m) (by omega) (by omega))
    · refine r_aload_n (p := 222) rfl rfl rfl ?_
      refine r_getR (p := 225) rfl rfl rfl rfl rfl ?_
      refine r_iload_n (p := 226) rfl rfl rfl ?_
      refine r_iald (p := 227) rfl rfl rfl (vp100 hin) rfl ?_
      rw [H.1 _ hin]
      refine r_if_eq (p := 230) rfl rfl (fun c2 => ?_) (fun c2 => ?_)
      · refine r_iinc (v := (nI (j + 1))) (p := 238) rfl rfl (nI_1 j) rfl rfl ?_
        refine r_goto rfl ?_
        have e : ob s h (nI j) = h := if_pos c2
        exact lp_X7_digo H hI hm hal n (j + 1) h _ hL (by omega) (fun L' l1 q => hQ L' l1 (by rw [q, seqI, List.foldl_cons, e]))
      · refine r_aload_n (p := 231) rfl rfl rfl ?_
        refine r_iload_n (p := 232) rfl rfl rfl ?_
        refine r_cV (p := 235) rfl rfl rfl (Nat.le_of_ble_eq_true rfl) rfl (s_X7_addObject hL H hI hin (fun L1 hL => ?_))
        refine r_iinc (v := (nI (j + 1))) (p := 238) rfl rfl (nI_1 j) rfl rfl ?_
        refine r_goto rfl ?_
        have e : ob s h (nI j) = (obL s (nI j)).foldl mx h := if_neg c2
        exact lp_X7_digo H hI hm hal n (j + 1) _ _ hL (by omega) (fun L' l1 q => hQ L' l1 (by rw [q, seqI, List.foldl_cons, e]))
set_option maxRecDepth 100000 in
theorem rs_digest {b : mBs} (hI : Inv b.1) : RS 5 73 [] b (.long (dgs b)) b := fun d Y F M L Q H hQ => by
  have e0 : M 45 0 = b.2.1 0 := H.2.1 0 (by omega)
  have e1 : M 45 1 = b.2.1 1 := H.2.1 1 (by omega)
  have e2 : M 45 2 = b.2.1 2 := H.2.1 2 (by omega)
  have r0 : M 40 0 = sO b.1 0 := H.1.2.2.2.2.2.1 0 (by omega)
  have r1 : M 40 1 = sO b.1 1 := H.1.2.2.2.2.2.1 1 (by omega)
  have r2 : M 40 2 = sO b.1 2 := H.1.2.2.2.2.2.1 2 (by omega)
  have r3 : M 40 3 = sO b.1 3 := H.1.2.2.2.2.2.1 3 (by omega)
  obtain ⟨m, hm, hal, h0⟩ := hI.1
  refine Cw_in rfl rfl ?_
  refine r_aload_n (p := 1) rfl rfl rfl ?_
  refine r_ldc2 (v := 18028) (p := 4) rfl rfl rfl ?_
  refine r_putL (p := 7) rfl rfl rfl rfl ?_
  have hL : (uL L 34 37 18028) 34 37 = 18028 := rfl
  refine r_iconst (v := 0) (p := 8) rfl rfl rfl ?_
  refine r_istore_n (p := 9) rfl rfl rfl ?_
  refine r_iload_n (p := 10) rfl rfl rfl ?_
  refine r_iconst (v := 3) (p := 11) rfl rfl rfl ?_
  refine r_icmp_ge (p := 14) rfl rfl (fun c => absurd c (by decide)) (fun _ => ?_)
  refine r_aload_n (p := 15) rfl rfl rfl ?_
  refine r_aload_n (p := 16) rfl rfl rfl ?_
  refine r_getR (p := 19) rfl rfl rfl rfl rfl ?_
  refine r_iload_n (p := 20) rfl rfl rfl ?_
  refine r_iald (p := 21) rfl rfl rfl (vp3 (by decide)) rfl ?_
  rw [e0]
  refine r_cV (p := 24) rfl rfl rfl (Nat.le_of_ble_eq_true rfl) rfl (s_X7_add hL (fun L1 hL => ?_))
  refine r_iinc (v := 1) (p := 27) rfl rfl rfl rfl rfl ?_
  refine r_goto rfl ?_
  refine r_iload_n (p := 10) rfl rfl rfl ?_
  refine r_iconst (v := 3) (p := 11) rfl rfl rfl ?_
  refine r_icmp_ge (p := 14) rfl rfl (fun c => absurd c (by decide)) (fun _ => ?_)
  refine r_aload_n (p := 15) rfl rfl rfl ?_
  refine r_aload_n (p := 16) rfl rfl rfl ?_
  refine r_getR (p := 19) rfl rfl rfl rfl rfl ?_
  refine r_iload_n (p := 20) rfl rfl rfl ?_
  refine r_iald (p := 21) rfl rfl rfl (vp3 (by decide)) rfl ?_
  rw [e1]
  refine r_cV (p := 24) rfl rfl rfl (Nat.le_of_ble_eq_true rfl) rfl (s_X7_add hL (fun L1 hL => ?_))
  refine r_iinc (v := 2) (p := 27) rfl rfl rfl rfl rfl ?_
  refine r_goto rfl ?_
  refine r_iload_n (p := 10) rfl rfl rfl ?_
  refine r_iconst (v := 3) (p := 11) rfl rfl rfl ?_
  refine r_icmp_ge (p := 14) rfl rfl (fun c => absurd c (by decide)) (fun _ => ?_)
  refine r_aload_n (p := 15) rfl rfl rfl ?_
  refine r_aload_n (p := 16) rfl rfl rfl ?_
  refine r_getR (p := 19) rfl rfl rfl rfl rfl ?_
  refine r_iload_n (p := 20) rfl rfl rfl ?_
  refine r_iald (p := 21) rfl rfl rfl (vp3 (by decide)) rfl ?_
  rw [e2]
  refine r_cV (p := 24) rfl rfl rfl (Nat.le_of_ble_eq_true rfl) rfl (s_X7_add hL (fun L1 hL => ?_))
  refine r_iinc (v := 3) (p := 27) rfl rfl rfl rfl rfl ?_
  refine r_goto rfl ?_
  refine r_iload_n (p := 10) rfl rfl rfl ?_
  refine r_iconst (v := 3) (p := 11) rfl rfl rfl ?_
  refine r_icmp_ge (p := 14) rfl rfl (fun _ => ?_) (fun c => absurd c (by decide))
  refine r_aload_n (p := 31) rfl rfl rfl ?_
  refine r_aload_n (p := 32) rfl rfl rfl ?_
  refine r_getI (p := 35) rfl rfl rfl rfl ?_
  rw [H.2.2.2.1.1]
  refine r_cV (p := 38) rfl rfl rfl (Nat.le_of_ble_eq_true rfl) rfl (s_X7_add hL (fun L1 hL => ?_))
  refine r_aload_n (p := 39) rfl rfl rfl ?_
  refine r_aload_n (p := 40) rfl rfl rfl ?_
  refine r_getI (p := 43) rfl rfl rfl rfl ?_
  rw [H.2.2.2.2.1]
  refine r_cV (p := 46) rfl rfl rfl (Nat.le_of_ble_eq_true rfl) rfl (s_X7_add hL (fun L1 hL => ?_))
  refine r_iconst (v := 0) (p := 47) rfl rfl rfl ?_
  refine r_istore_n (p := 48) rfl rfl rfl ?_
  refine r_iload_n (p := 49) rfl rfl rfl ?_
  refine r_iconst (v := 4) (p := 50) rfl rfl rfl ?_
  refine r_icmp_ge (p := 53) rfl rfl (fun c => absurd c (by decide)) (fun _ => ?_)
  refine r_aload_n (p := 54) rfl rfl rfl ?_
  refine r_aload_n (p := 55) rfl rfl rfl ?_
  refine r_getR (p := 58) rfl rfl rfl rfl rfl ?_
  refine r_iload_n (p := 59) rfl rfl rfl ?_
  refine r_iald (p := 60) rfl rfl rfl (vp4 (by decide) (by decide)) rfl ?_
  rw [r0]
  refine r_cV (p := 63) rfl rfl rfl (Nat.le_of_ble_eq_true rfl) rfl (s_X7_add hL (fun L1 hL => ?_))
  refine r_iinc (v := 1) (p := 66) rfl rfl rfl rfl rfl ?_
  refine r_goto rfl ?_
  refine r_iload_n (p := 49) rfl rfl rfl ?_
  refine r_iconst (v := 4) (p := 50) rfl rfl rfl ?_
  refine r_icmp_ge (p := 53) rfl rfl (fun c => absurd c (by decide)) (fun _ => ?_)
  refine r_aload_n (p := 54) rfl rfl rfl ?_
  refine r_aload_n (p := 55) rfl rfl rfl ?_
  refine r_getR (p := 58) rfl rfl rfl rfl rfl ?_
  refine r_iload_n (p := 59) rfl rfl rfl ?_
  refine r_iald (p := 60) rfl rfl rfl (vp4 (by decide) (by decide)) rfl ?_
  rw [r1]
  refine r_cV (p := 63) rfl rfl rfl (Nat.le_of_ble_eq_true rfl) rfl (s_X7_add hL (fun L1 hL => ?_))
  refine r_iinc (v := 2) (p := 66) rfl rfl rfl rfl rfl ?_
  refine r_goto rfl ?_
  refine r_iload_n (p := 49) rfl rfl rfl ?_
  refine r_iconst (v := 4) (p := 50) rfl rfl rfl ?_
  refine r_icmp_ge (p := 53) rfl rfl (fun c => absurd c (by decide)) (fun _ => ?_)
  refine r_aload_n (p := 54) rfl rfl rfl ?_
  refine r_aload_n (p := 55) rfl rfl rfl ?_
  refine r_getR (p := 58) rfl rfl rfl rfl rfl ?_
  refine r_iload_n (p := 59) rfl rfl rfl ?_
  refine r_iald (p := 60) rfl rfl rfl (vp4 (by decide) (by decide)) rfl ?_
  rw [r2]
  refine r_cV (p := 63) rfl rfl rfl (Nat.le_of_ble_eq_true rfl) rfl (s_X7_add hL (fun L1 hL => ?_))
  refine r_iinc (v := 3) (p := 66) rfl rfl rfl rfl rfl ?_
  refine r_goto rfl ?_
  refine r_iload_n (p := 49) rfl rfl rfl ?_
  refine r_iconst (v := 4) (p := 50) rfl rfl rfl ?_
  refine r_icmp_ge (p := 53) rfl rfl (fun c => absurd c (by decide)) (fun _ => ?_)
  refine r_aload_n (p := 54) rfl rfl rfl ?_
  refine r_aload_n (p := 55) rfl rfl rfl ?_
  refine r_getR (p := 58) rfl rfl rfl rfl rfl ?_
  refine r_iload_n (p := 59) rfl rfl rfl ?_
  refine r_iald (p := 60) rfl rfl rfl (vp4 (by decide) (by decide)) rfl ?_
  rw [r3]
  refine r_cV (p := 63) rfl rfl rfl (Nat.le_of_ble_eq_true rfl) rfl (s_X7_add hL (fun L1 hL => ?_))
  refine r_iinc (v := 4) (p := 66) rfl rfl rfl rfl rfl ?_
  refine r_goto rfl ?_
  refine r_iload_n (p := 49) rfl rfl rfl ?_
  refine r_iconst (v := 4) (p := 50) rfl rfl rfl ?_
  refine r_icmp_ge (p := 53) rfl rfl (fun _ => ?_) (fun c => absurd c (by decide))
  refine r_aload_n (p := 70) rfl rfl rfl ?_
  refine r_aload_n (p := 71) rfl rfl rfl ?_
  refine r_getI (p := 74) rfl rfl rfl rfl ?_
  rw [H.1.2.2.2.2.2.2.2.2.2.2.2.2.1.1]
  refine r_cV (p := 77) rfl rfl rfl (Nat.le_of_ble_eq_true rfl) rfl (s_X7_add hL (fun L1 hL => ?_))
  refine r_aload_n (p := 78) rfl rfl rfl ?_
  refine r_aload_n (p := 79) rfl rfl rfl ?_
  refine r_getI (p := 82) rfl rfl rfl rfl ?_
  rw [H.1.2.2.2.2.2.2.2.2.1.1]
  refine r_cV (p := 85) rfl rfl rfl (Nat.le_of_ble_eq_true rfl) rfl (s_X7_add hL (fun L1 hL => ?_))
  refine r_aload_n (p := 86) rfl rfl rfl ?_
  refine r_aload_n (p := 87) rfl rfl rfl ?_
  refine r_getI (p := 90) rfl rfl rfl rfl ?_
  rw [H.1.alw]
  refine r_cV (p := 93) rfl rfl rfl (Nat.le_of_ble_eq_true rfl) rfl (s_X7_add hL (fun L1 hL => ?_))
  refine r_aload_n (p := 94) rfl rfl rfl ?_
  refine r_aload_n (p := 95) rfl rfl rfl ?_
  refine r_getI (p := 98) rfl rfl rfl rfl ?_
  rw [H.1.2.2.2.2.2.2.2.2.2.2.2.2.2.1]
  refine r_cV (p := 101) rfl rfl rfl (Nat.le_of_ble_eq_true rfl) rfl (s_X7_add hL (fun L1 hL => ?_))
  refine r_aload_n (p := 102) rfl rfl rfl ?_
  refine r_aload_n (p := 103) rfl rfl rfl ?_
  refine r_getI (p := 106) rfl rfl rfl rfl ?_
  rw [H.1.2.2.2.2.2.2.2.2.2.2.2.2.2.2]
  refine r_cV (p := 109) rfl rfl rfl (Nat.le_of_ble_eq_true rfl) rfl (s_X7_add hL (fun L1 hL => ?_))
  refine r_aload_n (p := 110) rfl rfl rfl ?_
  refine r_aload_n (p := 111) rfl rfl rfl ?_
  refine r_getI (p := 114) rfl rfl rfl rfl ?_
  rw [H.1.2.2.2.2.2.2.2.2.2.2.2.2.1.2]
  refine r_cV (p := 117) rfl rfl rfl (Nat.le_of_ble_eq_true rfl) rfl (s_X7_add hL (fun L1 hL => ?_))
  refine r_aload_n (p := 118) rfl rfl rfl ?_
  refine r_aload_n (p := 119) rfl rfl rfl ?_
  refine r_getI (p := 122) rfl rfl rfl rfl ?_
  rw [H.1.2.2.2.2.2.2.1.1]
  refine r_cV (p := 125) rfl rfl rfl (Nat.le_of_ble_eq_true rfl) rfl (s_X7_add hL (fun L1 hL => ?_))
  refine r_iconst (v := 0) (p := 126) rfl rfl rfl ?_
  refine r_istore_n (p := 127) rfl rfl rfl ?_
  refine lp_X7_dign H.1 hI (sNu b.1) 0 _ _ hL rfl (Nat.zero_le _) (fun L2 l2 hL => ?_)
  refine r_aload_n (p := 152) rfl rfl rfl ?_
  refine r_aload_n (p := 153) rfl rfl rfl ?_
  refine r_iconst (v := 1) (p := 154) rfl rfl rfl ?_
  refine r_cV (p := 157) rfl rfl rfl (Nat.le_of_ble_eq_true rfl) rfl (s_X7_words H.1 hI.1 (by decide) ?_)
  refine r_cV (p := 160) rfl rfl rfl (Nat.le_of_ble_eq_true rfl) rfl (s_X7_add hL (fun L1 hL => ?_))
  refine r_aload_n (p := 161) rfl rfl rfl ?_
  refine r_aload_n (p := 162) rfl rfl rfl ?_
  refine r_cV (p := 165) rfl rfl rfl (Nat.le_of_ble_eq_true rfl) rfl (s_X7_oldCount H.1 hI.1 ?_)
  refine r_cV (p := 168) rfl rfl rfl (Nat.le_of_ble_eq_true rfl) rfl (s_X7_add hL (fun L1 hL => ?_))
  refine r_aload_n (p := 169) rfl rfl rfl ?_
  refine r_aload_n (p := 170) rfl rfl rfl ?_
  refine r_iconst (v := 2) (p := 171) rfl rfl rfl ?_
  refine r_cV (p := 174) rfl rfl rfl (Nat.le_of_ble_eq_true rfl) rfl (s_X7_words H.1 hI.1 (by decide) ?_)
  refine r_cV (p := 177) rfl rfl rfl (Nat.le_of_ble_eq_true rfl) rfl (s_X7_add hL (fun L1 hL => ?_))
  refine r_aload_n (p := 178) rfl rfl rfl ?_
  refine r_aload_n (p := 179) rfl rfl rfl ?_
  refine r_getI (p := 182) rfl rfl rfl rfl ?_
  rw [H.1.2.2.2.2.2.2.2.1.1]
  refine r_cV (p := 185) rfl rfl rfl (Nat.le_of_ble_eq_true rfl) rfl (s_X7_add hL (fun L1 hL => ?_))
  refine r_iconst (v := 0) (p := 186) rfl rfl rfl ?_
  refine r_istore_n (p := 187) rfl rfl rfl ?_
  refine lp_X7_digk H.1 hI (sKn b.1) 0 _ _ hL rfl (Nat.zero_le _) (fun L3 l3 hL => ?_)
  refine r_iconst (v := 0) (p := 212) rfl rfl rfl ?_
  refine r_istore_n (p := 213) rfl rfl rfl ?_
  refine lp_X7_digo H.1 hI hm hal m 0 _ _ hL (by omega) (fun L4 l4 hL => ?_)
  rw [← ob_all hm h0] at hL
  refine r_aload_n (p := 242) rfl rfl rfl ?_
  refine r_aload_n (p := 243) rfl rfl rfl ?_
  refine r_cV (p := 246) rfl rfl rfl (Nat.le_of_ble_eq_true rfl) rfl (s_X7_reachableCount H.1 hI (fun M9 R9 f9 => ?_))
  refine r_cV (p := 249) rfl rfl rfl (Nat.le_of_ble_eq_true rfl) rfl (s_X7_add hL (fun L1 hL => ?_))
  refine r_aload_n (p := 250) rfl rfl rfl ?_
  refine r_getL (p := 253) rfl rfl rfl rfl ?_
  rw [hL]
  exact r_lreturn rfl (hQ _ _ _ (H.hp R9 f9) f9.r)
