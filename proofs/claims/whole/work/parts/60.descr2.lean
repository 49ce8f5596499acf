/-! ===== describe of the reference ===== -/
def fO (F : mF) (M : mM) (F' : mF) (M' : mM) : Prop := (∀ a k, a ≠ 34 ∨ k ≠ 27 → F' a k = F a k) ∧ ∀ a i, a ≠ 47 → M' a i = M a i
theorem fO.rf {F : mF} {M : mM} : fO F M F M := ⟨fun _ _ _ => rfl, fun _ _ _ => rfl⟩
theorem fO.tr {F F1 F2 : mF} {M M1 M2 : mM} (a : fO F M F1 M1) (b : fO F1 M1 F2 M2) : fO F M F2 M2 := ⟨fun x k h => (b.1 x k h).trans (a.1 x k h), fun x k h => (b.2 x k h).trans (a.2 x k h)⟩
theorem RR.fo {s : mSt} {F F' : mF} {M M' : mM} (H : RR s F M) (f : fO F M F' M') : RR s F' M' := H.fr (fun k hk => f.1 34 k (Or.inr (by omega))) (fun a i _ _ => f.2 a i (by omega))
theorem nI_div {a b : Nat} (ha : a < 2 ^ 31) (hb : b < 2 ^ 31) : nI a / nI b = nI (a / b) := by
  have h : a / b < 2 ^ 31 := Nat.lt_of_le_of_lt (Nat.div_le_self _ _) ha
  refine Int32.toInt_inj.mp ?_
  rw [Int32.toInt_div, nI_toInt ha, nI_toInt hb, nI_toInt h, Int.tdiv_eq_ediv_of_nonneg (by omega), ← Int.natCast_ediv]
  generalize a / b = q at h ⊢
  exact Int.bmod_eq_of_le (by omega) (by omega)
theorem nI_rem {a : Nat} (ha : a < 2 ^ 31) : nI a - nI a / 10 * 10 = nI (a % 10) := by
  rw [show (10 : Int32) = nI 10 from rfl, nI_div ha (by omega)]
  have e2 : nI (a / 10) * nI 10 = nI (a / 10 * 10) := by simp [nI]
  rw [e2, nI_sub (by omega)]
  congr 1
  omega
def dU (m : Nat) : Nat → List Int32
  | 0 => [dd m 1]
  | e + 1 => dd m (10 ^ (e + 1)) :: dU m e
theorem dU_dgn {m e : Nat} (h : e ≤ 4) (h1 : e = 0 ∨ 10 ^ e ≤ m) (h2 : m < 10 ^ (e + 1)) : dU m e = dgn m := by
  unfold dgn
  rcases (show e = 0 ∨ e = 1 ∨ e = 2 ∨ e = 3 ∨ e = 4 by omega) with q | q | q | q | q
  · subst q
    rw [if_pos (by omega)]; rfl
  · subst q
    have h1 : 10 ≤ m := by omega
    rw [if_neg (by omega), if_pos (by omega)]; rfl
  · subst q
    have h1 : 100 ≤ m := by omega
    rw [if_neg (by omega), if_neg (by omega), if_pos (by omega)]; rfl
  · subst q
    have h1 : 1000 ≤ m := by omega
    rw [if_neg (by omega), if_neg (by omega), if_neg (by omega), if_pos (by omega)]; rfl
  · subst q
    have h1 : 10000 ≤ m := by omega
    rw [if_neg (by omega), if_neg (by omega), if_neg (by omega), if_neg (by omega)]; rfl
theorem p10 {e : Nat} (h : e ≤ 5) : 10 ^ e ≤ 100000 ∧ 0 < 10 ^ e := by
  rcases (show e = 0 ∨ e = 1 ∨ e = 2 ∨ e = 3 ∨ e = 4 ∨ e = 5 by omega) with q | q | q | q | q | q <;> subst q <;> exact ⟨by decide, by decide⟩
theorem dU_len {m : Nat} : ∀ {e : Nat}, (dU m e).length = e + 1
  | 0 => rfl
  | e + 1 => by show (dU m e).length + 1 = _; rw [dU_len]
set_option maxRecDepth 100000 in
theorem s_X7_put {d : Nat} {Y : mY} {F : mF} {M : mM} {L : mL} {l : List Int32} {c : Int32} {Q : Option Value → mW → Prop} (H : LL (F 34 27) (M 47) l) (hl : l.length < 64) (hc : byt c) (hQ : ∀ F' M', LL (F' 34 27) (M' 47) (l ++ [c]) → fO F M F' M' → Q none (mXY Y, F', M', L)) : Cw (d + 1) 52 [.ref 34, .int c] (mXY Y, F, M, L) Q := by
  refine Cw_in rfl rfl ?_
  refine r_aload_n (p := 1) rfl rfl rfl ?_
  refine r_getR (p := 4) rfl rfl rfl rfl rfl ?_
  refine r_aload_n (p := 5) rfl rfl rfl ?_
  refine r_getI (p := 8) rfl rfl rfl rfl ?_
  refine r_iload_n (p := 9) rfl rfl rfl ?_
  refine r_i2b (p := 10) rfl rfl ?_
  rw [(i8_ok (fun q => q.elim hc.1 hc.2)).1]
  refine r_bast (v := c) (p := 11) rfl rfl rfl (by rw [H.1]; exact vp_in_nI hl (by omega)) (by decide) hc.n rfl ?_
  refine r_aload_n (p := 12) rfl rfl rfl ?_
  refine r_dup (p := 13) rfl rfl rfl ?_
  refine r_getI (p := 16) rfl rfl rfl rfl ?_
  refine r_iconst (v := 1) (p := 17) rfl rfl rfl ?_
  refine r_iadd (p := 18) rfl rfl ?_
  refine r_putI (p := 21) rfl rfl rfl rfl ?_
  refine r_return rfl ?_
  exact hQ _ _ (H.app (by omega) c) ⟨fun a k ha => by
    by_cases e : a = 34
    · exact uF_nk (by omega)
    · exact uF_ne e, fun a i ha => uM_ne ha⟩
set_option maxRecDepth 100000 in
theorem lp_X7_num2 {d : Nat} {Y : mY} {L : mL} {m : Nat} {Q : Option Value → mW → Prop} (hm : m < 100000) :
    ∀ (e : Nat) (l : List Int32) (F : mF) (M : mM), e ≤ 4 → LL (F 34 27) (M 47) l → l.length + e < 64 → (∀ F' M', LL (F' 34 27) (M' 47) (l ++ dU m e) → fO F M F' M' → Q none (mXY Y, F', M', L)) → Wp (d + 1) tX7_putNumber 18 [some (.ref 34), some (.int (nI m)), some (.int (nI (10 ^ e)))] [] (mXY Y, F, M, L) Q
  | 0, l, F, M, he, H, hl, hQ => by
    have hp := p10 (e := 0) (by omega)
    refine r_iload_n (p := 19) rfl rfl rfl ?_
    refine r_if_le (p := 22) rfl rfl (fun c1 => ?_) (fun c1 => ?_)
    · exact absurd c1 (Int32.not_le.mpr ((nI_ltI (a := 0) (by omega) (by omega)).mpr (by omega)))
    · refine r_aload_n (p := 23) rfl rfl rfl ?_
      refine r_bipush (v := 48) (p := 25) rfl rfl rfl ?_
      refine r_iload_n (p := 26) rfl rfl rfl ?_
      refine r_iload_n (p := 27) rfl rfl rfl ?_
      refine r_idiv (p := 28) rfl (show ¬ nI (10 ^ 0) = 0 from fun q => by have := nI_inj (b := 0) (by omega) (by omega) q; omega) rfl ?_
      rw [nI_div (by omega) (by omega)]
      refine r_bipush (v := 10) (p := 30) rfl rfl rfl ?_
      refine r_irem (p := 31) rfl (by decide) rfl ?_
      rw [nI_rem (Nat.lt_of_le_of_lt (Nat.div_le_self _ _) (by omega))]
      refine r_iadd (p := 32) rfl rfl ?_
      have hdd : 48 + nI (m / 10 ^ 0 % 10) = dd m (10 ^ 0) := by unfold dd; exact nI_add 48 _
      rw [hdd]
      refine r_cV (p := 35) rfl rfl rfl (Nat.le_of_ble_eq_true rfl) rfl (s_X7_put H (by omega) dd_b (fun F1 M1 R1 f1 => ?_))
      rw [show dd m (10 ^ 0) = dd m 1 from rfl] at R1
      refine r_iload_n (p := 36) rfl rfl rfl ?_
      refine r_bipush (v := 10) (p := 38) rfl rfl rfl ?_
      refine r_idiv (p := 39) rfl (by decide) rfl ?_
      refine r_istore_n (p := 40) rfl rfl rfl ?_
      refine r_goto rfl ?_
      rw [show nI (10 ^ 0) / 10 = 0 from by decide]
      refine r_iload_n (p := 19) rfl rfl rfl ?_
      refine r_if_le (p := 22) rfl rfl (fun _ => ?_) (fun c => absurd c (by decide))
      exact r_return rfl (hQ _ _ R1 f1)
  | e + 1, l, F, M, he, H, hl, hQ => by
    have hp := p10 (e := (e + 1)) (by omega)
    refine r_iload_n (p := 19) rfl rfl rfl ?_
    refine r_if_le (p := 22) rfl rfl (fun c1 => ?_) (fun c1 => ?_)
    · exact absurd c1 (Int32.not_le.mpr ((nI_ltI (a := 0) (by omega) (by omega)).mpr (by omega)))
    · refine r_aload_n (p := 23) rfl rfl rfl ?_
      refine r_bipush (v := 48) (p := 25) rfl rfl rfl ?_
      refine r_iload_n (p := 26) rfl rfl rfl ?_
      refine r_iload_n (p := 27) rfl rfl rfl ?_
      refine r_idiv (p := 28) rfl (show ¬ nI (10 ^ (e + 1)) = 0 from fun q => by have := nI_inj (b := 0) (by omega) (by omega) q; omega) rfl ?_
      rw [nI_div (by omega) (by omega)]
      refine r_bipush (v := 10) (p := 30) rfl rfl rfl ?_
      refine r_irem (p := 31) rfl (by decide) rfl ?_
      rw [nI_rem (Nat.lt_of_le_of_lt (Nat.div_le_self _ _) (by omega))]
      refine r_iadd (p := 32) rfl rfl ?_
      have hdd : 48 + nI (m / 10 ^ (e + 1) % 10) = dd m (10 ^ (e + 1)) := by unfold dd; exact nI_add 48 _
      rw [hdd]
      refine r_cV (p := 35) rfl rfl rfl (Nat.le_of_ble_eq_true rfl) rfl (s_X7_put H (by omega) dd_b (fun F1 M1 R1 f1 => ?_))
      refine r_iload_n (p := 36) rfl rfl rfl ?_
      refine r_bipush (v := 10) (p := 38) rfl rfl rfl ?_
      refine r_idiv (p := 39) rfl (by decide) rfl ?_
      refine r_istore_n (p := 40) rfl rfl rfl ?_
      refine r_goto rfl ?_
      rw [show nI (10 ^ (e + 1)) / 10 = nI (10 ^ e) from by rw [show (10 : Int32) = nI 10 from rfl, nI_div (by omega) (by omega), Nat.pow_succ, Nat.mul_div_cancel _ (by omega)]]
      exact lp_X7_num2 hm e _ F1 M1 (by omega) R1 (by simp only [List.length_append, List.length_singleton]; omega) (fun F' M' R f => hQ F' M' (by rw [List.append_assoc] at R; exact R) (f1.tr f))
set_option maxRecDepth 100000 in
theorem lp_X7_num1 {d : Nat} {Y : mY} {F : mF} {M : mM} {L : mL} {m : Nat} {Q : Option Value → mW → Prop} (hm : m < 100000) (hQ : ∀ e, e ≤ 4 → (e = 0 ∨ 10 ^ e ≤ m) → m < 10 ^ (e + 1) → Wp (d + 1) tX7_putNumber 18 [some (.ref 34), some (.int (nI m)), some (.int (nI (10 ^ e)))] [] (mXY Y, F, M, L) Q) :
    ∀ (n e : Nat), e + n = 5 → (e = 0 ∨ 10 ^ e ≤ m) → Wp (d + 1) tX7_putNumber 2 [some (.ref 34), some (.int (nI m)), some (.int (nI (10 ^ e)))] [] (mXY Y, F, M, L) Q
  | 0, e, hj, h1 => by
    have he : e = 5 := by omega
    subst he
    exact absurd h1 (by show ¬ (5 = 0 ∨ 100000 ≤ m); omega)
  | n + 1, e, hj, h1 => by
    have hp := p10 (e := e) (by omega)
    have hp2 := p10 (e := e + 1) (by omega)
    refine r_iload_n (p := 3) rfl rfl rfl ?_
    refine r_iload_n (p := 4) rfl rfl rfl ?_
    refine r_idiv (p := 5) rfl (show ¬ nI (10 ^ e) = 0 from fun q => by have := nI_inj (b := 0) (by omega) (by omega) q; omega) rfl ?_
    rw [nI_div (by omega) (by omega)]
    refine r_bipush (v := 9) (p := 7) rfl rfl rfl ?_
    refine r_icmp_le (p := 10) rfl rfl (fun c1 => ?_) (fun c1 => ?_)
    · refine hQ e (by omega) h1 ?_
      have hq : m / 10 ^ e ≤ 9 := Nat.le_of_not_lt fun q => absurd c1 (Int32.not_le.mpr ((nI_ltI (a := 9) (by omega) (Nat.lt_of_le_of_lt (Nat.div_le_self _ _) (by omega))).mpr q))
      rw [Nat.pow_succ]
      have hz := (Nat.div_lt_iff_lt_mul (x := m) (y := 10) hp.2).mp (by omega)
      rw [Nat.mul_comm]
      exact hz
    · refine r_bipush (v := 10) (p := 12) rfl rfl rfl ?_
      refine r_iload_n (p := 13) rfl rfl rfl ?_
      refine r_imul (p := 14) rfl rfl ?_
      refine r_istore_n (p := 15) rfl rfl rfl ?_
      rw [show (10 : Int32) * nI (10 ^ e) = nI (10 ^ (e + 1)) from by rw [Nat.pow_succ]; simp [nI, Int32.mul_comm]]
      refine r_goto rfl ?_
      refine lp_X7_num1 hm hQ n (e + 1) (by omega) (Or.inr ?_)
      have hq : 10 ≤ m / 10 ^ e := Nat.lt_of_not_le fun q => c1 (nI_le (b := 9) q (by omega))
      rw [Nat.pow_succ, Nat.mul_comm]
      exact (Nat.le_div_iff_mul_le hp.2).mp hq
set_option maxRecDepth 100000 in
theorem s_X7_putNumber {d : Nat} {Y : mY} {F : mF} {M : mM} {L : mL} {l : List Int32} {m : Nat} {Q : Option Value → mW → Prop} (hm : m < 100000) (H : LL (F 34 27) (M 47) l) (hl : l.length + 5 ≤ 64) (hQ : ∀ F' M', LL (F' 34 27) (M' 47) (l ++ dgn m) → fO F M F' M' → Q none (mXY Y, F', M', L)) : Cw (d + 2) 53 [.ref 34, .int (nI m)] (mXY Y, F, M, L) Q := by
  refine Cw_in rfl rfl ?_
  refine r_iconst (v := 1) (p := 1) rfl rfl rfl ?_
  refine r_istore_n (p := 2) rfl rfl rfl ?_
  exact lp_X7_num1 hm (fun e he h1 h2 => lp_X7_num2 hm e l F M he H (by omega) (fun F' M' R f => hQ F' M' (by rw [← dU_dgn he h1 h2]; exact R) f)) 5 0 rfl (Or.inl rfl)
set_option maxRecDepth 100000 in
theorem s_X7_putWord {d : Nat} {Y : mY} {F : mF} {M : mM} {L : mL} {s : mSt} {l : List Int32} {v : Int32} {Q : Option Value → mW → Prop} (HR : RR s F M) (hI : Inv s) (hv : liveP s v) (H0 : LL (F 34 27) (M 47) (l ++ [32])) (hl : l.length + 6 ≤ 64) (hQ : ∀ F' M', LL (F' 34 27) (M' 47) (l ++ (if sG s v = 2 then [32, 111, 108, 100] else [32, 121, 111, 117, 110, 103])) → fO F M F' M' → Q none (mXY Y, F', M', L)) : Cw (d + 2) 54 [.ref 34, .int v] (mXY Y, F, M, L) Q := by
  refine Cw_in rfl rfl ?_
  refine r_aload_n (p := 1) rfl rfl rfl ?_
  refine r_getR (p := 4) rfl rfl rfl rfl rfl ?_
  refine r_iload_n (p := 5) rfl rfl rfl ?_
  refine r_iald (p := 6) rfl rfl rfl (vp100 hv.1) rfl ?_
  rw [HR.1 v hv.1]
  refine r_iconst (v := 1) (p := 7) rfl rfl rfl ?_
  refine r_icmp_ne (p := 10) rfl rfl (fun c1 => ?_) (fun c1 => ?_)
  · refine r_aload_n (p := 44) rfl rfl rfl ?_
    refine r_bipush (v := 111) (p := 46) rfl rfl rfl ?_
    refine r_cV (p := 49) rfl rfl rfl (Nat.le_of_ble_eq_true rfl) rfl (s_X7_put H0 (by simp only [List.length_append, List.length_cons, List.length_nil]; omega) ⟨by decide, by decide⟩ (fun F1 M1 H1 f1 => ?_))
    refine r_aload_n (p := 50) rfl rfl rfl ?_
    refine r_bipush (v := 108) (p := 52) rfl rfl rfl ?_
    refine r_cV (p := 55) rfl rfl rfl (Nat.le_of_ble_eq_true rfl) rfl (s_X7_put H1 (by simp only [List.length_append, List.length_cons, List.length_nil]; omega) ⟨by decide, by decide⟩ (fun F2 M2 H2 f2 => ?_))
    refine r_aload_n (p := 56) rfl rfl rfl ?_
    refine r_bipush (v := 100) (p := 58) rfl rfl rfl ?_
    refine r_cV (p := 61) rfl rfl rfl (Nat.le_of_ble_eq_true rfl) rfl (s_X7_put H2 (by simp only [List.length_append, List.length_cons, List.length_nil]; omega) ⟨by decide, by decide⟩ (fun F3 M3 H3 f3 => ?_))
    have e : sG s v = 2 := by
      rcases hI.2.1 v hv.1 with q | q | q
      · exact absurd q hv.2
      · exact absurd q c1
      · exact q
    rw [if_pos e] at hQ
    refine r_return rfl ?_
    refine hQ _ _ ?_ (f1.tr (f2.tr f3))
    simp only [List.append_assoc] at H3
    exact H3
  · refine r_aload_n (p := 11) rfl rfl rfl ?_
    refine r_bipush (v := 121) (p := 13) rfl rfl rfl ?_
    refine r_cV (p := 16) rfl rfl rfl (Nat.le_of_ble_eq_true rfl) rfl (s_X7_put H0 (by simp only [List.length_append, List.length_cons, List.length_nil]; omega) ⟨by decide, by decide⟩ (fun F1 M1 H1 f1 => ?_))
    refine r_aload_n (p := 17) rfl rfl rfl ?_
    refine r_bipush (v := 111) (p := 19) rfl rfl rfl ?_
    refine r_cV (p := 22) rfl rfl rfl (Nat.le_of_ble_eq_true rfl) rfl (s_X7_put H1 (by simp only [List.length_append, List.length_cons, List.length_nil]; omega) ⟨by decide, by decide⟩ (fun F2 M2 H2 f2 => ?_))
    refine r_aload_n (p := 23) rfl rfl rfl ?_
    refine r_bipush (v := 117) (p := 25) rfl rfl rfl ?_
    refine r_cV (p := 28) rfl rfl rfl (Nat.le_of_ble_eq_true rfl) rfl (s_X7_put H2 (by simp only [List.length_append, List.length_cons, List.length_nil]; omega) ⟨by decide, by decide⟩ (fun F3 M3 H3 f3 => ?_))
    refine r_aload_n (p := 29) rfl rfl rfl ?_
    refine r_bipush (v := 110) (p := 31) rfl rfl rfl ?_
    refine r_cV (p := 34) rfl rfl rfl (Nat.le_of_ble_eq_true rfl) rfl (s_X7_put H3 (by simp only [List.length_append, List.length_cons, List.length_nil]; omega) ⟨by decide, by decide⟩ (fun F4 M4 H4 f4 => ?_))
    refine r_aload_n (p := 35) rfl rfl rfl ?_
    refine r_bipush (v := 103) (p := 37) rfl rfl rfl ?_
    refine r_cV (p := 40) rfl rfl rfl (Nat.le_of_ble_eq_true rfl) rfl (s_X7_put H4 (by simp only [List.length_append, List.length_cons, List.length_nil]; omega) ⟨by decide, by decide⟩ (fun F5 M5 H5 f5 => ?_))
    refine r_goto rfl ?_
    have e : ¬ sG s v = 2 := by rw [c1]; decide
    rw [if_neg e] at hQ
    refine r_return rfl ?_
    refine hQ _ _ ?_ (f1.tr (f2.tr (f3.tr (f4.tr f5))))
    simp only [List.append_assoc] at H5
    exact H5
set_option maxRecDepth 100000 in
theorem lp_X7_describe {d : Nat} {Y : mY} {L : mL} {s : mSt} {v : Int32} {k : Nat} {Q : Option Value → mW → Prop} (hI : Inv s) (hv : inR v) (hk : k ≤ 4) (hn : sN s v = nI k) :
    ∀ (n j : Nat) (l : List Int32) (F : mF) (M : mM) (z : Option Value), j + n = k → RR s F M → LL (F 34 27) (M 47) l → l.length + 6 * n ≤ 63 → (∀ F' M' l2 z, LL (F' 34 27) (M' 47) (l ++ fT ((seqI n j).map (fun q => sR s (4 * v + q))) j) → fO F M F' M' → Wp (d + 2) tX7_describe 152 [some (.ref 34), some (.int v), some l2, z] [] (mXY Y, F', M', L) Q) → Wp (d + 2) tX7_describe 96 [some (.ref 34), some (.int v), some (.int (nI j)), z] [] (mXY Y, F, M, L) Q
  | 0, j, l, F, M, z, hj, HR, H, hl, hQ => by
    rw [seqI, List.map_nil, fT, List.append_nil] at hQ
    refine r_iload_n (p := 97) rfl rfl rfl ?_
    refine r_aload_n (p := 98) rfl rfl rfl ?_
    refine r_getR (p := 101) rfl rfl rfl rfl rfl ?_
    refine r_iload_n (p := 102) rfl rfl rfl ?_
    refine r_iald (p := 103) rfl rfl rfl (vp100 hv) rfl ?_
    rw [HR.2.2.1 v hv, hn]
    refine r_icmp_ge (p := 106) rfl rfl (fun c1 => ?_) (fun c1 => ?_)
    · exact hQ _ _ _ _ H fO.rf
    · exact absurd (nI_le (a := k) (b := j) (by omega) (by omega)) c1
  | n + 1, j, l, F, M, z, hj, HR, H, hl, hQ => by
    have hx := nI_x (j := j) (k := k) (by omega) (by omega) hk
    have hx4 := Int32.not_le.mp hx.2.1
    have eT : fT ((seqI (n + 1) j).map (fun q => sR s (4 * v + q))) j = (if j = 0 then [] else [44]) ++ (if sR s (4 * v + nI j) = -1 then [45] else dgn (sR s (4 * v + nI j)).toNatClampNeg) ++ fT ((seqI n (j + 1)).map (fun q => sR s (4 * v + q))) (j + 1) := rfl
    rw [eT] at hQ
    refine r_iload_n (p := 97) rfl rfl rfl ?_
    refine r_aload_n (p := 98) rfl rfl rfl ?_
    refine r_getR (p := 101) rfl rfl rfl rfl rfl ?_
    refine r_iload_n (p := 102) rfl rfl rfl ?_
    refine r_iald (p := 103) rfl rfl rfl (vp100 hv) rfl ?_
    rw [HR.2.2.1 v hv, hn]
    refine r_icmp_ge (p := 106) rfl rfl (fun c1 => ?_) (fun c1 => ?_)
    · exact absurd c1 (nI_ge (a := j) (b := k) (by omega) (by omega))
    · refine r_iload_n (p := 107) rfl rfl rfl ?_
      refine r_if_le (p := 110) rfl rfl (fun c2 => ?_) (fun c2 => ?_)
      · have hj0 : j = 0 := Nat.eq_zero_of_not_pos fun q => absurd c2 (Int32.not_le.mpr ((nI_ltI (a := 0) (by omega) (by omega)).mpr q))
        rw [if_pos hj0] at hQ
        refine r_aload_n (p := 117) rfl rfl rfl ?_
        refine r_getR (p := 120) rfl rfl rfl rfl rfl ?_
        refine r_iconst (v := 4) (p := 121) rfl rfl rfl ?_
        refine r_iload_n (p := 122) rfl rfl rfl ?_
        refine r_imul (p := 123) rfl rfl ?_
        refine r_iload_n (p := 124) rfl rfl rfl ?_
        refine r_iadd (p := 125) rfl rfl ?_
        refine r_iald (p := 126) rfl rfl rfl (vp400 hv hx.1 hx4) rfl ?_
        rw [HR.2.2.2.2.1 v (nI j) hv hx.1 hx4]
        refine r_istore_n (p := 127) rfl rfl rfl ?_
        refine r_iload_n (p := 128) rfl rfl rfl ?_
        refine r_iconst (v := (-1)) (p := 129) rfl rfl rfl ?_
        refine r_icmp_ne (p := 132) rfl rfl (fun c1 => ?_) (fun c1 => ?_)
        · have hti := (hI.2.2.2.1 (4 * v + nI j)).elim (fun q => absurd q c1) id
          have hte := nI_clampI hti.1
          have hmm : (sR s (4 * v + nI j)).toNatClampNeg < 100000 := by obtain ⟨q, hq, e⟩ := inR_of hti; rw [e, nI_clamp (by omega)]; omega
          refine r_aload_n (p := 142) rfl rfl rfl ?_
          refine r_iload_n (p := 143) rfl rfl rfl ?_
          rw [← hte]
          refine r_cV (p := 146) rfl rfl rfl (Nat.le_of_ble_eq_true rfl) rfl (s_X7_putNumber hmm H (by first | omega | (simp only [List.length_append, List.length_cons, List.length_nil]; omega)) (fun F2 M2 H2 f2 => ?_))
          have R2 := HR.fo f2
          have hd5 := (dgn_len (m := (sR s (4 * v + nI j)).toNatClampNeg)).2
          refine r_iinc (v := (nI (j + 1))) (p := 149) rfl rfl (nI_1 j) rfl rfl ?_
          refine r_goto rfl ?_
          rw [if_neg c1] at hQ
          exact lp_X7_describe hI hv hk hn n (j + 1) _ F2 M2 _ (by omega) R2 H2 (by simp only [List.length_append, List.length_cons, List.length_nil]; omega) (fun F' M' l2 z R f => hQ F' M' l2 z (by rw [List.nil_append, ← List.append_assoc]; exact R) (f2.tr f))
        · refine r_aload_n (p := 133) rfl rfl rfl ?_
          refine r_bipush (v := 45) (p := 135) rfl rfl rfl ?_
          refine r_cV (p := 138) rfl rfl rfl (Nat.le_of_ble_eq_true rfl) rfl (s_X7_put H (by first | omega | (simp only [List.length_append, List.length_cons, List.length_nil]; omega)) ⟨by decide, by decide⟩ (fun F2 M2 H2 f2 => ?_))
          have R2 := HR.fo f2
          have hd5 : ([45] : List Int32).length ≤ 5 := by simp
          refine r_goto rfl ?_
          refine r_iinc (v := (nI (j + 1))) (p := 149) rfl rfl (nI_1 j) rfl rfl ?_
          refine r_goto rfl ?_
          rw [if_pos c1] at hQ
          exact lp_X7_describe hI hv hk hn n (j + 1) _ F2 M2 _ (by omega) R2 H2 (by simp only [List.length_append, List.length_cons, List.length_nil]; omega) (fun F' M' l2 z R f => hQ F' M' l2 z (by rw [List.nil_append, ← List.append_assoc]; exact R) (f2.tr f))
      · refine r_aload_n (p := 111) rfl rfl rfl ?_
        refine r_bipush (v := 44) (p := 113) rfl rfl rfl ?_
        refine r_cV (p := 116) rfl rfl rfl (Nat.le_of_ble_eq_true rfl) rfl (s_X7_put H (by first | omega | (simp only [List.length_append, List.length_cons, List.length_nil]; omega)) ⟨by decide, by decide⟩ (fun F1 M1 H1 f1 => ?_))
        have R1 := HR.fo f1
        have hj0 : ¬ j = 0 := fun q => c2 (by rw [q]; decide)
        rw [if_neg hj0] at hQ
        refine r_aload_n (p := 117) rfl rfl rfl ?_
        refine r_getR (p := 120) rfl rfl rfl rfl rfl ?_
        refine r_iconst (v := 4) (p := 121) rfl rfl rfl ?_
        refine r_iload_n (p := 122) rfl rfl rfl ?_
        refine r_imul (p := 123) rfl rfl ?_
        refine r_iload_n (p := 124) rfl rfl rfl ?_
        refine r_iadd (p := 125) rfl rfl ?_
        refine r_iald (p := 126) rfl rfl rfl (vp400 hv hx.1 hx4) rfl ?_
        rw [R1.2.2.2.2.1 v (nI j) hv hx.1 hx4]
        refine r_istore_n (p := 127) rfl rfl rfl ?_
        refine r_iload_n (p := 128) rfl rfl rfl ?_
        refine r_iconst (v := (-1)) (p := 129) rfl rfl rfl ?_
        refine r_icmp_ne (p := 132) rfl rfl (fun c1 => ?_) (fun c1 => ?_)
        · have hti := (hI.2.2.2.1 (4 * v + nI j)).elim (fun q => absurd q c1) id
          have hte := nI_clampI hti.1
          have hmm : (sR s (4 * v + nI j)).toNatClampNeg < 100000 := by obtain ⟨q, hq, e⟩ := inR_of hti; rw [e, nI_clamp (by omega)]; omega
          refine r_aload_n (p := 142) rfl rfl rfl ?_
          refine r_iload_n (p := 143) rfl rfl rfl ?_
          rw [← hte]
          refine r_cV (p := 146) rfl rfl rfl (Nat.le_of_ble_eq_true rfl) rfl (s_X7_putNumber hmm H1 (by first | omega | (simp only [List.length_append, List.length_cons, List.length_nil]; omega)) (fun F2 M2 H2 f2 => ?_))
          have R2 := R1.fo f2
          have hd5 := (dgn_len (m := (sR s (4 * v + nI j)).toNatClampNeg)).2
          refine r_iinc (v := (nI (j + 1))) (p := 149) rfl rfl (nI_1 j) rfl rfl ?_
          refine r_goto rfl ?_
          rw [if_neg c1] at hQ
          exact lp_X7_describe hI hv hk hn n (j + 1) _ F2 M2 _ (by omega) R2 H2 (by simp only [List.length_append, List.length_cons, List.length_nil]; omega) (fun F' M' l2 z R f => hQ F' M' l2 z (by rw [← List.append_assoc, ← List.append_assoc]; exact R) (f1.tr (f2.tr f)))
        · refine r_aload_n (p := 133) rfl rfl rfl ?_
          refine r_bipush (v := 45) (p := 135) rfl rfl rfl ?_
          refine r_cV (p := 138) rfl rfl rfl (Nat.le_of_ble_eq_true rfl) rfl (s_X7_put H1 (by first | omega | (simp only [List.length_append, List.length_cons, List.length_nil]; omega)) ⟨by decide, by decide⟩ (fun F2 M2 H2 f2 => ?_))
          have R2 := R1.fo f2
          have hd5 : ([45] : List Int32).length ≤ 5 := by simp
          refine r_goto rfl ?_
          refine r_iinc (v := (nI (j + 1))) (p := 149) rfl rfl (nI_1 j) rfl rfl ?_
          refine r_goto rfl ?_
          rw [if_pos c1] at hQ
          exact lp_X7_describe hI hv hk hn n (j + 1) _ F2 M2 _ (by omega) R2 H2 (by simp only [List.length_append, List.length_cons, List.length_nil]; omega) (fun F' M' l2 z R f => hQ F' M' l2 z (by rw [← List.append_assoc, ← List.append_assoc]; exact R) (f1.tr (f2.tr f)))
set_option maxRecDepth 100000 in
theorem rs_describe {b : mBs} {v : Int32} {T : Nat} (hI : Inv b.1) (hA : aOk T b.1) (hT : T < 100000) : RS 3 55 [.int v] b (.int (oDe b v).1) (oDe b v).2 := fun d Y F M L Q H hQ => by
  refine Cw_in rfl rfl ?_
  refine r_aload_n (p := 1) rfl rfl rfl ?_
  refine r_iload_n (p := 2) rfl rfl rfl ?_
  refine r_cV (p := 5) rfl rfl rfl (Nat.le_of_ble_eq_true rfl) rfl (s_X7_isThere H.1 hI ?_)
  refine r_if_ne (p := 8) rfl rfl (fun c1 => ?_) (fun c1 => ?_)
  · have hv : liveP b.1 v := Classical.byContradiction fun q => c1 (if_neg q)
    obtain ⟨kf, hk, hn⟩ := hI.2.2.1 _ hv.1
    obtain ⟨mi, hmi, ei⟩ := inR_of hv.1
    obtain ⟨ma, hma, ea⟩ := hA v hv.1
    have hd1 := dgn_len (m := mi)
    have hd2 := dgn_len (m := ma)
    have e : oDe b v = (nI (dsc b.1 v).length, (b.1, b.2.1, b.2.2.1, dsc b.1 v)) := if_pos hv
    rw [e] at hQ
    refine r_aload_n (p := 16) rfl rfl rfl ?_
    refine r_iconst (v := 0) (p := 17) rfl rfl rfl ?_
    refine r_putI (p := 20) rfl rfl rfl rfl ?_
    have f0 : fO F M (uF F 34 27 0) M := ⟨fun a k ha => by
      by_cases e : a = 34
      · exact uF_nk (by omega)
      · exact uF_ne e, fun _ _ _ => rfl⟩
    have R0 := H.1.fo f0
    have H0 : LL ((uF F 34 27 0) 34 27) (M 47) [] := LL.nil
    refine r_aload_n (p := 21) rfl rfl rfl ?_
    refine r_bipush (v := 35) (p := 23) rfl rfl rfl ?_
    refine r_cV (p := 26) rfl rfl rfl (Nat.le_of_ble_eq_true rfl) rfl (s_X7_put H0 (by first | omega | (simp only [List.length_append, List.length_cons, List.length_nil]; omega)) ⟨by decide, by decide⟩ (fun F1 M1 H1 f1 => ?_))
    have R1 := R0.fo f1
    refine r_aload_n (p := 27) rfl rfl rfl ?_
    refine r_iload_n (p := 28) rfl rfl rfl ?_
    rw [show Value.int v = .int (nI mi) by rw [← ei]]
    refine r_cV (p := 31) rfl rfl rfl (Nat.le_of_ble_eq_true rfl) rfl (s_X7_putNumber (m := mi) (by omega) H1 (by first | omega | (simp only [List.length_append, List.length_cons, List.length_nil]; omega)) (fun F2 M2 H2 f2 => ?_))
    have R2 := R1.fo f2
    rw [← ei]
    refine r_aload_n (p := 32) rfl rfl rfl ?_
    refine r_bipush (v := 32) (p := 34) rfl rfl rfl ?_
    refine r_cV (p := 37) rfl rfl rfl (Nat.le_of_ble_eq_true rfl) rfl (s_X7_put H2 (by first | omega | (simp only [List.length_append, List.length_cons, List.length_nil]; omega)) ⟨by decide, by decide⟩ (fun F3 M3 H3 f3 => ?_))
    have R3 := R2.fo f3
    refine r_aload_n (p := 38) rfl rfl rfl ?_
    refine r_iload_n (p := 39) rfl rfl rfl ?_
    refine r_cV (p := 42) rfl rfl rfl (Nat.le_of_ble_eq_true rfl) rfl (s_X7_putWord R3 hI hv H3 (by first | omega | (simp only [List.length_append, List.length_cons, List.length_nil]; omega)) (fun F4 M4 H4 f4 => ?_))
    have R4 := R3.fo f4
    have hw : (if sG b.1 v = 2 then [32, 111, 108, 100] else [32, 121, 111, 117, 110, 103] : List Int32).length ≤ 6 := by split <;> simp
    generalize hwe : (if sG b.1 v = 2 then [32, 111, 108, 100] else [32, 121, 111, 117, 110, 103] : List Int32) = wd at H4 hw
    refine r_aload_n (p := 43) rfl rfl rfl ?_
    refine r_bipush (v := 32) (p := 45) rfl rfl rfl ?_
    refine r_cV (p := 48) rfl rfl rfl (Nat.le_of_ble_eq_true rfl) rfl (s_X7_put H4 (by first | omega | (simp only [List.length_append, List.length_cons, List.length_nil]; omega)) ⟨by decide, by decide⟩ (fun F5 M5 H5 f5 => ?_))
    have R5 := R4.fo f5
    refine r_aload_n (p := 49) rfl rfl rfl ?_
    refine r_bipush (v := 97) (p := 51) rfl rfl rfl ?_
    refine r_cV (p := 54) rfl rfl rfl (Nat.le_of_ble_eq_true rfl) rfl (s_X7_put H5 (by first | omega | (simp only [List.length_append, List.length_cons, List.length_nil]; omega)) ⟨by decide, by decide⟩ (fun F6 M6 H6 f6 => ?_))
    have R6 := R5.fo f6
    refine r_aload_n (p := 55) rfl rfl rfl ?_
    refine r_bipush (v := 103) (p := 57) rfl rfl rfl ?_
    refine r_cV (p := 60) rfl rfl rfl (Nat.le_of_ble_eq_true rfl) rfl (s_X7_put H6 (by first | omega | (simp only [List.length_append, List.length_cons, List.length_nil]; omega)) ⟨by decide, by decide⟩ (fun F7 M7 H7 f7 => ?_))
    have R7 := R6.fo f7
    refine r_aload_n (p := 61) rfl rfl rfl ?_
    refine r_bipush (v := 101) (p := 63) rfl rfl rfl ?_
    refine r_cV (p := 66) rfl rfl rfl (Nat.le_of_ble_eq_true rfl) rfl (s_X7_put H7 (by first | omega | (simp only [List.length_append, List.length_cons, List.length_nil]; omega)) ⟨by decide, by decide⟩ (fun F8 M8 H8 f8 => ?_))
    have R8 := R7.fo f8
    refine r_aload_n (p := 67) rfl rfl rfl ?_
    refine r_bipush (v := 61) (p := 69) rfl rfl rfl ?_
    refine r_cV (p := 72) rfl rfl rfl (Nat.le_of_ble_eq_true rfl) rfl (s_X7_put H8 (by first | omega | (simp only [List.length_append, List.length_cons, List.length_nil]; omega)) ⟨by decide, by decide⟩ (fun F9 M9 H9 f9 => ?_))
    have R9 := R8.fo f9
    refine r_aload_n (p := 73) rfl rfl rfl ?_
    refine r_aload_n (p := 74) rfl rfl rfl ?_
    refine r_getR (p := 77) rfl rfl rfl rfl rfl ?_
    refine r_iload_n (p := 78) rfl rfl rfl ?_
    refine r_iald (p := 79) rfl rfl rfl (vp100 hv.1) rfl ?_
    rw [R9.2.1 v hv.1, ea]
    refine r_cV (p := 82) rfl rfl rfl (Nat.le_of_ble_eq_true rfl) rfl (s_X7_putNumber (m := ma) (by omega) H9 (by first | omega | (simp only [List.length_append, List.length_cons, List.length_nil]; omega)) (fun F10 M10 H10 f10 => ?_))
    have R10 := R9.fo f10
    refine r_aload_n (p := 83) rfl rfl rfl ?_
    refine r_bipush (v := 32) (p := 85) rfl rfl rfl ?_
    refine r_cV (p := 88) rfl rfl rfl (Nat.le_of_ble_eq_true rfl) rfl (s_X7_put H10 (by first | omega | (simp only [List.length_append, List.length_cons, List.length_nil]; omega)) ⟨by decide, by decide⟩ (fun F11 M11 H11 f11 => ?_))
    have R11 := R10.fo f11
    refine r_aload_n (p := 89) rfl rfl rfl ?_
    refine r_bipush (v := 91) (p := 91) rfl rfl rfl ?_
    refine r_cV (p := 94) rfl rfl rfl (Nat.le_of_ble_eq_true rfl) rfl (s_X7_put H11 (by first | omega | (simp only [List.length_append, List.length_cons, List.length_nil]; omega)) ⟨by decide, by decide⟩ (fun F12 M12 H12 f12 => ?_))
    have R12 := R11.fo f12
    refine r_iconst (v := 0) (p := 95) rfl rfl rfl ?_
    refine r_istore_n (p := 96) rfl rfl rfl ?_
    refine lp_X7_describe hI hv.1 hk hn kf 0 _ F12 M12 none (by omega) R12 H12 (by first | omega | (simp only [List.length_append, List.length_cons, List.length_nil]; omega)) (fun F13 M13 l2 z13 H13 f13 => ?_)
    have el : ((seqI kf 0).map (fun q => sR b.1 (4 * v + q))) = flds b.1 v := by unfold flds; rw [hn, nI_clamp (by omega)]
    rw [el] at H13
    have hl8 := fT_len (l := flds b.1 v) (j := 0)
    have hl9 : (flds b.1 v).length ≤ 4 := by rw [← el]; simp [seqI_len]; omega
    refine r_aload_n (p := 153) rfl rfl rfl ?_
    refine r_bipush (v := 93) (p := 155) rfl rfl rfl ?_
    refine r_cV (p := 158) rfl rfl rfl (Nat.le_of_ble_eq_true rfl) rfl (s_X7_put H13 (by first | omega | (simp only [List.length_append, List.length_cons, List.length_nil]; omega)) ⟨by decide, by decide⟩ (fun F14 M14 H14 f14 => ?_))
    refine r_aload_n (p := 159) rfl rfl rfl ?_
    refine r_getI (p := 162) rfl rfl rfl rfl ?_
    have ed : [] ++ [35] ++ dgn mi ++ wd ++ [32] ++ [97] ++ [103] ++ [101] ++ [61] ++ dgn ma ++ [32] ++ [91] ++ fT (flds b.1 v) 0 ++ [93] = dsc b.1 v := by
      unfold dsc
      rw [ea, nI_clamp (show ma < 2 ^ 31 by omega), hwe, show v.toNatClampNeg = mi by rw [ei]; exact nI_clamp (by omega)]
      simp only [List.append_assoc, List.nil_append]
      rfl
    rw [ed] at H14
    have ff := f0.tr (f1.tr (f2.tr (f3.tr (f4.tr (f5.tr (f6.tr (f7.tr (f8.tr (f9.tr (f10.tr (f11.tr (f12.tr (f13.tr f14)))))))))))))
    rw [H14.1]
    refine r_ireturn rfl trivial ?_
    refine hQ _ _ L ⟨H.1.fo ff, fun k hk => (ff.2 _ _ (by omega)).trans (H.2.1 k hk), (ff.1 _ _ (Or.inr (by omega))).trans H.2.2.1, ?_, H14⟩ ⟨fun a k ha => ff.1 a k (Or.inl ha), fun a i ha => ff.2 a i (by omega)⟩
    show LL (F14 34 25) (M14 46) b.2.2.1
    rw [ff.1 _ _ (Or.inr (by omega))]
    exact H.2.2.2.1.fr (fun i => ff.2 _ _ (by omega))
  · refine r_aload_n (p := 9) rfl rfl rfl ?_
    refine r_bipush (v := (-2)) (p := 11) rfl rfl rfl ?_
    refine r_cV (p := 14) rfl rfl rfl (Nat.le_of_ble_eq_true rfl) rfl (s_X7_fail vpf2 ?_)
    rw [f_fail]
    have e : oDe b v = (-2, bE b (-2)) := if_neg (fun q => absurd c1 (by rw [if_pos q]; decide))
    rw [e] at hQ
    have z := H.cnt H.2.2.1 (-2)
    rw [eM_2] at z
    refine r_ireturn rfl trivial ?_
    exact hQ F _ L z.1 z.2
