set_option maxRecDepth 100000 in
theorem lp_fill {d : Nat} {X : mX} {F : mF} {M : mM} {L : mL} {h m : Nat} {x : Int32} {Q : Option Value → mW → Prop} (hb : Nat.blt h mB = true) (hk : X.2.2.1 h = (1, m)) (hm : m ≤ 65536) (hQ : ∀ M', (∀ a i, a ≠ h → M' a i = M a i) → (∀ k, k < m → M' h (nI k) = x) → Q none (X, F, M', L)) :
    ∀ (n j : Nat) (M1 : mM), j + n = m → (∀ a i, a ≠ h → M1 a i = M a i) → (∀ k, k < j → M1 h (nI k) = x) → Wp d tJ7_fill_53178 5 [some (.ref h), some (.int x), some (.int (nI j)), some (.int (nI m))] [] (X, F, M1, L) Q
  | 0, j, M1, hj, i1, i2 => by
    refine r_iload_n (p := 6) rfl rfl rfl ?_
    refine r_iload_n (p := 7) rfl rfl rfl ?_
    refine r_icmp_ge (p := 10) rfl rfl (fun c1 => ?_) (fun c1 => ?_)
    · refine r_return rfl ?_
      exact hQ M1 i1 (fun k hk => i2 k (by omega))
    · exact absurd (nI_le (a := m) (b := j) (by omega) (by omega)) c1
  | n + 1, j, M1, hj, i1, i2 => by
    refine r_iload_n (p := 6) rfl rfl rfl ?_
    refine r_iload_n (p := 7) rfl rfl rfl ?_
    refine r_icmp_ge (p := 10) rfl rfl (fun c1 => ?_) (fun c1 => ?_)
    · exact absurd c1 (nI_ge (a := j) (b := m) (by omega) (by omega))
    · refine r_aload_n (p := 11) rfl rfl rfl ?_
      refine r_iload_n (p := 12) rfl rfl rfl ?_
      refine r_iload_n (p := 13) rfl rfl rfl ?_
      refine r_iast (p := 14) rfl hb hk (vp_in_nI (show j < m by omega) (by omega)) hm rfl ?_
      refine r_iinc (v := nI (j + 1)) (p := 17) rfl rfl (nI_1 j) rfl rfl ?_
      refine r_goto rfl ?_
      refine lp_fill hb hk hm hQ n (j + 1) _ (by omega) (fun a i ha => by rw [uM_ne ha]; exact i1 a i ha) (fun k hk => ?_)
      rw [uM_at]
      by_cases e : k = j
      · rw [if_pos (by rw [e])]
      · rw [if_neg (fun z => e (nI_inj (by omega) (by omega) z))]
        exact i2 k (by omega)
set_option maxRecDepth 100000 in
theorem s_fill {d : Nat} {X : mX} {F : mF} {M : mM} {L : mL} {h m : Nat} {x : Int32} {Q : Option Value → mW → Prop} (hb : Nat.blt h mB = true) (hk : X.2.2.1 h = (1, m)) (hm : m ≤ 65536) (hQ : ∀ M', (∀ a i, a ≠ h → M' a i = M a i) → (∀ k, k < m → M' h (nI k) = x) → Q none (X, F, M', L)) : Cw (d + 1) 217 [.ref h, .int x] (X, F, M, L) Q := by
  refine Cw_in rfl rfl ?_
  refine r_iconst (v := 0) (p := 1) rfl rfl rfl ?_
  refine r_istore_n (p := 2) rfl rfl rfl ?_
  refine r_aload_n (p := 3) rfl rfl rfl ?_
  refine r_alen_i (v := nI m) (p := 4) rfl (mkd_o hb hk) rfl rfl ?_
  refine r_istore_n (p := 5) rfl rfl rfl ?_
  exact lp_fill hb hk hm hQ m 0 M (by omega) (fun _ _ _ => rfl) (fun k hk => absurd hk (Nat.not_lt_zero _))
set_option maxRecDepth 100000 in
theorem s_X4_clear {d : Nat} {Y : mY} {F : mF} {M : mM} {L : mL} {Q : Option Value → mW → Prop} (hQ : ∀ M', (∀ a i, a ≠ 3 → M' a i = M a i) → (∀ k, k < 100 → M' 3 (nI k) = 0) → Q none (mXY Y, uF (uF (uF (uF F 2 5 0) 2 6 0) 2 7 0) 2 8 0, M', L)) : Cw (d + 2) 83 [.ref 2] (mXY Y, F, M, L) Q := by
  refine Cw_in rfl rfl ?_
  refine r_aload_n (p := 1) rfl rfl rfl ?_
  refine r_getR (p := 4) rfl rfl rfl rfl rfl ?_
  refine r_iconst (v := 0) (p := 5) rfl rfl rfl ?_
  refine r_cS1 (p := 8) rfl rfl (Nat.le_of_ble_eq_true rfl) rfl (s_fill (h := 3) (m := 100) rfl rfl (by omega) (fun M1 i1 i2 => ?_))
  refine r_aload_n (p := 9) rfl rfl rfl ?_
  refine r_iconst (v := 0) (p := 10) rfl rfl rfl ?_
  refine r_putI (p := 13) rfl rfl rfl rfl ?_
  refine r_aload_n (p := 14) rfl rfl rfl ?_
  refine r_iconst (v := 0) (p := 15) rfl rfl rfl ?_
  refine r_putI (p := 18) rfl rfl rfl rfl ?_
  refine r_aload_n (p := 19) rfl rfl rfl ?_
  refine r_iconst (v := 0) (p := 20) rfl rfl rfl ?_
  refine r_putI (p := 23) rfl rfl rfl rfl ?_
  refine r_aload_n (p := 24) rfl rfl rfl ?_
  refine r_iconst (v := 0) (p := 25) rfl rfl rfl ?_
  refine r_putI (p := 28) rfl rfl rfl rfl ?_
  refine r_return rfl ?_
  exact hQ M1 i1 i2
set_option maxRecDepth 100000 in
theorem s_X0_restart {d : Nat} {Y : mY} {F : mF} {M : mM} {L : mL} {a b c : Int32} {Q : Option Value → mW → Prop} (hQ : ∀ F' M', frC F M F' M' → (∀ x k, x ≠ 1 → x ≠ 2 → x ≠ 9 → x ≠ 12 → F' x k = F x k) → (∀ x i, x ≠ 3 → x ≠ 8 → x ≠ 10 → x ≠ 11 → x ≠ 13 → x ≠ 14 → M' x i = M x i) → (∀ k, k < 100 → M' 3 (nI k) = 0) → (∀ k, k < 4 → M' 8 (nI k) = -1) → IL 9 [] F' M' → IL 12 [] F' M' → (F' 1 5 = a ∧ F' 1 6 = b ∧ F' 1 7 = c) → (F' 2 5 = 0 ∧ F' 2 6 = 0 ∧ F' 2 7 = 0 ∧ F' 2 8 = 0) → Q none (mXY Y, F', M', L)) : Cw (d + 3) 106 [.ref 1, .int a, .int b, .int c] (mXY Y, F, M, L) Q := by
  refine Cw_in rfl rfl ?_
  refine r_aload_n (p := 1) rfl rfl rfl ?_
  refine r_getR (p := 4) rfl rfl rfl rfl rfl ?_
  refine r_cV (p := 7) rfl rfl rfl (Nat.le_of_ble_eq_true rfl) rfl (s_X4_clear (fun M1 i1 i2 => ?_))
  refine r_aload_n (p := 8) rfl rfl rfl ?_
  refine r_getR (p := 11) rfl rfl rfl rfl rfl ?_
  refine r_iconst (v := (-1)) (p := 12) rfl rfl rfl ?_
  refine r_cS1 (p := 15) rfl rfl (Nat.le_of_ble_eq_true rfl) rfl (s_fill (h := 8) (m := 4) rfl rfl (by omega) (fun M2 i3 i4 => ?_))
  refine r_aload_n (p := 16) rfl rfl rfl ?_
  refine r_getR (p := 19) rfl rfl rfl rfl rfl ?_
  refine r_cV (p := 22) rfl rfl rfl (Nat.le_of_ble_eq_true rfl) rfl (s_X1_clear (mIL_9 Y) (fun F3 M3 R3 f3 => ?_))
  refine r_aload_n (p := 23) rfl rfl rfl ?_
  refine r_getR (p := 26) rfl rfl rfl rfl rfl ?_
  refine r_cV (p := 29) rfl rfl rfl (Nat.le_of_ble_eq_true rfl) rfl (s_X1_clear (mIL_12 Y) (fun F4 M4 R4 f4 => ?_))
  refine r_aload_n (p := 30) rfl rfl rfl ?_
  refine r_iload_n (p := 31) rfl rfl rfl ?_
  refine r_putI (p := 34) rfl rfl rfl rfl ?_
  refine r_aload_n (p := 35) rfl rfl rfl ?_
  refine r_iload_n (p := 36) rfl rfl rfl ?_
  refine r_putI (p := 39) rfl rfl rfl rfl ?_
  refine r_aload_n (p := 40) rfl rfl rfl ?_
  refine r_iload_n (p := 41) rfl rfl rfl ?_
  refine r_putI (p := 44) rfl rfl rfl rfl ?_
  refine r_return rfl ?_
  refine hQ _ _ ⟨fun x k hx => ?_, fun x i hx => ?_⟩ (fun x k h1 h2 h3 h4 => ?_) (fun x i h1 h2 h3 h4 h5 h6 => ?_) (fun k hk => ?_) (fun k hk => ?_) ?_ ?_ ⟨rfl, rfl, rfl⟩ ⟨?_, ?_, ?_, ?_⟩
  · rw [uF_ne (by omega), uF_ne (by omega), uF_ne (by omega), f4.1 _ _ (by omega), f3.1 _ _ (by omega), uF_ne (by omega), uF_ne (by omega), uF_ne (by omega), uF_ne (by omega)]
  · rw [f4.2 _ _ (by omega) (by omega), f3.2 _ _ (by omega) (by omega), i3 _ _ (by omega), i1 _ _ (by omega)]
  · rw [uF_ne h1, uF_ne h1, uF_ne h1, f4.1 _ _ h4, f3.1 _ _ h3, uF_ne h2, uF_ne h2, uF_ne h2, uF_ne h2]
  · rw [f4.2 _ _ h5 h6, f3.2 _ _ h3 h4, i3 _ _ h2, i1 _ _ h1]
  · rw [f4.2 _ _ (by omega) (by omega), f3.2 _ _ (by omega) (by omega), i3 _ _ (by omega)]; exact i2 k hk
  · rw [f4.2 _ _ (by omega) (by omega), f3.2 _ _ (by omega) (by omega)]; exact i4 k hk
  · exact R3.ext (f4.1 _ _ (by omega)) (fun i => f4.2 _ _ (by omega) (by omega)) (fun i => f4.2 _ _ (by omega) (by omega))
  · exact R4
  · show F4 2 5 = 0; rw [f4.1 _ _ (by omega), f3.1 _ _ (by omega)]; rfl
  · show F4 2 6 = 0; rw [f4.1 _ _ (by omega), f3.1 _ _ (by omega)]; rfl
  · show F4 2 7 = 0; rw [f4.1 _ _ (by omega), f3.1 _ _ (by omega)]; rfl
  · show F4 2 8 = 0; rw [f4.1 _ _ (by omega), f3.1 _ _ (by omega)]; rfl
set_option maxRecDepth 100000 in
theorem s_X2_restart {d : Nat} {Y : mY} {F : mF} {M : mM} {L : mL} {Q : Option Value → mW → Prop} (hQ : ∀ F' M', frC F M F' M' → (∀ x k, x ≠ 18 → x ≠ 19 → x ≠ 22 → F' x k = F x k) → (∀ x i, x ≠ 20 → x ≠ 21 → x ≠ 23 → x ≠ 24 → M' x i = M x i) → IL 19 [] F' M' → IL 22 [] F' M' → (F' 18 4 = 0 ∧ F' 18 5 = 0) → Q none (mXY Y, F', M', L)) : Cw (d + 2) 120 [.ref 18] (mXY Y, F, M, L) Q := by
  refine Cw_in rfl rfl ?_
  refine r_aload_n (p := 1) rfl rfl rfl ?_
  refine r_getR (p := 4) rfl rfl rfl rfl rfl ?_
  refine r_cV (p := 7) rfl rfl rfl (Nat.le_of_ble_eq_true rfl) rfl (s_X1_clear (mIL_19 Y) (fun F3 M3 R3 f3 => ?_))
  refine r_aload_n (p := 8) rfl rfl rfl ?_
  refine r_getR (p := 11) rfl rfl rfl rfl rfl ?_
  refine r_cV (p := 14) rfl rfl rfl (Nat.le_of_ble_eq_true rfl) rfl (s_X1_clear (mIL_22 Y) (fun F4 M4 R4 f4 => ?_))
  refine r_aload_n (p := 15) rfl rfl rfl ?_
  refine r_iconst (v := 0) (p := 16) rfl rfl rfl ?_
  refine r_putI (p := 19) rfl rfl rfl rfl ?_
  refine r_aload_n (p := 20) rfl rfl rfl ?_
  refine r_iconst (v := 0) (p := 21) rfl rfl rfl ?_
  refine r_putI (p := 24) rfl rfl rfl rfl ?_
  refine r_return rfl ?_
  refine hQ _ _ ⟨fun x k hx => ?_, fun x i hx => ?_⟩ (fun x k h1 h2 h3 => ?_) (fun x i h1 h2 h3 h4 => ?_) ?_ ?_ ⟨rfl, rfl⟩
  · rw [uF_ne (by omega), uF_ne (by omega), f4.1 _ _ (by omega), f3.1 _ _ (by omega)]
  · rw [f4.2 _ _ (by omega) (by omega), f3.2 _ _ (by omega) (by omega)]
  · rw [uF_ne h1, uF_ne h1, f4.1 _ _ h3, f3.1 _ _ h2]
  · rw [f4.2 _ _ h3 h4, f3.2 _ _ h1 h2]
  · exact R3.ext (f4.1 _ _ (by omega)) (fun i => f4.2 _ _ (by omega) (by omega)) (fun i => f4.2 _ _ (by omega) (by omega))
  · exact R4
def newN (s : mSt) (v : Int32) : mSt := wNu (newS s v) (sNu s)
set_option maxRecDepth 100000 in
theorem lp_X4_create {d : Nat} {Y : mY} {L : mL} {i : Int32} {F : mF} {M0 : mM} {m : Nat} {Q : Option Value → mW → Prop} (hi : inR i) (hm : m ≤ 4) (g3 : M0 3 i = 1) (g5 : M0 5 i = nI m) (h5 : ∀ i, inR i → M0 5 i ≤ 4) (hQ : ∀ M', (∀ a x, a ≠ 7 → M' a x = M0 a x) → (∀ x y, inR x → ¬ x = i → ¬ y < 0 → y < 4 → M' 7 (4 * x + y) = M0 7 (4 * x + y)) → (∀ y, y < m → M' 7 (4 * i + nI y) = -1) → Wp (d + 3) tX4_create 78 [some (.ref 2), some (.int (nI m)), some (.int i), some (.int (nI m))] [] (mXY Y, F, M', L) Q) :
    ∀ (n j : Nat) (M : mM), j + n = m → (∀ a x, a ≠ 7 → M a x = M0 a x) → (∀ x y, inR x → ¬ x = i → ¬ y < 0 → y < 4 → M 7 (4 * x + y) = M0 7 (4 * x + y)) → (∀ y, y < j → M 7 (4 * i + nI y) = -1) → Wp (d + 3) tX4_create 60 [some (.ref 2), some (.int (nI m)), some (.int i), some (.int (nI j))] [] (mXY Y, F, M, L) Q
  | 0, j, M, hj, i1, i2, i3 => by
    have e : j = m := by omega
    subst e
    refine r_iload_n (p := 61) rfl rfl rfl ?_
    refine r_iload_n (p := 62) rfl rfl rfl ?_
    refine r_icmp_ge (p := 65) rfl rfl (fun c1 => ?_) (fun c1 => ?_)
    · exact hQ M i1 i2 i3
    · exact absurd (nI_le (a := j) (b := j) (by omega) (by omega)) c1
  | n + 1, j, M, hj, i1, i2, i3 => by
    have e3 : M 3 i = 1 := by rw [i1 _ _ (by omega)]; exact g3
    have e5 : M 5 i = nI m := by rw [i1 _ _ (by omega)]; exact g5
    have hf : gM_X4_setField F M i (nI j) (-1) = uM M 7 (4 * i + nI j) (-1) := by
      unfold gM_X4_setField f_X4_hasField f_X4_isLive f_X4_fieldsOf
      simp only [if_neg hi.1, if_neg hi.2, e3, e5, if_neg (nI_pos (n := j) (by omega)), if_neg (nI_ge (a := j) (b := m) (by omega) (by omega)), if_neg (show ¬ (1 : Int32) = 0 by decide), ix4c]
    refine r_iload_n (p := 61) rfl rfl rfl ?_
    refine r_iload_n (p := 62) rfl rfl rfl ?_
    refine r_icmp_ge (p := 65) rfl rfl (fun c1 => ?_) (fun c1 => ?_)
    · exact absurd c1 (nI_ge (a := j) (b := m) (by omega) (by omega))
    · refine r_aload_n (p := 66) rfl rfl rfl ?_
      refine r_iload_n (p := 67) rfl rfl rfl ?_
      refine r_iload_n (p := 68) rfl rfl rfl ?_
      refine r_iconst (v := (-1)) (p := 69) rfl rfl rfl ?_
      refine r_cV (p := 72) rfl rfl rfl (Nat.le_of_ble_eq_true rfl) rfl (s_X4_setField (fun x hx => by rw [i1 _ _ (by omega)]; exact h5 x hx) ?_)
      rw [hf]
      refine r_iinc (v := nI (j + 1)) (p := 75) rfl rfl (nI_1 j) rfl rfl ?_
      refine r_goto rfl ?_
      refine lp_X4_create hi hm g3 g5 h5 hQ n (j + 1) _ (by omega) (fun a x ha => by rw [uM_ne ha]; exact i1 a x ha) (fun x y hx hne h0 h1 => ?_) (fun y hy => ?_)
      · rw [uM_at, if_neg (fun z => hne (ix4 hx hi h0 h1 (nI_pos (by omega)) (nI_lt (b := 4) (by omega) (by omega)) z).1)]; exact i2 x y hx hne h0 h1
      · rw [uM_at]
        by_cases e : y = j
        · rw [if_pos (by rw [e])]
        · rw [if_neg (fun z => e (nI_inj (by omega) (by omega) (ix4 hi hi (nI_pos (by omega)) (nI_lt (b := 4) (by omega) (by omega)) (nI_pos (by omega)) (nI_lt (b := 4) (by omega) (by omega)) z).2))]; exact i3 y (by omega)
set_option maxRecDepth 100000 in
theorem s_X4_create {d : Nat} {Y : mY} {F : mF} {M : mM} {L : mL} {s : mSt} {v : Int32} {Q : Option Value → mW → Prop} (H : RC s F M) (hI : Inv s) (hv : ¬ (v < 0 ∨ 4 < v)) (ha : ¬ (100 : Int32) ≤ sAl s) (hQ : ∀ F' M', RC (newN s v) F' M' → frC F M F' M' → Q (some (.int (sAl s))) (mXY Y, F', M', L)) : Cw (d + 4) 100 [.ref 2, .int v] (mXY Y, F, M, L) Q := by
  obtain ⟨n, hn, hal, hin, hg⟩ := al_new hI ha
  obtain ⟨m, hm, rfl⟩ := nI_of2 (M := 4) (n := 4) rfl (fun q => hv (Or.inl q)) (Int32.not_lt.mp fun q => hv (Or.inr q))
  obtain ⟨k1, k2, k3, k4, k5, k6, l1, l2, l3, l4, e1, ⟨e4, e5, e6, e7⟩, e3⟩ := H
  refine Cw_in rfl rfl ?_
  rw [← e4] at hin hg hQ
  have hi := hin
  refine r_aload_n (p := 1) rfl rfl rfl ?_
  refine r_getI (p := 4) rfl rfl rfl rfl ?_
  refine r_istore_n (p := 5) rfl rfl rfl ?_
  refine r_iload_n (p := 6) rfl rfl rfl ?_
  refine r_if_lt (p := 9) rfl rfl (fun c1 => ?_) (fun c1 => ?_)
  · first | exact absurd c1 hi.1 | exact absurd c2 hi.2 | exact absurd rfl c3
  · refine r_iload_n (p := 10) rfl rfl rfl ?_
    refine r_bipush (v := 100) (p := 12) rfl rfl rfl ?_
    refine r_icmp_ge (p := 15) rfl rfl (fun c2 => ?_) (fun c2 => ?_)
    · first | exact absurd c1 hi.1 | exact absurd c2 hi.2 | exact absurd rfl c3
    · refine r_iload_n (p := 16) rfl rfl rfl ?_
      refine r_iconst (v := 0) (p := 17) rfl rfl rfl ?_
      refine r_iconst (v := 4) (p := 18) rfl rfl rfl ?_
      refine r_cS7 (p := 21) rfl rfl (Nat.le_of_ble_eq_true rfl) rfl (s_X6_outside ?_)
      rw [out_eq, if_neg hv]
      refine r_if_eq (p := 24) rfl rfl (fun _ => ?_) (fun c => absurd c (by decide))
      refine r_aload_n (p := 28) rfl rfl rfl ?_
      refine r_dup (p := 29) rfl rfl rfl ?_
      refine r_getI (p := 32) rfl rfl rfl rfl ?_
      refine r_iconst (v := 1) (p := 33) rfl rfl rfl ?_
      refine r_iadd (p := 34) rfl rfl ?_
      refine r_putI (p := 37) rfl rfl rfl rfl ?_
      refine r_aload_n (p := 38) rfl rfl rfl ?_
      refine r_getR (p := 41) rfl rfl rfl rfl rfl ?_
      refine r_iload_n (p := 42) rfl rfl rfl ?_
      refine r_iconst (v := 1) (p := 43) rfl rfl rfl ?_
      refine r_iast (p := 44) rfl rfl rfl (vpi (v := 100) (by decide) rfl hi.1 hi.2) (by decide) rfl ?_
      refine r_aload_n (p := 45) rfl rfl rfl ?_
      refine r_getR (p := 48) rfl rfl rfl rfl rfl ?_
      refine r_iload_n (p := 49) rfl rfl rfl ?_
      refine r_iconst (v := 0) (p := 50) rfl rfl rfl ?_
      refine r_iast (p := 51) rfl rfl rfl (vpi (v := 100) (by decide) rfl hi.1 hi.2) (by decide) rfl ?_
      refine r_aload_n (p := 52) rfl rfl rfl ?_
      refine r_getR (p := 55) rfl rfl rfl rfl rfl ?_
      refine r_iload_n (p := 56) rfl rfl rfl ?_
      refine r_iload_n (p := 57) rfl rfl rfl ?_
      refine r_iast (p := 58) rfl rfl rfl (vpi (v := 100) (by decide) rfl hi.1 hi.2) (by decide) rfl ?_
      refine r_iconst (v := 0) (p := 59) rfl rfl rfl ?_
      refine r_istore_n (p := 60) rfl rfl rfl ?_
      refine lp_X4_create (m := m) hi hm (by show (if _ then _ else _) = _; rw [if_pos rfl]) (by show (if _ then _ else _) = _; rw [if_pos rfl]) (fun x hx => ?_) (fun M' j1 j2 j3 => ?_) m 0 _ (by omega) (fun _ _ _ => rfl) (fun _ _ _ _ _ _ => rfl) (fun y hy => absurd hy (Nat.not_lt_zero _))
      · show (if _ then _ else M 5 x) ≤ 4
        split
        · exact nI_le (b := 4) hm (by omega)
        · rw [k3 x hx]
          obtain ⟨q, hq, e⟩ := hI.2.2.1 x hx
          rw [e]
          exact nI_le (b := 4) hq (by omega)
      have hz : f_X4_sizeOf (uF F 2 5 ((F 2 5) + 1)) M' (F 2 5) = 1 + nI m := by
        unfold f_X4_sizeOf
        rw [if_neg hi.1, if_neg hi.2, j1 _ _ (by omega)]
        show 1 + (if F 2 5 = F 2 5 then nI m else M 5 (F 2 5)) = _
        rw [if_pos rfl]
      refine r_aload_n (p := 79) rfl rfl rfl ?_
      refine r_dup (p := 80) rfl rfl rfl ?_
      refine r_getI (p := 83) rfl rfl rfl rfl ?_
      refine r_aload_n (p := 84) rfl rfl rfl ?_
      refine r_iload_n (p := 85) rfl rfl rfl ?_
      refine r_cV (p := 88) rfl rfl rfl (Nat.le_of_ble_eq_true rfl) rfl (s_X4_sizeOf ?_)
      rw [hz]
      refine r_iadd (p := 89) rfl rfl ?_
      refine r_putI (p := 92) rfl rfl rfl rfl ?_
      refine r_iload_n (p := 93) rfl rfl rfl ?_
      refine r_ireturn rfl trivial ?_
      have A : ∀ {a x}, a ≠ 7 → a ≠ 3 → a ≠ 4 → a ≠ 5 → M' a x = M a x := fun {a x} h7 h3 h4 h5 => by rw [j1 _ _ h7, uM_ne h5, uM_ne h4, uM_ne h3]
      refine hQ _ _ ⟨fun x hx => ?_, fun x hx => ?_, fun x hx => ?_, fun x hx hg2 hp => ?_, fun x y hx hg2 h0 h1 => ?_, fun k hk => ?_, ?_, ?_, ?_, ?_, e1, ⟨?_, ?_, ?_, ?_⟩, e3⟩ ⟨fun a k ha => by rw [uF_ne (by omega), uF_ne (by omega)], fun a k ha => A (by omega) (by omega) (by omega) (by omega)⟩
      · rw [j1 _ _ (by omega)]
        show (if x = F 2 5 then 1 else M 3 x) = if x = sAl s then 1 else sG s x
        rw [e4, k1 x hx]
      · rw [j1 _ _ (by omega)]
        show (if x = F 2 5 then 0 else M 4 x) = if x = sAl s then 0 else sA s x
        rw [e4, k2 x hx]
      · rw [j1 _ _ (by omega)]
        show (if x = F 2 5 then nI m else M 5 x) = if x = sAl s then nI m else sN s x
        rw [e4, k3 x hx]
      · rw [A (by omega) (by omega) (by omega) (by omega)]
        have hg2 : (if x = sAl s then 1 else sG s x) = 2 := hg2
        split at hg2
        · exact absurd hg2 (by decide)
        · exact k4 x hx hg2 hp
      · rw [ix4c]
        have hg2 : ¬ (if x = sAl s then 1 else sG s x) = 0 := hg2
        have h1 : y < (if x = sAl s then nI m else sN s x) := h1
        show _ = r4 (sR s) (sAl s) (4 * x + y)
        by_cases hxe : x = sAl s
        · rw [if_pos hxe] at h1
          obtain ⟨b, hb, rfl⟩ := nI_of h0
          have hb2 : b < m := (nI_ltI hb (by omega)).mp h1
          rw [hxe, r4_at h0 (nI_lt (b := 4) (by omega) (by omega)), ← e4]
          exact j3 b hb2
        · rw [if_neg hxe] at h1 hg2
          obtain ⟨q, hq, e⟩ := hI.2.2.1 x hx
          have h4 : y < 4 := Int32.lt_of_lt_of_le h1 (by rw [e]; exact nI_le (b := 4) hq (by omega))
          have hi2 : inR (sAl s) := by rw [← e4]; exact hi
          rw [r4_ne hx hi2 hxe h0 h4, j2 x y hx (by rw [e4]; exact hxe) h0 h4, ← k5 x y hx hg2 h0 h1, ix4c]
          rfl
      · rw [A (by omega) (by omega) (by omega) (by omega)]; exact k6 k hk
      · exact l1.ext rfl (fun _ => A (by omega) (by omega) (by omega) (by omega)) (fun _ => A (by omega) (by omega) (by omega) (by omega))
      · exact l2.ext rfl (fun _ => A (by omega) (by omega) (by omega) (by omega)) (fun _ => A (by omega) (by omega) (by omega) (by omega))
      · exact l3.ext rfl (fun _ => A (by omega) (by omega) (by omega) (by omega)) (fun _ => A (by omega) (by omega) (by omega) (by omega))
      · exact l4.ext rfl (fun _ => A (by omega) (by omega) (by omega) (by omega)) (fun _ => A (by omega) (by omega) (by omega) (by omega))
      · show F 2 5 + 1 = sAl s + 1; rw [e4]
      · show F 2 6 + (1 + nI m) = wds (up1 (sG s) (sAl s) 1) (up1 (sN s) (sAl s) (nI m)) 1
        rw [← e4, wds_new hi (by rw [hg]; decide), e5]; rfl
      · show F 2 7 = wds (up1 (sG s) (sAl s) 1) (up1 (sN s) (sAl s) (nI m)) 2
        rw [← e4, wds_new hi (by rw [hg]; decide), e6]; exact (Int32.add_zero _).symm
      · show F 2 8 = cnt (up1 (sG s) (sAl s) 1) 2
        rw [← e4, cnt_upd hi, if_neg (by rw [hg]; decide), if_neg (by decide), e7, Int32.sub_zero, Int32.add_zero]
