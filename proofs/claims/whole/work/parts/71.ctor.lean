/-! ===== the constructors ===== -/
def clr (R : Nat → Nat → Option Nat) (n : Nat) : Nat → Nat → Option Nat := fun h k => cond (Nat.beq h n) none (R h k)
section NK
variable {d : Nat} {T : mT} {pc p : Nat} {ls : mLs} {st : List Value} {Q : Option Value → mW → Prop} {F : mF} {M : mM} {L : mL} {i l a b n m sl s' : Nat} {kt : Nat → Nat × Nat} {R : Nat → Nat → Option Nat} {E : mN}
theorem kt_same {kd : Nat × Nat} (hk : mKb kt n = kd) : (fun h => cond (Nat.beq h n) kd (mKb kt h)) = mKb kt := by
  funext h
  by_cases e : h = n
  · rw [e, beq_rf, hk]; rfl
  · rw [beq_ne e]; rfl
theorem r_newK (hk : mKb kt n = (0, a)) (he : mlk2 T pc = some (.new i, l, a, b, 0)) (hp : pc + 3 = p) (hm : n + 1 = m) (hs : sl + b = s') (hz : Wp d T p ls (.ref n :: st) ((m, s', mKb kt, clr R n, E), zF F n, M, zL L n) Q) : Wp d T pc ls st ((n, sl, mKb kt, R, E), F, M, L) Q := by
  subst hm hs
  refine r_new he hp ?_
  show Wp d T p ls (.ref n :: st) ((n + 1, sl + b, (fun h => cond (Nat.beq h n) (0, a) (mKb kt h)), clr R n, E), zF F n, M, zL L n) Q
  rw [kt_same hk]
  exact hz
theorem r_newaK {t : ArrayType} {x : Int32} {N : Nat} {q : Nat × Nat} (hk : mKb kt n = (a, N)) (he : mlk2 T pc = some (.newarray t, l, a, q)) (ha : a = 1 ∨ a = 2 ∨ a = 3) (hx : ¬ x < 0) (hN : x.toNatClampNeg = N) (hN2 : N ≤ 65536) (hp : pc + 2 = p) (hm : n + 1 = m) (hs : sl + N = s') (hz : Wp d T p ls (.ref n :: st) ((m, s', mKb kt, clr R n, E), zF F n, sM M n (fun _ => 0), zL L n) Q) : Wp d T pc ls (.int x :: st) ((n, sl, mKb kt, R, E), F, M, L) Q := by
  subst hm hs
  refine r_newa he ha hx hN hN2 hp ?_
  show Wp d T p ls (.ref n :: st) ((n + 1, sl + N, (fun h => cond (Nat.beq h n) (a, N) (mKb kt h)), clr R n, E), zF F n, sM M n (fun _ => 0), zL L n) Q
  rw [kt_same hk]
  exact hz
theorem r_putRK {h y : Nat} (he : mlk2 T pc = some (.putfield i, l, a, b, 2)) (hB : Nat.blt h mB = true) (hk : mKb kt h = (0, a)) (hp : pc + 3 = p) (hz : Wp d T p ls st ((n, sl, mKb kt, uR R h b (some y), E), F, M, L) Q) : Wp d T pc ls (.ref y :: .ref h :: st) ((n, sl, mKb kt, R, E), F, M, L) Q := r_putR he hB hk hp hz
end NK
theorem uR_k {R : Nat → Nat → Option Nat} {h k a b : Nat} {v : Option Nat} (e : k ≠ b) : uR R a b v h k = R h k := by
  unfold uR
  rw [beq_ne e]
  cases Nat.beq h a <;> rfl
theorem uR_h {R : Nat → Nat → Option Nat} {h k a b : Nat} {v : Option Nat} (e : h ≠ a) : uR R a b v h k = R h k := by
  unfold uR
  rw [beq_ne e]
  rfl
theorem clr_ne {R : Nat → Nat → Option Nat} {h k n : Nat} (e : h ≠ n) : clr R n h k = R h k := by
  unfold clr
  rw [beq_ne e]
  rfl
theorem clr_none {R : Nat → Nat → Option Nat} {h k n : Nat} (e : R h k = none) : clr R n h k = none := by
  unfold clr
  cases Nat.beq h n
  · exact e
  · rfl
def R0 : Nat → Nat → Option Nat := mRb (some 1000000) (fun _ _ => none)
abbrev Yc (n sl : Nat) (kt : Nat → Nat × Nat) (E : mN) : mY := (n, sl, kt, some 1000000, (fun _ _ => none), E)
def s00 : mSt := ((fun _ => 0, fun _ => 0, fun _ => 0, fun _ => 0, fun _ => 0, fun _ => -1), ([], [], [], []), (0, 24, 60, 2, 0, 0, 0, 0))
def b00 : mBs := (s00, fun _ => 0, [], [])
theorem hi_k {k : Nat} (hk : 40 ≤ k) : ∀ j, j < 40 → Nat.beq k j = false := fun j hj => beq_ne (by omega)
theorem R0_hi {h k : Nat} (hh : h < 53) (hk : 40 ≤ k) : R0 h k = none := by
  unfold R0 mRb
  rw [blt_t hh, hi_k hk 6 (by omega), Bool.and_false]
  show mR0 h k = none
  unfold mR0
  simp only [hi_k hk 0 (by omega), hi_k hk 1 (by omega), hi_k hk 2 (by omega), hi_k hk 3 (by omega), hi_k hk 4 (by omega), hi_k hk 5 (by omega), hi_k hk 6 (by omega), hi_k hk 7 (by omega), hi_k hk 8 (by omega), hi_k hk 9 (by omega), hi_k hk 10 (by omega), hi_k hk 12 (by omega), hi_k hk 14 (by omega), hi_k hk 16 (by omega), hi_k hk 22 (by omega), hi_k hk 24 (by omega), hi_k hk 26 (by omega), hi_k hk 28 (by omega), hi_k hk 30 (by omega), hi_k hk 31 (by omega), hi_k hk 32 (by omega), hi_k hk 33 (by omega), cond_false, Bool.cond_self]
theorem Rc_eq : (uR (uR (clr (uR (uR (clr (uR (clr (uR (clr (clr (uR (uR (uR (uR (uR (uR (clr (uR (clr (clr (clr (uR (uR (uR (uR (uR (clr (uR (clr (clr (uR (uR (clr (uR (clr (clr (clr (uR (uR (uR (uR (clr (uR (clr (clr (uR (uR (clr (uR (clr (clr (uR (uR (clr (uR (clr (clr (uR (clr (uR (uR (clr (uR (clr (uR (clr (uR (clr (uR (clr (clr (clr (clr R0 0) 1) 2) 3) 2 0 (some 3)) 4) 2 1 (some 4)) 5) 2 2 (some 5)) 6) 2 3 (some 6)) 7) 2 4 (some 7)) 1 0 (some 2)) 8) 1 1 (some 8)) 9) 10) 9 0 (some 10)) 11) 9 1 (some 11)) 1 2 (some 9)) 12) 13) 12 0 (some 13)) 14) 12 1 (some 14)) 1 3 (some 12)) 15) 16) 15 0 (some 16)) 17) 15 1 (some 17)) 1 4 (some 15)) 0 0 (some 1)) 0 1 (some 2)) 18) 19) 20) 19 0 (some 20)) 21) 19 1 (some 21)) 18 2 (some 19)) 22) 23) 22 0 (some 23)) 24) 22 1 (some 24)) 18 3 (some 22)) 18 0 (some 1)) 18 1 (some 2)) 0 2 (some 18)) 25) 26) 27) 26 0 (some 27)) 28) 26 1 (some 28)) 25 3 (some 26)) 25 0 (some 1)) 25 1 (some 2)) 25 2 (some 18)) 0 3 (some 25)) 29) 30) 29 0 (some 30)) 31) 29 1 (some 31)) 32) 29 2 (some 32)) 0 4 (some 29)) 33) 0 5 (some 33)) 0 6 (some 1000000)) = R0 := by
  funext h k
  by_cases hh : h < 53
  · by_cases hk : k < 40
    · have key : ∀ (h : Fin 53) (k : Fin 40), (uR (uR (clr (uR (uR (clr (uR (clr (uR (clr (clr (uR (uR (uR (uR (uR (uR (clr (uR (clr (clr (clr (uR (uR (uR (uR (uR (clr (uR (clr (clr (uR (uR (clr (uR (clr (clr (clr (uR (uR (uR (uR (clr (uR (clr (clr (uR (uR (clr (uR (clr (clr (uR (uR (clr (uR (clr (clr (uR (clr (uR (uR (clr (uR (clr (uR (clr (uR (clr (uR (clr (clr (clr (clr R0 0) 1) 2) 3) 2 0 (some 3)) 4) 2 1 (some 4)) 5) 2 2 (some 5)) 6) 2 3 (some 6)) 7) 2 4 (some 7)) 1 0 (some 2)) 8) 1 1 (some 8)) 9) 10) 9 0 (some 10)) 11) 9 1 (some 11)) 1 2 (some 9)) 12) 13) 12 0 (some 13)) 14) 12 1 (some 14)) 1 3 (some 12)) 15) 16) 15 0 (some 16)) 17) 15 1 (some 17)) 1 4 (some 15)) 0 0 (some 1)) 0 1 (some 2)) 18) 19) 20) 19 0 (some 20)) 21) 19 1 (some 21)) 18 2 (some 19)) 22) 23) 22 0 (some 23)) 24) 22 1 (some 24)) 18 3 (some 22)) 18 0 (some 1)) 18 1 (some 2)) 0 2 (some 18)) 25) 26) 27) 26 0 (some 27)) 28) 26 1 (some 28)) 25 3 (some 26)) 25 0 (some 1)) 25 1 (some 2)) 25 2 (some 18)) 0 3 (some 25)) 29) 30) 29 0 (some 30)) 31) 29 1 (some 31)) 32) 29 2 (some 32)) 0 4 (some 29)) 33) 0 5 (some 33)) 0 6 (some 1000000)) h.1 k.1 = R0 h.1 k.1 := by decide +kernel
      exact key ⟨h, hh⟩ ⟨k, hk⟩
    · have z := R0_hi hh (show 40 ≤ k by omega)
      rw [z]
      exact (uR_k (by omega)).trans ((uR_k (by omega)).trans (clr_none ((uR_k (by omega)).trans ((uR_k (by omega)).trans (clr_none ((uR_k (by omega)).trans (clr_none ((uR_k (by omega)).trans (clr_none (clr_none ((uR_k (by omega)).trans ((uR_k (by omega)).trans ((uR_k (by omega)).trans ((uR_k (by omega)).trans ((uR_k (by omega)).trans ((uR_k (by omega)).trans (clr_none ((uR_k (by omega)).trans (clr_none (clr_none (clr_none ((uR_k (by omega)).trans ((uR_k (by omega)).trans ((uR_k (by omega)).trans ((uR_k (by omega)).trans ((uR_k (by omega)).trans (clr_none ((uR_k (by omega)).trans (clr_none (clr_none ((uR_k (by omega)).trans ((uR_k (by omega)).trans (clr_none ((uR_k (by omega)).trans (clr_none (clr_none (clr_none ((uR_k (by omega)).trans ((uR_k (by omega)).trans ((uR_k (by omega)).trans ((uR_k (by omega)).trans (clr_none ((uR_k (by omega)).trans (clr_none (clr_none ((uR_k (by omega)).trans ((uR_k (by omega)).trans (clr_none ((uR_k (by omega)).trans (clr_none (clr_none ((uR_k (by omega)).trans ((uR_k (by omega)).trans (clr_none ((uR_k (by omega)).trans (clr_none (clr_none ((uR_k (by omega)).trans (clr_none ((uR_k (by omega)).trans ((uR_k (by omega)).trans (clr_none ((uR_k (by omega)).trans (clr_none ((uR_k (by omega)).trans (clr_none ((uR_k (by omega)).trans (clr_none ((uR_k (by omega)).trans (clr_none (clr_none (clr_none (clr_none (z))))))))))))))))))))))))))))))))))))))))))))))))))))))))))))))))))))))))))
  · exact (uR_h (by omega)).trans ((uR_h (by omega)).trans ((clr_ne (by omega)).trans ((uR_h (by omega)).trans ((uR_h (by omega)).trans ((clr_ne (by omega)).trans ((uR_h (by omega)).trans ((clr_ne (by omega)).trans ((uR_h (by omega)).trans ((clr_ne (by omega)).trans ((clr_ne (by omega)).trans ((uR_h (by omega)).trans ((uR_h (by omega)).trans ((uR_h (by omega)).trans ((uR_h (by omega)).trans ((uR_h (by omega)).trans ((uR_h (by omega)).trans ((clr_ne (by omega)).trans ((uR_h (by omega)).trans ((clr_ne (by omega)).trans ((clr_ne (by omega)).trans ((clr_ne (by omega)).trans ((uR_h (by omega)).trans ((uR_h (by omega)).trans ((uR_h (by omega)).trans ((uR_h (by omega)).trans ((uR_h (by omega)).trans ((clr_ne (by omega)).trans ((uR_h (by omega)).trans ((clr_ne (by omega)).trans ((clr_ne (by omega)).trans ((uR_h (by omega)).trans ((uR_h (by omega)).trans ((clr_ne (by omega)).trans ((uR_h (by omega)).trans ((clr_ne (by omega)).trans ((clr_ne (by omega)).trans ((clr_ne (by omega)).trans ((uR_h (by omega)).trans ((uR_h (by omega)).trans ((uR_h (by omega)).trans ((uR_h (by omega)).trans ((clr_ne (by omega)).trans ((uR_h (by omega)).trans ((clr_ne (by omega)).trans ((clr_ne (by omega)).trans ((uR_h (by omega)).trans ((uR_h (by omega)).trans ((clr_ne (by omega)).trans ((uR_h (by omega)).trans ((clr_ne (by omega)).trans ((clr_ne (by omega)).trans ((uR_h (by omega)).trans ((uR_h (by omega)).trans ((clr_ne (by omega)).trans ((uR_h (by omega)).trans ((clr_ne (by omega)).trans ((clr_ne (by omega)).trans ((uR_h (by omega)).trans ((clr_ne (by omega)).trans ((uR_h (by omega)).trans ((uR_h (by omega)).trans ((clr_ne (by omega)).trans ((uR_h (by omega)).trans ((clr_ne (by omega)).trans ((uR_h (by omega)).trans ((clr_ne (by omega)).trans ((uR_h (by omega)).trans ((clr_ne (by omega)).trans ((uR_h (by omega)).trans ((clr_ne (by omega)).trans ((clr_ne (by omega)).trans ((clr_ne (by omega)).trans ((clr_ne (by omega)).trans (rfl))))))))))))))))))))))))))))))))))))))))))))))))))))))))))))))))))))))))))
set_option maxRecDepth 100000 in
theorem s_X6_init {d : Nat} {kt : Nat → Nat × Nat} {E : mN} {F : mF} {M : mM} {L : mL} {Q : Option Value → mW → Prop} (hQ : ∀ F' M' L', BC b00 (Yc 34 2318 kt E) F' M' → Q none (mXY (Yc 34 2318 kt E), F', M', L')) : Cw (d + 4) 171 [.ref 0] ((1, 7, mKb kt, clr R0 0, E), zF F 0, M, L) Q := by
  refine Cw_in rfl rfl ?_
  refine r_aload_n (p := 1) rfl rfl rfl ?_
  refine r_obj (p := 4) rfl (Nat.le_of_ble_eq_true rfl) rfl ?_
  refine r_aload_n (p := 5) rfl rfl rfl ?_
  refine r_newK (m := 2) (s' := 15) rfl rfl (p := 8) rfl rfl rfl ?_
  refine r_dup (p := 9) rfl rfl rfl ?_
  refine r_cIN (p := 12) rfl rfl (Nat.le_of_ble_eq_true rfl) rfl (Cw_in rfl rfl ?_)
  refine r_aload_n (p := 1) rfl rfl rfl ?_
  refine r_obj (p := 4) rfl (Nat.le_of_ble_eq_true rfl) rfl ?_
  refine r_aload_n (p := 5) rfl rfl rfl ?_
  refine r_newK (m := 3) (s' := 24) rfl rfl (p := 8) rfl rfl rfl ?_
  refine r_dup (p := 9) rfl rfl rfl ?_
  refine r_cIN (p := 12) rfl rfl (Nat.le_of_ble_eq_true rfl) rfl (Cw_in rfl rfl ?_)
  refine r_aload_n (p := 1) rfl rfl rfl ?_
  refine r_obj (p := 4) rfl (Nat.le_of_ble_eq_true rfl) rfl ?_
  refine r_aload_n (p := 5) rfl rfl rfl ?_
  refine r_bipush (v := 100) (p := 7) rfl rfl rfl ?_
  refine r_newaK (m := 4) (s' := 124) (N := 100) rfl rfl (Or.inl rfl) (by decide) rfl (by decide) (p := 9) rfl rfl rfl ?_
  refine r_putRK (p := 12) rfl rfl rfl rfl ?_
  refine r_aload_n (p := 13) rfl rfl rfl ?_
  refine r_bipush (v := 100) (p := 15) rfl rfl rfl ?_
  refine r_newaK (m := 5) (s' := 224) (N := 100) rfl rfl (Or.inl rfl) (by decide) rfl (by decide) (p := 17) rfl rfl rfl ?_
  refine r_putRK (p := 20) rfl rfl rfl rfl ?_
  refine r_aload_n (p := 21) rfl rfl rfl ?_
  refine r_bipush (v := 100) (p := 23) rfl rfl rfl ?_
  refine r_newaK (m := 6) (s' := 324) (N := 100) rfl rfl (Or.inl rfl) (by decide) rfl (by decide) (p := 25) rfl rfl rfl ?_
  refine r_putRK (p := 28) rfl rfl rfl rfl ?_
  refine r_aload_n (p := 29) rfl rfl rfl ?_
  refine r_bipush (v := 100) (p := 31) rfl rfl rfl ?_
  refine r_newaK (m := 7) (s' := 424) (N := 100) rfl rfl (Or.inl rfl) (by decide) rfl (by decide) (p := 33) rfl rfl rfl ?_
  refine r_putRK (p := 36) rfl rfl rfl rfl ?_
  refine r_aload_n (p := 37) rfl rfl rfl ?_
  refine r_sipush (v := 400) (p := 40) rfl rfl rfl ?_
  refine r_newaK (m := 8) (s' := 824) (N := 400) rfl rfl (Or.inl rfl) (by decide) rfl (by decide) (p := 42) rfl rfl rfl ?_
  refine r_putRK (p := 45) rfl rfl rfl rfl ?_
  refine r_aload_n (p := 46) rfl rfl rfl ?_
  refine r_iconst (v := 0) (p := 47) rfl rfl rfl ?_
  refine r_putI (p := 50) rfl rfl rfl rfl ?_
  refine r_aload_n (p := 51) rfl rfl rfl ?_
  refine r_iconst (v := 0) (p := 52) rfl rfl rfl ?_
  refine r_putI (p := 55) rfl rfl rfl rfl ?_
  refine r_aload_n (p := 56) rfl rfl rfl ?_
  refine r_iconst (v := 0) (p := 57) rfl rfl rfl ?_
  refine r_putI (p := 60) rfl rfl rfl rfl ?_
  refine r_aload_n (p := 61) rfl rfl rfl ?_
  refine r_iconst (v := 0) (p := 62) rfl rfl rfl ?_
  refine r_putI (p := 65) rfl rfl rfl rfl ?_
  refine r_return rfl ?_
  refine r_putRK (p := 15) rfl rfl rfl rfl ?_
  refine r_aload_n (p := 16) rfl rfl rfl ?_
  refine r_iconst (v := 4) (p := 17) rfl rfl rfl ?_
  refine r_newaK (m := 9) (s' := 828) (N := 4) rfl rfl (Or.inl rfl) (by decide) rfl (by decide) (p := 19) rfl rfl rfl ?_
  refine r_putRK (p := 22) rfl rfl rfl rfl ?_
  refine r_aload_n (p := 23) rfl rfl rfl ?_
  refine r_newK (m := 10) (s' := 831) rfl rfl (p := 26) rfl rfl rfl ?_
  refine r_dup (p := 27) rfl rfl rfl ?_
  refine r_cIN (p := 30) rfl rfl (Nat.le_of_ble_eq_true rfl) rfl (Cw_in rfl rfl ?_)
  refine r_aload_n (p := 1) rfl rfl rfl ?_
  refine r_obj (p := 4) rfl (Nat.le_of_ble_eq_true rfl) rfl ?_
  refine r_aload_n (p := 5) rfl rfl rfl ?_
  refine r_bipush (v := 100) (p := 7) rfl rfl rfl ?_
  refine r_newaK (m := 11) (s' := 931) (N := 100) rfl rfl (Or.inl rfl) (by decide) rfl (by decide) (p := 9) rfl rfl rfl ?_
  refine r_putRK (p := 12) rfl rfl rfl rfl ?_
  refine r_aload_n (p := 13) rfl rfl rfl ?_
  refine r_bipush (v := 100) (p := 15) rfl rfl rfl ?_
  refine r_newaK (m := 12) (s' := 1031) (N := 100) rfl rfl (Or.inr (Or.inl rfl)) (by decide) rfl (by decide) (p := 17) rfl rfl rfl ?_
  refine r_putRK (p := 20) rfl rfl rfl rfl ?_
  refine r_aload_n (p := 21) rfl rfl rfl ?_
  refine r_iconst (v := 0) (p := 22) rfl rfl rfl ?_
  refine r_putI (p := 25) rfl rfl rfl rfl ?_
  refine r_return rfl ?_
  refine r_putRK (p := 33) rfl rfl rfl rfl ?_
  refine r_aload_n (p := 34) rfl rfl rfl ?_
  refine r_newK (m := 13) (s' := 1034) rfl rfl (p := 37) rfl rfl rfl ?_
  refine r_dup (p := 38) rfl rfl rfl ?_
  refine r_cIN (p := 41) rfl rfl (Nat.le_of_ble_eq_true rfl) rfl (Cw_in rfl rfl ?_)
  refine r_aload_n (p := 1) rfl rfl rfl ?_
  refine r_obj (p := 4) rfl (Nat.le_of_ble_eq_true rfl) rfl ?_
  refine r_aload_n (p := 5) rfl rfl rfl ?_
  refine r_bipush (v := 100) (p := 7) rfl rfl rfl ?_
  refine r_newaK (m := 14) (s' := 1134) (N := 100) rfl rfl (Or.inl rfl) (by decide) rfl (by decide) (p := 9) rfl rfl rfl ?_
  refine r_putRK (p := 12) rfl rfl rfl rfl ?_
  refine r_aload_n (p := 13) rfl rfl rfl ?_
  refine r_bipush (v := 100) (p := 15) rfl rfl rfl ?_
  refine r_newaK (m := 15) (s' := 1234) (N := 100) rfl rfl (Or.inr (Or.inl rfl)) (by decide) rfl (by decide) (p := 17) rfl rfl rfl ?_
  refine r_putRK (p := 20) rfl rfl rfl rfl ?_
  refine r_aload_n (p := 21) rfl rfl rfl ?_
  refine r_iconst (v := 0) (p := 22) rfl rfl rfl ?_
  refine r_putI (p := 25) rfl rfl rfl rfl ?_
  refine r_return rfl ?_
  refine r_putRK (p := 44) rfl rfl rfl rfl ?_
  refine r_aload_n (p := 45) rfl rfl rfl ?_
  refine r_newK (m := 16) (s' := 1237) rfl rfl (p := 48) rfl rfl rfl ?_
  refine r_dup (p := 49) rfl rfl rfl ?_
  refine r_cIN (p := 52) rfl rfl (Nat.le_of_ble_eq_true rfl) rfl (Cw_in rfl rfl ?_)
  refine r_aload_n (p := 1) rfl rfl rfl ?_
  refine r_obj (p := 4) rfl (Nat.le_of_ble_eq_true rfl) rfl ?_
  refine r_aload_n (p := 5) rfl rfl rfl ?_
  refine r_bipush (v := 100) (p := 7) rfl rfl rfl ?_
  refine r_newaK (m := 17) (s' := 1337) (N := 100) rfl rfl (Or.inl rfl) (by decide) rfl (by decide) (p := 9) rfl rfl rfl ?_
  refine r_putRK (p := 12) rfl rfl rfl rfl ?_
  refine r_aload_n (p := 13) rfl rfl rfl ?_
  refine r_bipush (v := 100) (p := 15) rfl rfl rfl ?_
  refine r_newaK (m := 18) (s' := 1437) (N := 100) rfl rfl (Or.inr (Or.inl rfl)) (by decide) rfl (by decide) (p := 17) rfl rfl rfl ?_
  refine r_putRK (p := 20) rfl rfl rfl rfl ?_
  refine r_aload_n (p := 21) rfl rfl rfl ?_
  refine r_iconst (v := 0) (p := 22) rfl rfl rfl ?_
  refine r_putI (p := 25) rfl rfl rfl rfl ?_
  refine r_return rfl ?_
  refine r_putRK (p := 55) rfl rfl rfl rfl ?_
  refine r_aload_n (p := 56) rfl rfl rfl ?_
  refine r_iconst (v := 0) (p := 57) rfl rfl rfl ?_
  refine r_putI (p := 60) rfl rfl rfl rfl ?_
  refine r_aload_n (p := 61) rfl rfl rfl ?_
  refine r_iconst (v := 0) (p := 62) rfl rfl rfl ?_
  refine r_putI (p := 65) rfl rfl rfl rfl ?_
  refine r_aload_n (p := 66) rfl rfl rfl ?_
  refine r_iconst (v := 0) (p := 67) rfl rfl rfl ?_
  refine r_putI (p := 70) rfl rfl rfl rfl ?_
  refine r_return rfl ?_
  refine r_putRK (p := 15) rfl rfl rfl rfl ?_
  refine r_aload_n (p := 16) rfl rfl rfl ?_
  refine r_aload_n (p := 17) rfl rfl rfl ?_
  refine r_getR (y := 1) (p := 20) rfl rfl rfl rfl rfl ?_
  refine r_cV (p := 23) rfl rfl rfl (Nat.le_of_ble_eq_true rfl) rfl (Cw_in rfl rfl ?_)
  refine r_aload_n (p := 1) rfl rfl rfl ?_
  refine r_getR (y := 2) (p := 4) rfl rfl rfl rfl rfl ?_
  refine r_areturn rfl ?_
  refine r_putRK (p := 26) rfl rfl rfl rfl ?_
  refine r_aload_n (p := 27) rfl rfl rfl ?_
  refine r_newK (m := 19) (s' := 1443) rfl rfl (p := 30) rfl rfl rfl ?_
  refine r_dup (p := 31) rfl rfl rfl ?_
  refine r_aload_n (p := 32) rfl rfl rfl ?_
  refine r_getR (y := 1) (p := 35) rfl rfl rfl rfl rfl ?_
  refine r_cI (p := 38) rfl rfl (Nat.le_of_ble_eq_true rfl) rfl (Cw_in rfl rfl ?_)
  refine r_aload_n (p := 1) rfl rfl rfl ?_
  refine r_obj (p := 4) rfl (Nat.le_of_ble_eq_true rfl) rfl ?_
  refine r_aload_n (p := 5) rfl rfl rfl ?_
  refine r_newK (m := 20) (s' := 1446) rfl rfl (p := 8) rfl rfl rfl ?_
  refine r_dup (p := 9) rfl rfl rfl ?_
  refine r_cIN (p := 12) rfl rfl (Nat.le_of_ble_eq_true rfl) rfl (Cw_in rfl rfl ?_)
  refine r_aload_n (p := 1) rfl rfl rfl ?_
  refine r_obj (p := 4) rfl (Nat.le_of_ble_eq_true rfl) rfl ?_
  refine r_aload_n (p := 5) rfl rfl rfl ?_
  refine r_bipush (v := 100) (p := 7) rfl rfl rfl ?_
  refine r_newaK (m := 21) (s' := 1546) (N := 100) rfl rfl (Or.inl rfl) (by decide) rfl (by decide) (p := 9) rfl rfl rfl ?_
  refine r_putRK (p := 12) rfl rfl rfl rfl ?_
  refine r_aload_n (p := 13) rfl rfl rfl ?_
  refine r_bipush (v := 100) (p := 15) rfl rfl rfl ?_
  refine r_newaK (m := 22) (s' := 1646) (N := 100) rfl rfl (Or.inr (Or.inl rfl)) (by decide) rfl (by decide) (p := 17) rfl rfl rfl ?_
  refine r_putRK (p := 20) rfl rfl rfl rfl ?_
  refine r_aload_n (p := 21) rfl rfl rfl ?_
  refine r_iconst (v := 0) (p := 22) rfl rfl rfl ?_
  refine r_putI (p := 25) rfl rfl rfl rfl ?_
  refine r_return rfl ?_
  refine r_putRK (p := 15) rfl rfl rfl rfl ?_
  refine r_aload_n (p := 16) rfl rfl rfl ?_
  refine r_newK (m := 23) (s' := 1649) rfl rfl (p := 19) rfl rfl rfl ?_
  refine r_dup (p := 20) rfl rfl rfl ?_
  refine r_cIN (p := 23) rfl rfl (Nat.le_of_ble_eq_true rfl) rfl (Cw_in rfl rfl ?_)
  refine r_aload_n (p := 1) rfl rfl rfl ?_
  refine r_obj (p := 4) rfl (Nat.le_of_ble_eq_true rfl) rfl ?_
  refine r_aload_n (p := 5) rfl rfl rfl ?_
  refine r_bipush (v := 100) (p := 7) rfl rfl rfl ?_
  refine r_newaK (m := 24) (s' := 1749) (N := 100) rfl rfl (Or.inl rfl) (by decide) rfl (by decide) (p := 9) rfl rfl rfl ?_
  refine r_putRK (p := 12) rfl rfl rfl rfl ?_
  refine r_aload_n (p := 13) rfl rfl rfl ?_
  refine r_bipush (v := 100) (p := 15) rfl rfl rfl ?_
  refine r_newaK (m := 25) (s' := 1849) (N := 100) rfl rfl (Or.inr (Or.inl rfl)) (by decide) rfl (by decide) (p := 17) rfl rfl rfl ?_
  refine r_putRK (p := 20) rfl rfl rfl rfl ?_
  refine r_aload_n (p := 21) rfl rfl rfl ?_
  refine r_iconst (v := 0) (p := 22) rfl rfl rfl ?_
  refine r_putI (p := 25) rfl rfl rfl rfl ?_
  refine r_return rfl ?_
  refine r_putRK (p := 26) rfl rfl rfl rfl ?_
  refine r_aload_n (p := 27) rfl rfl rfl ?_
  refine r_iconst (v := 0) (p := 28) rfl rfl rfl ?_
  refine r_putI (p := 31) rfl rfl rfl rfl ?_
  refine r_aload_n (p := 32) rfl rfl rfl ?_
  refine r_iconst (v := 0) (p := 33) rfl rfl rfl ?_
  refine r_putI (p := 36) rfl rfl rfl rfl ?_
  refine r_aload_n (p := 37) rfl rfl rfl ?_
  refine r_aload_n (p := 38) rfl rfl rfl ?_
  refine r_putRK (p := 41) rfl rfl rfl rfl ?_
  refine r_aload_n (p := 42) rfl rfl rfl ?_
  refine r_aload_n (p := 43) rfl rfl rfl ?_
  refine r_cV (p := 46) rfl rfl rfl (Nat.le_of_ble_eq_true rfl) rfl (Cw_in rfl rfl ?_)
  refine r_aload_n (p := 1) rfl rfl rfl ?_
  refine r_getR (y := 2) (p := 4) rfl rfl rfl rfl rfl ?_
  refine r_areturn rfl ?_
  refine r_putRK (p := 49) rfl rfl rfl rfl ?_
  refine r_return rfl ?_
  refine r_putRK (p := 41) rfl rfl rfl rfl ?_
  refine r_aload_n (p := 42) rfl rfl rfl ?_
  refine r_newK (m := 26) (s' := 1855) rfl rfl (p := 45) rfl rfl rfl ?_
  refine r_dup (p := 46) rfl rfl rfl ?_
  refine r_aload_n (p := 47) rfl rfl rfl ?_
  refine r_getR (y := 1) (p := 50) rfl rfl rfl rfl rfl ?_
  refine r_aload_n (p := 51) rfl rfl rfl ?_
  refine r_getR (y := 18) (p := 54) rfl rfl rfl rfl rfl ?_
  refine r_cI (p := 57) rfl rfl (Nat.le_of_ble_eq_true rfl) rfl (Cw_in rfl rfl ?_)
  refine r_aload_n (p := 1) rfl rfl rfl ?_
  refine r_obj (p := 4) rfl (Nat.le_of_ble_eq_true rfl) rfl ?_
  refine r_aload_n (p := 5) rfl rfl rfl ?_
  refine r_newK (m := 27) (s' := 1858) rfl rfl (p := 8) rfl rfl rfl ?_
  refine r_dup (p := 9) rfl rfl rfl ?_
  refine r_cIN (p := 12) rfl rfl (Nat.le_of_ble_eq_true rfl) rfl (Cw_in rfl rfl ?_)
  refine r_aload_n (p := 1) rfl rfl rfl ?_
  refine r_obj (p := 4) rfl (Nat.le_of_ble_eq_true rfl) rfl ?_
  refine r_aload_n (p := 5) rfl rfl rfl ?_
  refine r_bipush (v := 100) (p := 7) rfl rfl rfl ?_
  refine r_newaK (m := 28) (s' := 1958) (N := 100) rfl rfl (Or.inl rfl) (by decide) rfl (by decide) (p := 9) rfl rfl rfl ?_
  refine r_putRK (p := 12) rfl rfl rfl rfl ?_
  refine r_aload_n (p := 13) rfl rfl rfl ?_
  refine r_bipush (v := 100) (p := 15) rfl rfl rfl ?_
  refine r_newaK (m := 29) (s' := 2058) (N := 100) rfl rfl (Or.inr (Or.inl rfl)) (by decide) rfl (by decide) (p := 17) rfl rfl rfl ?_
  refine r_putRK (p := 20) rfl rfl rfl rfl ?_
  refine r_aload_n (p := 21) rfl rfl rfl ?_
  refine r_iconst (v := 0) (p := 22) rfl rfl rfl ?_
  refine r_putI (p := 25) rfl rfl rfl rfl ?_
  refine r_return rfl ?_
  refine r_putRK (p := 15) rfl rfl rfl rfl ?_
  refine r_aload_n (p := 16) rfl rfl rfl ?_
  refine r_iconst (v := 0) (p := 17) rfl rfl rfl ?_
  refine r_putI (p := 20) rfl rfl rfl rfl ?_
  refine r_aload_n (p := 21) rfl rfl rfl ?_
  refine r_iconst (v := 0) (p := 22) rfl rfl rfl ?_
  refine r_putI (p := 25) rfl rfl rfl rfl ?_
  refine r_aload_n (p := 26) rfl rfl rfl ?_
  refine r_aload_n (p := 27) rfl rfl rfl ?_
  refine r_putRK (p := 30) rfl rfl rfl rfl ?_
  refine r_aload_n (p := 31) rfl rfl rfl ?_
  refine r_aload_n (p := 32) rfl rfl rfl ?_
  refine r_cV (p := 35) rfl rfl rfl (Nat.le_of_ble_eq_true rfl) rfl (Cw_in rfl rfl ?_)
  refine r_aload_n (p := 1) rfl rfl rfl ?_
  refine r_getR (y := 2) (p := 4) rfl rfl rfl rfl rfl ?_
  refine r_areturn rfl ?_
  refine r_putRK (p := 38) rfl rfl rfl rfl ?_
  refine r_aload_n (p := 39) rfl rfl rfl ?_
  refine r_aload_n (p := 40) rfl rfl rfl ?_
  refine r_putRK (p := 43) rfl rfl rfl rfl ?_
  refine r_return rfl ?_
  refine r_putRK (p := 60) rfl rfl rfl rfl ?_
  refine r_aload_n (p := 61) rfl rfl rfl ?_
  refine r_newK (m := 30) (s' := 2065) rfl rfl (p := 64) rfl rfl rfl ?_
  refine r_dup (p := 65) rfl rfl rfl ?_
  refine r_cIN (p := 68) rfl rfl (Nat.le_of_ble_eq_true rfl) rfl (Cw_in rfl rfl ?_)
  refine r_aload_n (p := 1) rfl rfl rfl ?_
  refine r_obj (p := 4) rfl (Nat.le_of_ble_eq_true rfl) rfl ?_
  refine r_aload_n (p := 5) rfl rfl rfl ?_
  refine r_bipush (v := 25) (p := 7) rfl rfl rfl ?_
  refine r_newaK (m := 31) (s' := 2090) (N := 25) rfl rfl (Or.inl rfl) (by decide) rfl (by decide) (p := 9) rfl rfl rfl ?_
  refine r_putRK (p := 12) rfl rfl rfl rfl ?_
  refine r_aload_n (p := 13) rfl rfl rfl ?_
  refine r_bipush (v := 75) (p := 15) rfl rfl rfl ?_
  refine r_newaK (m := 32) (s' := 2165) (N := 75) rfl rfl (Or.inl rfl) (by decide) rfl (by decide) (p := 17) rfl rfl rfl ?_
  refine r_putRK (p := 20) rfl rfl rfl rfl ?_
  refine r_aload_n (p := 21) rfl rfl rfl ?_
  refine r_sipush (v := 150) (p := 24) rfl rfl rfl ?_
  refine r_newaK (m := 33) (s' := 2315) (N := 150) rfl rfl (Or.inr (Or.inr rfl)) (by decide) rfl (by decide) (p := 26) rfl rfl rfl ?_
  refine r_putRK (p := 29) rfl rfl rfl rfl ?_
  refine r_aload_n (p := 30) rfl rfl rfl ?_
  refine r_iconst (v := 0) (p := 31) rfl rfl rfl ?_
  refine r_putI (p := 34) rfl rfl rfl rfl ?_
  refine r_aload_n (p := 35) rfl rfl rfl ?_
  refine r_iconst (v := 0) (p := 36) rfl rfl rfl ?_
  refine r_putI (p := 39) rfl rfl rfl rfl ?_
  refine r_aload_n (p := 40) rfl rfl rfl ?_
  refine r_bipush (v := (-5)) (p := 42) rfl rfl rfl ?_
  refine r_putI (p := 45) rfl rfl rfl rfl ?_
  refine r_aload_n (p := 46) rfl rfl rfl ?_
  refine r_iconst (v := 0) (p := 47) rfl rfl rfl ?_
  refine r_putI (p := 50) rfl rfl rfl rfl ?_
  refine r_return rfl ?_
  refine r_putRK (p := 71) rfl rfl rfl rfl ?_
  refine r_aload_n (p := 72) rfl rfl rfl ?_
  refine r_iconst (v := 3) (p := 73) rfl rfl rfl ?_
  refine r_newaK (m := 34) (s' := 2318) (N := 3) rfl rfl (Or.inl rfl) (by decide) rfl (by decide) (p := 75) rfl rfl rfl ?_
  refine r_putRK (p := 78) rfl rfl rfl rfl ?_
  refine r_aload_n (p := 79) rfl rfl rfl ?_
  refine r_ldcS (y := 1000000) (p := 81) rfl rfl rfl ?_
  refine r_putRK (p := 84) rfl rfl rfl rfl ?_
  refine r_aload_n (p := 85) rfl rfl rfl ?_
  refine r_getR (y := 1) (p := 88) rfl rfl rfl rfl rfl ?_
  refine r_bipush (v := 24) (p := 90) rfl rfl rfl ?_
  refine r_bipush (v := 60) (p := 92) rfl rfl rfl ?_
  refine r_iconst (v := 2) (p := 93) rfl rfl rfl ?_
  rw [Rc_eq]
  show Wp _ _ _ _ _ (mXY (Yc 34 2318 kt E), _, _, _) _
  refine r_cV (p := 96) rfl rfl rfl (Nat.le_of_ble_eq_true rfl) rfl (s_X0_restart (fun F' M' f1 g1 m1 a3 a8 i9 i12 e1 e2 => ?_))
  refine r_return rfl ?_
  refine hQ F' M' _ ⟨⟨fun i hi => ?_, fun i hi => ?_, fun i hi => ?_, (fun i hi q _ => absurd q (by show ¬ (0 : Int32) = 2; decide)), (fun i j hi q => absurd rfl q), fun k hk => a8 k hk, i9, i12, IL_nil ?_ ?_, IL_nil ?_ ?_, e1, ⟨e2.1, ?_, ?_, ?_⟩, ⟨?_, ?_⟩, ?_, ?_⟩, fun k hk => ?_, ?_, 1000000, rfl, Or.inl ⟨rfl, rfl⟩⟩
  · obtain ⟨k, hk, rfl⟩ := inR_of hi; exact a3 k hk
  · exact (m1 _ _ (by omega) (by omega) (by omega) (by omega) (by omega) (by omega)).trans rfl
  · exact (m1 _ _ (by omega) (by omega) (by omega) (by omega) (by omega) (by omega)).trans rfl
  · exact (g1 _ _ (by omega) (by omega) (by omega) (by omega)).trans rfl
  · exact fun i hi => (m1 _ _ (by omega) (by omega) (by omega) (by omega) (by omega) (by omega)).trans rfl
  · exact (g1 _ _ (by omega) (by omega) (by omega) (by omega)).trans rfl
  · exact fun i hi => (m1 _ _ (by omega) (by omega) (by omega) (by omega) (by omega) (by omega)).trans rfl
  · exact e2.2.1.trans (sumL_0 (fun x _ => if_neg (show ¬ (0 : Int32) = 1 by decide))).symm
  · exact e2.2.2.1.trans (sumL_0 (fun x _ => if_neg (show ¬ (0 : Int32) = 2 by decide))).symm
  · exact e2.2.2.2.trans (sumL_0 (fun x _ => if_neg (show ¬ (0 : Int32) = 2 by decide))).symm
  · exact (g1 _ _ (by omega) (by omega) (by omega) (by omega)).trans rfl
  · exact (g1 _ _ (by omega) (by omega) (by omega) (by omega)).trans rfl
  · exact (g1 _ _ (by omega) (by omega) (by omega) (by omega)).trans rfl
  · exact (g1 _ _ (by omega) (by omega) (by omega) (by omega)).trans rfl
  · exact (m1 _ _ (by omega) (by omega) (by omega) (by omega) (by omega) (by omega)).trans rfl
  · show LL (F' 29 3) (M' 32) []
    rw [g1 _ _ (by omega) (by omega) (by omega) (by omega)]
    exact LL.nil
theorem Rm_eq : (uR (clr (uR (clr (uR (clr (uR (clr (uR (clr (uR (clr (uR (clr (uR (clr (uR (clr (uR (clr (uR (clr (uR (clr (uR (clr (uR (clr (uR (clr (uR (clr (uR (clr (uR (clr (clr R0 34) 35) 34 4 (some 35)) 36) 34 5 (some 36)) 37) 34 6 (some 37)) 38) 34 7 (some 38)) 39) 34 8 (some 39)) 40) 34 9 (some 40)) 41) 34 10 (some 41)) 42) 34 12 (some 42)) 43) 34 14 (some 43)) 44) 34 16 (some 44)) 45) 34 22 (some 45)) 46) 34 24 (some 46)) 47) 34 26 (some 47)) 48) 34 28 (some 48)) 49) 34 30 (some 49)) 50) 34 31 (some 50)) 51) 34 32 (some 51)) 52) 34 33 (some 52)) = R0 := by
  funext h k
  by_cases hh : h < 53
  · by_cases hk : k < 40
    · have key : ∀ (h : Fin 53) (k : Fin 40), (uR (clr (uR (clr (uR (clr (uR (clr (uR (clr (uR (clr (uR (clr (uR (clr (uR (clr (uR (clr (uR (clr (uR (clr (uR (clr (uR (clr (uR (clr (uR (clr (uR (clr (uR (clr (clr R0 34) 35) 34 4 (some 35)) 36) 34 5 (some 36)) 37) 34 6 (some 37)) 38) 34 7 (some 38)) 39) 34 8 (some 39)) 40) 34 9 (some 40)) 41) 34 10 (some 41)) 42) 34 12 (some 42)) 43) 34 14 (some 43)) 44) 34 16 (some 44)) 45) 34 22 (some 45)) 46) 34 24 (some 46)) 47) 34 26 (some 47)) 48) 34 28 (some 48)) 49) 34 30 (some 49)) 50) 34 31 (some 50)) 51) 34 32 (some 51)) 52) 34 33 (some 52)) h.1 k.1 = R0 h.1 k.1 := by decide +kernel
      exact key ⟨h, hh⟩ ⟨k, hk⟩
    · have z := R0_hi hh (show 40 ≤ k by omega)
      rw [z]
      exact (uR_k (by omega)).trans (clr_none ((uR_k (by omega)).trans (clr_none ((uR_k (by omega)).trans (clr_none ((uR_k (by omega)).trans (clr_none ((uR_k (by omega)).trans (clr_none ((uR_k (by omega)).trans (clr_none ((uR_k (by omega)).trans (clr_none ((uR_k (by omega)).trans (clr_none ((uR_k (by omega)).trans (clr_none ((uR_k (by omega)).trans (clr_none ((uR_k (by omega)).trans (clr_none ((uR_k (by omega)).trans (clr_none ((uR_k (by omega)).trans (clr_none ((uR_k (by omega)).trans (clr_none ((uR_k (by omega)).trans (clr_none ((uR_k (by omega)).trans (clr_none ((uR_k (by omega)).trans (clr_none ((uR_k (by omega)).trans (clr_none (clr_none (z)))))))))))))))))))))))))))))))))))))
  · exact (uR_h (by omega)).trans ((clr_ne (by omega)).trans ((uR_h (by omega)).trans ((clr_ne (by omega)).trans ((uR_h (by omega)).trans ((clr_ne (by omega)).trans ((uR_h (by omega)).trans ((clr_ne (by omega)).trans ((uR_h (by omega)).trans ((clr_ne (by omega)).trans ((uR_h (by omega)).trans ((clr_ne (by omega)).trans ((uR_h (by omega)).trans ((clr_ne (by omega)).trans ((uR_h (by omega)).trans ((clr_ne (by omega)).trans ((uR_h (by omega)).trans ((clr_ne (by omega)).trans ((uR_h (by omega)).trans ((clr_ne (by omega)).trans ((uR_h (by omega)).trans ((clr_ne (by omega)).trans ((uR_h (by omega)).trans ((clr_ne (by omega)).trans ((uR_h (by omega)).trans ((clr_ne (by omega)).trans ((uR_h (by omega)).trans ((clr_ne (by omega)).trans ((uR_h (by omega)).trans ((clr_ne (by omega)).trans ((uR_h (by omega)).trans ((clr_ne (by omega)).trans ((uR_h (by omega)).trans ((clr_ne (by omega)).trans ((uR_h (by omega)).trans ((clr_ne (by omega)).trans ((clr_ne (by omega)).trans (rfl)))))))))))))))))))))))))))))))))))))
set_option maxRecDepth 100000 in
theorem s_X7_init {d : Nat} {kt : Nat → Nat × Nat} {E : mN} {F : mF} {M : mM} {L : mL} {Q : Option Value → mW → Prop} (HB : BC b00 (Yc 34 2318 kt E) F M) (hQ : ∀ F' M' L', BC b00 (Yc 53 4337 kt E) F' M' → BR b00 F' M' → Q none (mXY (Yc 53 4337 kt E), F', M', L')) : Cw (d + 2) 0 [.ref 34] ((35, 2356, mKb kt, clr R0 34, E), zF F 34, M, L) Q := by
  refine Cw_in rfl rfl ?_
  refine r_aload_n (p := 1) rfl rfl rfl ?_
  refine r_obj (p := 4) rfl (Nat.le_of_ble_eq_true rfl) rfl ?_
  refine r_aload_n (p := 5) rfl rfl rfl ?_
  refine r_bipush (v := 24) (p := 7) rfl rfl rfl ?_
  refine r_putI (p := 10) rfl rfl rfl rfl ?_
  refine r_aload_n (p := 11) rfl rfl rfl ?_
  refine r_bipush (v := 60) (p := 13) rfl rfl rfl ?_
  refine r_putI (p := 16) rfl rfl rfl rfl ?_
  refine r_aload_n (p := 17) rfl rfl rfl ?_
  refine r_iconst (v := 2) (p := 18) rfl rfl rfl ?_
  refine r_putI (p := 21) rfl rfl rfl rfl ?_
  refine r_aload_n (p := 22) rfl rfl rfl ?_
  refine r_bipush (v := 100) (p := 24) rfl rfl rfl ?_
  refine r_newaK (m := 36) (s' := 2456) (N := 100) rfl rfl (Or.inl rfl) (by decide) rfl (by decide) (p := 26) rfl rfl rfl ?_
  refine r_putRK (p := 29) rfl rfl rfl rfl ?_
  refine r_aload_n (p := 30) rfl rfl rfl ?_
  refine r_bipush (v := 100) (p := 32) rfl rfl rfl ?_
  refine r_newaK (m := 37) (s' := 2556) (N := 100) rfl rfl (Or.inl rfl) (by decide) rfl (by decide) (p := 34) rfl rfl rfl ?_
  refine r_putRK (p := 37) rfl rfl rfl rfl ?_
  refine r_aload_n (p := 38) rfl rfl rfl ?_
  refine r_bipush (v := 100) (p := 40) rfl rfl rfl ?_
  refine r_newaK (m := 38) (s' := 2656) (N := 100) rfl rfl (Or.inl rfl) (by decide) rfl (by decide) (p := 42) rfl rfl rfl ?_
  refine r_putRK (p := 45) rfl rfl rfl rfl ?_
  refine r_aload_n (p := 46) rfl rfl rfl ?_
  refine r_sipush (v := 400) (p := 49) rfl rfl rfl ?_
  refine r_newaK (m := 39) (s' := 3056) (N := 400) rfl rfl (Or.inl rfl) (by decide) rfl (by decide) (p := 51) rfl rfl rfl ?_
  refine r_putRK (p := 54) rfl rfl rfl rfl ?_
  refine r_aload_n (p := 55) rfl rfl rfl ?_
  refine r_bipush (v := 100) (p := 57) rfl rfl rfl ?_
  refine r_newaK (m := 40) (s' := 3156) (N := 100) rfl rfl (Or.inl rfl) (by decide) rfl (by decide) (p := 59) rfl rfl rfl ?_
  refine r_putRK (p := 62) rfl rfl rfl rfl ?_
  refine r_aload_n (p := 63) rfl rfl rfl ?_
  refine r_iconst (v := 4) (p := 64) rfl rfl rfl ?_
  refine r_newaK (m := 41) (s' := 3160) (N := 4) rfl rfl (Or.inl rfl) (by decide) rfl (by decide) (p := 66) rfl rfl rfl ?_
  refine r_putRK (p := 69) rfl rfl rfl rfl ?_
  refine r_aload_n (p := 70) rfl rfl rfl ?_
  refine r_bipush (v := 100) (p := 72) rfl rfl rfl ?_
  refine r_newaK (m := 42) (s' := 3260) (N := 100) rfl rfl (Or.inl rfl) (by decide) rfl (by decide) (p := 74) rfl rfl rfl ?_
  refine r_putRK (p := 77) rfl rfl rfl rfl ?_
  refine r_aload_n (p := 78) rfl rfl rfl ?_
  refine r_bipush (v := 100) (p := 80) rfl rfl rfl ?_
  refine r_newaK (m := 43) (s' := 3360) (N := 100) rfl rfl (Or.inl rfl) (by decide) rfl (by decide) (p := 82) rfl rfl rfl ?_
  refine r_putRK (p := 85) rfl rfl rfl rfl ?_
  refine r_aload_n (p := 86) rfl rfl rfl ?_
  refine r_bipush (v := 100) (p := 88) rfl rfl rfl ?_
  refine r_newaK (m := 44) (s' := 3460) (N := 100) rfl rfl (Or.inl rfl) (by decide) rfl (by decide) (p := 90) rfl rfl rfl ?_
  refine r_putRK (p := 93) rfl rfl rfl rfl ?_
  refine r_aload_n (p := 94) rfl rfl rfl ?_
  refine r_bipush (v := 100) (p := 96) rfl rfl rfl ?_
  refine r_newaK (m := 45) (s' := 3560) (N := 100) rfl rfl (Or.inl rfl) (by decide) rfl (by decide) (p := 98) rfl rfl rfl ?_
  refine r_putRK (p := 101) rfl rfl rfl rfl ?_
  refine r_aload_n (p := 102) rfl rfl rfl ?_
  refine r_iconst (v := 3) (p := 103) rfl rfl rfl ?_
  refine r_newaK (m := 46) (s' := 3563) (N := 3) rfl rfl (Or.inl rfl) (by decide) rfl (by decide) (p := 105) rfl rfl rfl ?_
  refine r_putRK (p := 108) rfl rfl rfl rfl ?_
  refine r_aload_n (p := 109) rfl rfl rfl ?_
  refine r_sipush (v := 150) (p := 112) rfl rfl rfl ?_
  refine r_newaK (m := 47) (s' := 3713) (N := 150) rfl rfl (Or.inr (Or.inr rfl)) (by decide) rfl (by decide) (p := 114) rfl rfl rfl ?_
  refine r_putRK (p := 117) rfl rfl rfl rfl ?_
  refine r_aload_n (p := 118) rfl rfl rfl ?_
  refine r_bipush (v := 64) (p := 120) rfl rfl rfl ?_
  refine r_newaK (m := 48) (s' := 3777) (N := 64) rfl rfl (Or.inr (Or.inr rfl)) (by decide) rfl (by decide) (p := 122) rfl rfl rfl ?_
  refine r_putRK (p := 125) rfl rfl rfl rfl ?_
  refine r_aload_n (p := 126) rfl rfl rfl ?_
  refine r_bipush (v := 100) (p := 128) rfl rfl rfl ?_
  refine r_newaK (m := 49) (s' := 3877) (N := 100) rfl rfl (Or.inl rfl) (by decide) rfl (by decide) (p := 130) rfl rfl rfl ?_
  refine r_putRK (p := 133) rfl rfl rfl rfl ?_
  refine r_aload_n (p := 134) rfl rfl rfl ?_
  refine r_bipush (v := 100) (p := 136) rfl rfl rfl ?_
  refine r_newaK (m := 50) (s' := 3977) (N := 100) rfl rfl (Or.inr (Or.inl rfl)) (by decide) rfl (by decide) (p := 138) rfl rfl rfl ?_
  refine r_putRK (p := 141) rfl rfl rfl rfl ?_
  refine r_aload_n (p := 142) rfl rfl rfl ?_
  refine r_bipush (v := 100) (p := 144) rfl rfl rfl ?_
  refine r_newaK (m := 51) (s' := 4077) (N := 100) rfl rfl (Or.inr (Or.inl rfl)) (by decide) rfl (by decide) (p := 146) rfl rfl rfl ?_
  refine r_putRK (p := 149) rfl rfl rfl rfl ?_
  refine r_aload_n (p := 150) rfl rfl rfl ?_
  refine r_bipush (v := 100) (p := 152) rfl rfl rfl ?_
  refine r_newaK (m := 52) (s' := 4177) (N := 100) rfl rfl (Or.inl rfl) (by decide) rfl (by decide) (p := 154) rfl rfl rfl ?_
  refine r_putRK (p := 157) rfl rfl rfl rfl ?_
  refine r_aload_n (p := 158) rfl rfl rfl ?_
  refine r_sipush (v := 160) (p := 161) rfl rfl rfl ?_
  refine r_newaK (m := 53) (s' := 4337) (N := 160) rfl rfl (Or.inl rfl) (by decide) rfl (by decide) (p := 163) rfl rfl rfl ?_
  refine r_putRK (p := 166) rfl rfl rfl rfl ?_
  refine r_aload_n (p := 167) rfl rfl rfl ?_
  rw [Rm_eq]
  show Wp _ _ _ _ _ (mXY (Yc 53 4337 kt E), _, _, _) _
  refine r_cV (p := 170) rfl rfl rfl (Nat.le_of_ble_eq_true rfl) rfl (s_X7_bareRoots ?_)
  refine r_return rfl ?_
  have gF : ∀ a k, a < 34 → (zF (zF (zF (zF (zF (zF (zF (zF (zF (zF (zF (zF (zF (zF (zF (zF (zF (zF (uF (uF (uF (zF F 34) 34 0 24) 34 1 60) 34 2 2) 35) 36) 37) 38) 39) 40) 41) 42) 43) 44) 45) 46) 47) 48) 49) 50) 51) 52) a k = F a k := fun a k ha => (zF_ne (by omega)).trans ((zF_ne (by omega)).trans ((zF_ne (by omega)).trans ((zF_ne (by omega)).trans ((zF_ne (by omega)).trans ((zF_ne (by omega)).trans ((zF_ne (by omega)).trans ((zF_ne (by omega)).trans ((zF_ne (by omega)).trans ((zF_ne (by omega)).trans ((zF_ne (by omega)).trans ((zF_ne (by omega)).trans ((zF_ne (by omega)).trans ((zF_ne (by omega)).trans ((zF_ne (by omega)).trans ((zF_ne (by omega)).trans ((zF_ne (by omega)).trans ((zF_ne (by omega)).trans ((uF_ne (by omega)).trans ((uF_ne (by omega)).trans ((uF_ne (by omega)).trans ((zF_ne (by omega)).trans (rfl))))))))))))))))))))))
  have gM : ∀ a i, a < 34 → (uM (uM (uM (uM (sM (sM (sM (sM (sM (sM (sM (sM (sM (sM (sM (sM (sM (sM (sM (sM (sM (sM M 35 (fun _ => 0)) 36 (fun _ => 0)) 37 (fun _ => 0)) 38 (fun _ => 0)) 39 (fun _ => 0)) 40 (fun _ => 0)) 41 (fun _ => 0)) 42 (fun _ => 0)) 43 (fun _ => 0)) 44 (fun _ => 0)) 45 (fun _ => 0)) 46 (fun _ => 0)) 47 (fun _ => 0)) 48 (fun _ => 0)) 49 (fun _ => 0)) 50 (fun _ => 0)) 51 (fun _ => 0)) 52 (fun _ => 0)) 40 0 (-1)) 40 1 (-1)) 40 2 (-1)) 40 3 (-1)) a i = M a i := fun a i ha => (uM_ne (by omega)).trans ((uM_ne (by omega)).trans ((uM_ne (by omega)).trans ((uM_ne (by omega)).trans ((sM_ne (by omega)).trans ((sM_ne (by omega)).trans ((sM_ne (by omega)).trans ((sM_ne (by omega)).trans ((sM_ne (by omega)).trans ((sM_ne (by omega)).trans ((sM_ne (by omega)).trans ((sM_ne (by omega)).trans ((sM_ne (by omega)).trans ((sM_ne (by omega)).trans ((sM_ne (by omega)).trans ((sM_ne (by omega)).trans ((sM_ne (by omega)).trans ((sM_ne (by omega)).trans ((sM_ne (by omega)).trans ((sM_ne (by omega)).trans ((sM_ne (by omega)).trans ((sM_ne (by omega)).trans (rfl))))))))))))))))))))))
  obtain ⟨h1, h2, h3, h, h4, h5⟩ := HB
  refine hQ _ _ _ ⟨h1.fr (fun a k ha => gF a k (by omega)) (fun a i ha => gM a i (by omega)), fun k hk => (gM _ _ (by omega)).trans (h2 k hk), ?_, 1000000, rfl, Or.inl ⟨rfl, rfl⟩⟩ ⟨⟨fun i hi => rfl, fun i hi => rfl, fun i hi => rfl, (fun i hi q _ => absurd q (by show ¬ (0 : Int32) = 2; decide)), ?_, fun k hk => ?_, LL.nil, LL.nil, LL.nil, LL.nil, ⟨rfl, rfl, rfl⟩, rfl, ⟨rfl, rfl⟩, ⟨rfl, rfl⟩⟩, fun k hk => rfl, rfl, LL.nil, LL.nil⟩
  · show LL ((zF (zF (zF (zF (zF (zF (zF (zF (zF (zF (zF (zF (zF (zF (zF (zF (zF (zF (uF (uF (uF (zF F 34) 34 0 24) 34 1 60) 34 2 2) 35) 36) 37) 38) 39) 40) 41) 42) 43) 44) 45) 46) 47) 48) 49) 50) 51) 52) 29 3) _ []
    rw [gF _ _ (by omega)]
    exact h3.fr (fun i => gM _ _ (by omega))
  · exact fun i j hi h0 h1 => rfl
  · rcases (show k = 0 ∨ k = 1 ∨ k = 2 ∨ k = 3 by omega) with q | q | q | q <;> subst q <;> rfl
