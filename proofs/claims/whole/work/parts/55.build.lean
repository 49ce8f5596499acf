/-! ===== new cells; a builder of texts ===== -/
def pY (Y : mY) (kd : Nat × Nat) (sl : Nat) : mY := (Y.1 + 1, Y.2.1 + sl, fun h => cond (Nat.beq h Y.1) kd (Y.2.2.1 h), Y.2.2.2.1, fun h k => cond (Nat.beq h Y.1) none (Y.2.2.2.2.1 h k), Y.2.2.2.2.2)
def rY (Y : mY) (h k : Nat) (v : Option Nat) : mY := (Y.1, Y.2.1, Y.2.2.1, Y.2.2.2.1, uR Y.2.2.2.2.1 h k v, Y.2.2.2.2.2)
def oY (Y : mY) (v : Option Nat) : mY := (Y.1, Y.2.1, Y.2.2.1, v, Y.2.2.2.2)
theorem beq_ne {a b : Nat} (h : a ≠ b) : Nat.beq a b = false := by
  cases e : Nat.beq a b
  · rfl
  · exact absurd (Nat.eq_of_beq_eq_true e) h
theorem beq_rf {a : Nat} : Nat.beq a a = true := Nat.beq_refl a
theorem blt_t {a b : Nat} (h : a < b) : Nat.blt a b = true := Nat.ble_eq_true_of_le h
theorem blt_f {a b : Nat} (h : b ≤ a) : Nat.blt a b = false := by
  cases e : Nat.blt a b
  · rfl
  · have := Nat.le_of_ble_eq_true e; omega
theorem pX_Y {Y : mY} (h : 53 ≤ Y.1) {kd : Nat × Nat} {sl : Nat} : pX (mXY Y) kd sl = mXY (pY Y kd sl) := by
  have e1 : (fun h => cond (Nat.beq h Y.1) kd (mKb Y.2.2.1 h)) = mKb (fun h => cond (Nat.beq h Y.1) kd (Y.2.2.1 h)) := by
    funext x
    unfold mKb
    by_cases hx : x < 53
    · rw [blt_t hx, beq_ne (by omega)]; rfl
    · rw [blt_f (by omega)]; rfl
  have e2 : (fun h k => cond (Nat.beq h Y.1) none (mRb Y.2.2.2.1 Y.2.2.2.2.1 h k)) = mRb Y.2.2.2.1 (fun h k => cond (Nat.beq h Y.1) none (Y.2.2.2.2.1 h k)) := by
    funext x k
    unfold mRb
    by_cases hx : x < 53
    · rw [blt_t hx, beq_ne (a := x) (b := Y.1) (by omega)]; rfl
    · rw [blt_f (by omega)]; rfl
  show (Y.1 + 1, Y.2.1 + sl, (fun h => cond (Nat.beq h Y.1) kd (mKb Y.2.2.1 h)), (fun h k => cond (Nat.beq h Y.1) none (mRb Y.2.2.2.1 Y.2.2.2.2.1 h k)), Y.2.2.2.2.2) = _
  rw [e1, e2]
  rfl
theorem rX_Y {Y : mY} {h k : Nat} (hh : 53 ≤ h) {v : Option Nat} : rX (mXY Y) h k v = mXY (rY Y h k v) := by
  have e2 : uR (mRb Y.2.2.2.1 Y.2.2.2.2.1) h k v = mRb Y.2.2.2.1 (uR Y.2.2.2.2.1 h k v) := by
    funext x j
    unfold uR mRb
    by_cases hx : x < 53
    · rw [blt_t hx, beq_ne (a := x) (b := h) (by omega)]; rfl
    · rw [blt_f (by omega)]; rfl
  show (Y.1, Y.2.1, mKb Y.2.2.1, uR (mRb Y.2.2.2.1 Y.2.2.2.2.1) h k v, Y.2.2.2.2.2) = _
  rw [e2]
  rfl
theorem rX_o {Y : mY} {v : Option Nat} : rX (mXY Y) 0 6 v = mXY (oY Y v) := by
  have e2 : uR (mRb Y.2.2.2.1 Y.2.2.2.2.1) 0 6 v = mRb v Y.2.2.2.2.1 := by
    funext x j
    unfold uR mRb
    by_cases hx : x = 0
    · subst hx
      by_cases hj : j = 6
      · subst hj; rfl
      · have : Nat.beq j 6 = false := beq_ne hj
        show cond true (cond (Nat.beq j 6) v (cond (true && Nat.beq j 6) _ _)) _ = cond (true && Nat.beq j 6) _ _
        rw [this]
        rfl
    · rw [beq_ne (a := x) (b := 0) hx]
      rfl
  show (Y.1, Y.2.1, mKb Y.2.2.1, uR (mRb Y.2.2.2.1 Y.2.2.2.2.1) 0 6 v, Y.2.2.2.2.2) = _
  rw [e2]
  rfl
theorem Yk {Y : mY} {h : Nat} (hh : 53 ≤ h) : (mXY Y).2.2.1 h = Y.2.2.1 h := by
  show mKb Y.2.2.1 h = _
  unfold mKb
  rw [blt_f hh]
  rfl
theorem Yr {Y : mY} {h k : Nat} (hh : 53 ≤ h) : (mXY Y).2.2.2.1 h k = Y.2.2.2.2.1 h k := by
  show mRb _ _ h k = _
  unfold mRb
  rw [blt_f hh]
  rfl
def f53 (F : mF) (M : mM) (F' : mF) (M' : mM) : Prop := (∀ a k, a < 53 → F' a k = F a k) ∧ ∀ a i, a < 53 → M' a i = M a i
theorem f53.rf {F : mF} {M : mM} : f53 F M F M := ⟨fun _ _ _ => rfl, fun _ _ _ => rfl⟩
theorem f53.tr {F F1 F2 : mF} {M M1 M2 : mM} (a : f53 F M F1 M1) (b : f53 F1 M1 F2 M2) : f53 F M F2 M2 := ⟨fun x k h => (b.1 x k h).trans (a.1 x k h), fun x k h => (b.2 x k h).trans (a.2 x k h)⟩
/-- the world grows by at most n rows of 200 -/
def gq (n : Nat) (Y Y' : mY) : Prop := Y.1 ≤ Y'.1 ∧ Y'.1 ≤ Y.1 + n ∧ Y'.2.1 ≤ Y.2.1 + 200 * n ∧ Y'.2.2.2.1 = Y.2.2.2.1 ∧ Y'.2.2.2.2.2 = Y.2.2.2.2.2
theorem gq.rf {n : Nat} {Y : mY} : gq n Y Y := ⟨by omega, by omega, by omega, rfl, rfl⟩
theorem gq.tr {n m : Nat} {Y Y1 Y2 : mY} (a : gq n Y Y1) (b : gq m Y1 Y2) : gq (n + m) Y Y2 := by
  obtain ⟨a1, a2, a3, a4, a5⟩ := a
  obtain ⟨b1, b2, b3, b4, b5⟩ := b
  exact ⟨by omega, by omega, by omega, b4.trans a4, b5.trans a5⟩
theorem gq.up {n m : Nat} {Y Y1 : mY} (a : gq n Y Y1) (h : n ≤ m) : gq m Y Y1 := ⟨a.1, by have := a.2.1; omega, by have := a.2.2.1; omega, a.2.2.2⟩
def byt (x : Int32) : Prop := ¬ x < 0 ∧ ¬ 127 < x
theorem byt.f {x : Int32} (h : byt x) : fits .byte (.int x) = true := by
  obtain ⟨n, hn, e⟩ := nI_of2 (M := 127) (n := 127) (x := x) rfl h.1 (Int32.not_lt.mp h.2)
  rw [e]
  have t : ∀ n : Fin 128, fits .byte (.int (nI n.1)) = true := by decide
  exact t ⟨n, by omega⟩
theorem byt.n {x : Int32} (h : byt x) : mnar 3 x = x := (i8_ok (fun q => q.elim h.1 h.2)).2.1
theorem byt_0 : byt 0 := ⟨by decide, by decide⟩
/-- a builder at h whose row has room for c -/
def SB (Y : mY) (F : mF) (M : mM) (h : Nat) (l : List Int32) (c : Nat) : Prop :=
  (53 ≤ h ∧ h < Y.1 ∧ Y.1 ≤ 700000) ∧ Y.2.2.1 h = (0, 1) ∧ F h 1 = 0 ∧ F h 3 = nI l.length ∧
  ∃ v n, Y.2.2.2.2.1 h 0 = some v ∧ (53 ≤ v ∧ v < Y.1 ∧ v ≠ h) ∧ Y.2.2.1 v = (3, n) ∧ (l.length ≤ n ∧ c ≤ n ∧ n ≤ 190) ∧ (∀ k, k < l.length → M v (nI k) = l.getD k 0) ∧ ∀ k, k < n → byt (M v (nI k))
theorem nI_sub {a b : Nat} (h : b ≤ a) : nI a - nI b = nI (a - b) := by
  have e : nI a = nI (a - b) + nI b := by rw [nI_add]; congr 1; omega
  rw [e]
  grind
def cap (n c : Nat) : Nat := if c - n < n + 2 then n + (n + 2) else n + (c - n)
theorem cap_le {n c : Nat} (h1 : n < c) (h2 : c ≤ 90) : n < cap n c ∧ c ≤ cap n c ∧ cap n c ≤ 190 := by
  unfold cap
  split <;> omega
theorem cap_e {n c : Nat} (h1 : n < c) (h2 : c ≤ 90) : nI n + (if nI (c - n) < nI (n + 2) then nI (n + 2) else nI (c - n)) = nI (cap n c) := by
  unfold cap
  by_cases h : c - n < n + 2
  · rw [if_pos h, if_pos ((nI_ltI (by omega) (by omega)).mpr h), nI_add]
  · rw [if_neg h, if_neg (fun q => h ((nI_ltI (by omega) (by omega)).mp q)), nI_add]
set_option maxRecDepth 100000 in
theorem s_J8_newLength {d : Nat} {w : mW} {n c : Nat} {Q : Option Value → mW → Prop} (h1 : n < c) (h2 : c ≤ 90) (hQ : Q (some (.int (nI (cap n c)))) w) : Cw (d + 1) 222 [.int (nI n), .int (nI (c - n)), .int (nI (n + 2))] w Q := by
  have hc := cap_le h1 h2
  refine Cw_in rfl rfl ?_
  refine r_iload_n (p := 1) rfl rfl rfl ?_
  refine r_iload_n (p := 2) rfl rfl rfl ?_
  refine r_iload_n (p := 3) rfl rfl rfl ?_
  refine r_max (p := 6) rfl (Nat.le_of_ble_eq_true rfl) rfl ?_
  refine r_iadd (p := 7) rfl rfl ?_
  rw [cap_e h1 h2]
  refine r_istore_n (p := 8) rfl rfl rfl ?_
  refine r_iconst (v := 0) (p := 9) rfl rfl rfl ?_
  refine r_iload_n (p := 10) rfl rfl rfl ?_
  refine r_icmp_ge (p := 13) rfl rfl (fun c1 => ?_) (fun c1 => ?_)
  · exact absurd c1 (nI_ge (a := 0) (b := cap n c) (by omega) (by omega))
  · refine r_iload_n (p := 14) rfl rfl rfl ?_
    refine r_ldcI (v := 2147483639) (p := 16) rfl rfl rfl ?_
    refine r_icmp_gt (p := 19) rfl rfl (fun c2 => ?_) (fun c2 => ?_)
    · exact absurd c2 (Int32.not_lt.mpr (nI_le (a := cap n c) (b := 2147483639) (by omega) (by omega)))
    · refine r_iload_n (p := 20) rfl rfl rfl ?_
      exact r_ireturn rfl trivial hQ
set_option maxRecDepth 100000 in
theorem s_J5_newCapacity {d : Nat} {X : mX} {F : mF} {M : mM} {L : mL} {h v n : Nat} {Q : Option Value → mW → Prop} (hb : Nat.blt h mB = true) (kh : X.2.2.1 h = (0, 1)) (rv : X.2.2.2.1 h 0 = some v) (kv : mkd X v = (3, n)) (c0 : F h 1 = 0) {c : Nat} (h1 : n < c) (h2 : c ≤ 90) (hQ : Q (some (.int (nI (cap n c)))) (X, F, M, L)) : Cw (d + 2) 238 [.ref h, .int (nI c)] (X, F, M, L) Q := by
  have hc := cap_le h1 h2
  refine Cw_in rfl rfl ?_
  refine r_aload_n (p := 1) rfl rfl rfl ?_
  refine r_getR (p := 4) rfl hb kh rv rfl ?_
  refine r_alen_b (v := nI n) (p := 5) rfl kv rfl rfl ?_
  refine r_istore_n (p := 6) rfl rfl rfl ?_
  refine r_iload_n (p := 7) rfl rfl rfl ?_
  refine r_aload_n (p := 8) rfl rfl rfl ?_
  refine r_getI4 (p := 11) rfl hb kh rfl ?_
  rw [c0]
  refine r_ishl (p := 12) rfl rfl ?_
  rw [shl0]
  refine r_istore_n (p := 13) rfl rfl rfl ?_
  refine r_iload_n (p := 14) rfl rfl rfl ?_
  refine r_iload_n (p := 15) rfl rfl rfl ?_
  refine r_isub (p := 16) rfl rfl ?_
  rw [nI_sub (by omega)]
  refine r_istore (p := 18) rfl rfl rfl ?_
  refine r_iload_n (p := 19) rfl rfl rfl ?_
  refine r_iload (p := 21) rfl rfl rfl ?_
  refine r_iload_n (p := 22) rfl rfl rfl ?_
  refine r_iconst (v := 2) (p := 23) rfl rfl rfl ?_
  refine r_aload_n (p := 24) rfl rfl rfl ?_
  refine r_getI4 (p := 27) rfl hb kh rfl ?_
  rw [c0]
  refine r_ishl (p := 28) rfl rfl ?_
  refine r_iadd (p := 29) rfl rfl ?_
  rw [shl0, show nI n + 2 = nI (n + 2) from nI_add n 2]
  refine r_cS1 (p := 32) rfl rfl (Nat.le_of_ble_eq_true rfl) rfl (s_J8_newLength h1 h2 ?_)
  refine r_istore (p := 34) rfl rfl rfl ?_
  refine r_iload (p := 36) rfl rfl rfl ?_
  refine r_ldcI (v := 2147483647) (p := 38) rfl rfl rfl ?_
  refine r_icmp_ne (p := 41) rfl rfl (fun c1 => ?_) (fun c1 => ?_)
  · refine r_iload (p := 53) rfl rfl rfl ?_
    refine r_aload_n (p := 54) rfl rfl rfl ?_
    refine r_getI4 (p := 57) rfl hb kh rfl ?_
    rw [c0]
    refine r_ishr (p := 58) rfl rfl ?_
    rw [shr0]
    exact r_ireturn rfl trivial hQ
  · exact absurd (nI_inj (b := 2147483647) (by omega) (by omega) c1) (by omega)
theorem cpy_at {X : mX} {M : mM} {hs hd sp dp n k : Nat} (h1 : sp < 1000) (h2 : dp < 1000) (h3 : n < 1000) (h4 : k < 1000) : mcpy X M hs hd (nI sp) (nI dp) (nI n) hd (nI k) = if dp ≤ k ∧ k < dp + n then mgM X M hs (nI (sp + (k - dp))) else M hd (nI k) := by
  unfold mcpy
  rw [beq_rf, nI_clamp (show sp < 2 ^ 31 by omega), nI_clamp (show dp < 2 ^ 31 by omega), nI_clamp (show n < 2 ^ 31 by omega), nI_clamp (show k < 2 ^ 31 by omega)]
  show (if _ then _ else _) = _
  by_cases h : dp ≤ k ∧ k < dp + n
  · rw [if_pos h, if_pos ⟨nI_pos (by omega), h⟩]
  · rw [if_neg h, if_neg (fun q => h q.2)]
theorem cpy_ne {X : mX} {M : mM} {hs hd a : Nat} {sp dp n i : Int32} (h : a ≠ hd) : mcpy X M hs hd sp dp n a i = M a i := by
  unfold mcpy
  rw [beq_ne h]
  rfl
theorem zF_at {F : mF} {h k : Nat} : zF F h h k = 0 := by
  unfold zF
  rw [beq_rf]
  rfl
theorem pY_k {Y : mY} {kd : Nat × Nat} {sl h : Nat} (e : h ≠ Y.1) : (pY Y kd sl).2.2.1 h = Y.2.2.1 h := by
  show cond (Nat.beq h Y.1) kd (Y.2.2.1 h) = _
  rw [beq_ne e]
  rfl
theorem pY_n {Y : mY} {kd : Nat × Nat} {sl : Nat} : (pY Y kd sl).2.2.1 Y.1 = kd := by
  show cond (Nat.beq Y.1 Y.1) kd (Y.2.2.1 Y.1) = _
  rw [beq_rf]
  rfl
theorem pY_r {Y : mY} {kd : Nat × Nat} {sl h k : Nat} (e : h ≠ Y.1) : (pY Y kd sl).2.2.2.2.1 h k = Y.2.2.2.2.1 h k := by
  show cond (Nat.beq h Y.1) none (Y.2.2.2.2.1 h k) = _
  rw [beq_ne e]
  rfl
set_option maxRecDepth 100000 in
theorem s_J7_copyOf {d : Nat} {Y : mY} {F : mF} {M : mM} {L : mL} {v n N : Nat} {Q : Option Value → mW → Prop} (hY : 53 ≤ Y.1 ∧ Y.1 ≤ 700000) (hv : 53 ≤ v ∧ v < Y.1) (kv : Y.2.2.1 v = (3, n)) (h1 : n < N) (h2 : N ≤ 190) (hf : ∀ k, k < n → byt (M v (nI k))) (hQ : ∀ M' L', (∀ k, k < n → M' Y.1 (nI k) = M v (nI k)) → (∀ k, n ≤ k → k < N → M' Y.1 (nI k) = 0) → (∀ a i, a ≠ Y.1 → M' a i = M a i) → Q (some (.ref Y.1)) (mXY (pY Y (3, N) N), zF F Y.1, M', L')) : Cw (d + 1) 218 [.ref v, .int (nI N)] (mXY Y, F, M, L) Q := by
  have kx : mkd (mXY Y) v = (3, n) := mkd_o (blt_t (by unfold mB; omega)) ((Yk hv.1).trans kv)
  have kx2 : mkd (mXY (pY Y (3, N) N)) v = (3, n) := mkd_o (blt_t (by unfold mB; omega)) ((Yk hv.1).trans ((pY_k (by omega)).trans kv))
  have ky2 : mkd (mXY (pY Y (3, N) N)) Y.1 = (3, N) := mkd_o (blt_t (by unfold mB; omega)) ((Yk hY.1).trans pY_n)
  refine Cw_in rfl rfl ?_
  refine r_iload_n (p := 1) rfl rfl rfl ?_
  refine r_aload_n (p := 2) rfl rfl rfl ?_
  refine r_alen_b (v := nI n) (p := 3) rfl kx rfl rfl ?_
  refine r_icmp_ne (p := 6) rfl rfl (fun c1 => ?_) (fun c1 => ?_)
  · refine r_iload_n (p := 15) rfl rfl rfl ?_
    refine r_newa (N := N) (p := 17) rfl (Or.inr (Or.inr rfl)) (nI_pos (by omega)) (nI_clamp (by omega)) (by omega) rfl ?_
    rw [pX_Y hY.1]
    show Wp _ _ _ _ (.ref Y.1 :: _) (mXY (pY Y (3, N) N), zF F Y.1, sM M Y.1 (fun _ => 0), zL L Y.1) _
    refine r_astore_n (p := 18) rfl rfl rfl ?_
    refine r_aload_n (p := 19) rfl rfl rfl ?_
    refine r_iconst (v := 0) (p := 20) rfl rfl rfl ?_
    refine r_aload_n (p := 21) rfl rfl rfl ?_
    refine r_iconst (v := 0) (p := 22) rfl rfl rfl ?_
    refine r_aload_n (p := 23) rfl rfl rfl ?_
    refine r_alen_b (v := nI n) (p := 24) rfl kx2 rfl rfl ?_
    refine r_iload_n (p := 25) rfl rfl rfl ?_
    refine r_min (p := 28) rfl (Nat.le_of_ble_eq_true rfl) rfl ?_
    rw [if_neg (show ¬ nI N < nI n from fun q => absurd ((nI_ltI (by omega) (by omega)).mp q) (by omega))]
    refine r_copy (p := 31) rfl (Nat.le_of_ble_eq_true rfl) (blt_t (show Y.1 < mB by unfold mB; omega)) (by rw [ky2]; show N ≤ 65536; omega) (by rw [ky2]) (by rw [kx2]) (nI_pos (n := 0) (by omega)) (nI_pos (n := 0) (by omega)) (nI_pos (by omega)) (by rw [kx2, nI_clamp (by omega)]; exact Nat.le_of_eq (Nat.zero_add _)) (by rw [ky2, nI_clamp (by omega)]; show 0 + n ≤ N; omega) (fun i hi => ?_) rfl ?_
    · rw [nI_clamp (by omega)] at hi
      have e : mgM (mXY (pY Y (3, N) N)) (sM M Y.1 (fun _ => 0)) v (nI ((0 : Int32).toNatClampNeg + i)) = M v (nI i) := by
        rw [show (0 : Int32).toNatClampNeg + i = i from Nat.zero_add i]
        exact (m_ror (blt_t (show v < mB by unfold mB; omega))).trans (sM_ne (show v ≠ Y.1 by omega))
      rw [e]
      exact (hf i hi).f
    refine r_aload_n (p := 32) rfl rfl rfl ?_
    refine r_areturn rfl ?_
    have e0 : ∀ k, k < N → mcpy (mXY (pY Y (3, N) N)) (sM M Y.1 (fun _ => 0)) v Y.1 0 0 (nI n) Y.1 (nI k) = _ := fun k hk => cpy_at (sp := 0) (dp := 0) (by omega) (by omega) (by omega) (by omega)
    refine hQ _ _ (fun k hk => ?_) (fun k hk hk2 => ?_) (fun a i ha => ?_)
    · rw [e0 k (by omega), if_pos ⟨Nat.zero_le _, by omega⟩]
      rw [Nat.zero_add, Nat.sub_zero]
      exact (m_ror (blt_t (show v < mB by unfold mB; omega))).trans (sM_ne (show v ≠ Y.1 by omega))
    · rw [e0 k hk2, if_neg (fun q => by omega)]
      exact sM_at
    · rw [cpy_ne ha]
      exact sM_ne ha
  · exact absurd (nI_inj (by omega) (by omega) c1) (by omega)
theorem neg_nI {m : Nat} (h0 : 0 < m) (h : m < 2 ^ 31) : -(nI m) < 0 := by
  have e1 : (nI m).toInt = m := by
    have := nI_toInt h
    exact this
  rw [Int32.lt_iff_toInt_lt, Int32.toInt_neg, e1]
  show Int.bmod (-(m : Int)) (2 ^ 32) < 0
  rw [Int.bmod_eq_of_le (by omega) (by omega)]
  omega
set_option maxRecDepth 100000 in
theorem s_J5_ensure {d : Nat} {Y : mY} {F : mF} {M : mM} {L : mL} {h c : Nat} {l : List Int32} {Q : Option Value → mW → Prop} (H : SB Y F M h l 0) (hc : c ≤ 90) (hY : Y.1 < 700000) (hQ : ∀ Y' F' M' L', SB Y' F' M' h l c → f53 F M F' M' → gq 1 Y Y' → Q none (mXY Y', F', M', L')) : Cw (d + 3) 239 [.ref h, .int (nI c)] (mXY Y, F, M, L) Q := by
  obtain ⟨h1, kh, c0, cn, v, n, rv, hv, kv, hn, hM, hB⟩ := H
  have hb : Nat.blt h mB = true := blt_t (by unfold mB; omega)
  have kh0 := kh
  have rv0 := rv
  have kv0 := kv
  have kh : (mXY Y).2.2.1 h = (0, 1) := (Yk h1.1).trans kh
  have rv : (mXY Y).2.2.2.1 h 0 = some v := (Yr h1.1).trans rv
  have kv : mkd (mXY Y) v = (3, n) := mkd_o (blt_t (by unfold mB; omega)) ((Yk hv.1).trans kv)
  refine Cw_in rfl rfl ?_
  refine r_aload_n (p := 1) rfl rfl rfl ?_
  refine r_getR (p := 4) rfl hb kh rv rfl ?_
  refine r_alen_b (v := nI n) (p := 5) rfl kv rfl rfl ?_
  refine r_aload_n (p := 6) rfl rfl rfl ?_
  refine r_getI4 (p := 9) rfl hb kh rfl ?_
  rw [c0]
  refine r_ishr (p := 10) rfl rfl ?_
  rw [shr0]
  refine r_istore_n (p := 11) rfl rfl rfl ?_
  refine r_iload_n (p := 12) rfl rfl rfl ?_
  refine r_iload_n (p := 13) rfl rfl rfl ?_
  refine r_isub (p := 14) rfl rfl ?_
  refine r_if_le (p := 17) rfl rfl (fun c1 => ?_) (fun c1 => ?_)
  · refine r_return rfl ?_
    have hcn : c ≤ n := Nat.le_of_not_lt fun q => absurd c1 (by rw [nI_sub (by omega)]; exact Int32.not_le.mpr ((nI_ltI (a := 0) (by omega) (by omega)).mpr (by omega)))
    exact hQ Y F M _ ⟨h1, kh0, c0, cn, v, n, rv0, hv, kv0, ⟨hn.1, hcn, hn.2.2⟩, hM, hB⟩ f53.rf gq.rf
  · have hcn : n < c := Nat.lt_of_not_le fun q => c1 (by
      rcases Nat.eq_or_lt_of_le q with e | e
      · rw [e, Int32.sub_self]; decide
      · refine Int32.le_of_lt ?_
        rw [show nI c - nI n = -(nI (n - c)) by rw [← nI_sub (show c ≤ n by omega)]; grind]
        exact neg_nI (by omega) (by omega))
    have hcp := cap_le hcn hc
    refine r_aload_n (p := 18) rfl rfl rfl ?_
    refine r_aload_n (p := 19) rfl rfl rfl ?_
    refine r_getR (p := 22) rfl hb kh rv rfl ?_
    refine r_aload_n (p := 23) rfl rfl rfl ?_
    refine r_iload_n (p := 24) rfl rfl rfl ?_
    refine r_cU (p := 27) rfl rfl (mkd_o hb kh) (Nat.le_of_ble_eq_true rfl) rfl (s_J5_newCapacity hb kh rv kv c0 hcn hc ?_)
    refine r_aload_n (p := 28) rfl rfl rfl ?_
    refine r_getI4 (p := 31) rfl hb kh rfl ?_
    rw [c0]
    refine r_ishl (p := 32) rfl rfl ?_
    rw [shl0]
    refine r_cS1 (p := 35) rfl rfl (Nat.le_of_ble_eq_true rfl) rfl (s_J7_copyOf ⟨by omega, by omega⟩ ⟨hv.1, hv.2.1⟩ kv0 hcp.1 hcp.2.2 hB (fun M1 L1 m1 m2 m3 => ?_))
    have kh2 : (mXY (pY Y (3, cap n c) (cap n c))).2.2.1 h = (0, 1) := (Yk h1.1).trans ((pY_k (by omega)).trans kh0)
    refine r_putR (p := 38) rfl hb kh2 rfl ?_
    rw [rX_Y h1.1]
    refine r_return rfl ?_
    refine hQ (rY (pY Y (3, cap n c) (cap n c)) h 0 (some Y.1)) _ _ _ ⟨⟨h1.1, by show h < Y.1 + 1; omega, by show Y.1 + 1 ≤ _; omega⟩, (pY_k (sl := cap n c) (by omega)).trans kh0, (zF_ne (by omega)).trans c0, (zF_ne (by omega)).trans cn, Y.1, cap n c, ?_, ⟨by omega, by show Y.1 < Y.1 + 1; omega, by omega⟩, pY_n (sl := cap n c), ⟨by omega, hcp.2.1, hcp.2.2⟩, fun k hk => ?_, fun k hk => ?_⟩ ⟨fun a k ha => zF_ne (by omega), fun a i ha => m3 a i (by omega)⟩ ⟨by show Y.1 ≤ Y.1 + 1; omega, Nat.le_refl _, by show Y.2.1 + cap n c ≤ _; omega, rfl, rfl⟩
    · show uR _ h 0 (some Y.1) h 0 = _
      unfold uR
      rw [beq_rf]
      rfl
    · rw [m1 k (by omega)]; exact hM k hk
    · by_cases hk2 : k < n
      · rw [m1 k hk2]; exact hB k hk2
      · rw [m2 k (by omega) hk]; exact byt_0
