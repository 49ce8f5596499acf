/-! ===== numbers ===== -/
def dd (m u : Nat) : Int32 := nI (48 + m / u % 10)
def dgn (m : Nat) : List Int32 := if m < 10 then [dd m 1] else if m < 100 then [dd m 10, dd m 1] else if m < 1000 then [dd m 100, dd m 10, dd m 1] else if m < 10000 then [dd m 1000, dd m 100, dd m 10, dd m 1] else [dd m 10000, dd m 1000, dd m 100, dd m 10, dd m 1]
theorem dd_b {m u : Nat} : byt (dd m u) := by
  unfold dd
  have : m / u % 10 < 10 := Nat.mod_lt _ (by omega)
  exact ⟨nI_pos (by omega), Int32.not_lt.mpr (nI_le (b := 127) (by omega) (by omega))⟩
theorem dgn_b {m : Nat} : ∀ x ∈ dgn m, byt x := by
  intro x hx
  unfold dgn at hx
  split at hx
  · simp only [List.mem_cons, List.not_mem_nil, or_false] at hx
    rw [hx]; exact dd_b
  · split at hx
    · simp only [List.mem_cons, List.not_mem_nil, or_false] at hx
      rcases hx with q | q <;> rw [q] <;> exact dd_b
    · split at hx
      · simp only [List.mem_cons, List.not_mem_nil, or_false] at hx
        rcases hx with q | q | q <;> rw [q] <;> exact dd_b
      · split at hx
        · simp only [List.mem_cons, List.not_mem_nil, or_false] at hx
          rcases hx with q | q | q | q <;> rw [q] <;> exact dd_b
        · simp only [List.mem_cons, List.not_mem_nil, or_false] at hx
          rcases hx with q | q | q | q | q <;> rw [q] <;> exact dd_b
theorem dgn_len {m : Nat} : 1 ≤ (dgn m).length ∧ (dgn m).length ≤ 5 := by
  unfold dgn
  split
  · exact ⟨by show 1 ≤ 1; omega, by show 1 ≤ 5; omega⟩
  · split
    · exact ⟨by show 1 ≤ 2; omega, by show 2 ≤ 5; omega⟩
    · split
      · exact ⟨by show 1 ≤ 3; omega, by show 3 ≤ 5; omega⟩
      · split
        · exact ⟨by show 1 ≤ 4; omega, by show 4 ≤ 5; omega⟩
        · exact ⟨by show 1 ≤ 5; omega, by show 5 ≤ 5; omega⟩
theorem dgn_100 {m : Nat} (h : 100 ≤ m) (h2 : m < 100000) : dgn m = dgn (m / 100) ++ [dd (m % 100) 10, dd (m % 100) 1] := by
  have e1 : dd (m % 100) 10 = dd m 10 := by unfold dd; congr 1; omega
  have e2 : dd (m % 100) 1 = dd m 1 := by unfold dd; congr 1; omega
  have e3 : dd (m / 100) 1 = dd m 100 := by unfold dd; congr 1; omega
  have e4 : dd (m / 100) 10 = dd m 1000 := by unfold dd; congr 1; omega
  have e5 : dd (m / 100) 100 = dd m 10000 := by unfold dd; congr 1; omega
  rw [e1, e2]
  unfold dgn
  rw [if_neg (by omega), if_neg (by omega)]
  by_cases h3 : m < 1000
  · rw [if_pos h3, if_pos (by omega), e3]; rfl
  · rw [if_neg h3]
    by_cases h4 : m < 10000
    · rw [if_pos h4, if_neg (show ¬ m / 100 < 10 by omega), if_pos (show m / 100 < 100 by omega), e3, e4]; rfl
    · rw [if_neg h4, if_neg (show ¬ m / 100 < 10 by omega), if_neg (show ¬ m / 100 < 100 by omega), if_pos (show m / 100 < 1000 by omega), e3, e4, e5]; rfl
theorem neg_toInt {m : Nat} (h : m < 2 ^ 31) : (-(nI m)).toInt = -(m : Int) := by
  rw [Int32.toInt_neg, nI_toInt h]
  exact Int.bmod_eq_of_le (by omega) (by omega)
theorem neg_le {a b : Nat} (ha : a < 2 ^ 31) (hb : b < 2 ^ 31) : -(nI a) ≤ -(nI b) ↔ b ≤ a := by
  rw [Int32.le_iff_toInt_le, neg_toInt ha, neg_toInt hb]
  omega
theorem neg_div {m : Nat} (h : m < 2 ^ 31) : -(nI m) / 100 = -(nI (m / 100)) := by
  refine Int32.toInt_inj.mp ?_
  rw [Int32.toInt_div, neg_toInt h, neg_toInt (by omega)]
  rw [show (100 : Int32).toInt = 100 from rfl, Int.neg_tdiv, Int.tdiv_eq_ediv_of_nonneg (by omega)]
  have : ((m : Int) / 100) = ((m / 100 : Nat) : Int) := by omega
  rw [this]
  exact Int.bmod_eq_of_le (by omega) (by omega)
theorem neg_mod {m : Nat} : -(nI (m / 100)) * 100 - -(nI m) = nI (m % 100) := by
  have e : nI m = nI (m / 100) * 100 + nI (m % 100) := by
    rw [show (100 : Int32) = nI 100 from rfl]
    have e2 : nI (m / 100) * nI 100 = nI (m / 100 * 100) := by simp [nI]
    rw [e2, nI_add]
    congr 1
    omega
  rw [e]
  grind
set_option maxRecDepth 100000 in
theorem s_J6_stringSize {d : Nat} {w : mW} {m : Nat} {Q : Option Value → mW → Prop} (hm : m < 100000) (hQ : Q (some (.int (nI (dgn m).length))) w) : Cw (d + 1) 232 [.int (nI m)] w Q := by
  refine Cw_in rfl rfl ?_
  refine r_iconst (v := 1) (p := 1) rfl rfl rfl ?_
  refine r_istore_n (p := 2) rfl rfl rfl ?_
  refine r_iload_n (p := 3) rfl rfl rfl ?_
  refine r_if_lt (p := 6) rfl rfl (fun c1 => ?_) (fun c1 => ?_)
  · exact absurd c1 (nI_pos (by omega))
  · clear c1
    refine r_iconst (v := 0) (p := 7) rfl rfl rfl ?_
    refine r_istore_n (p := 8) rfl rfl rfl ?_
    refine r_iload_n (p := 9) rfl rfl rfl ?_
    refine r_ineg (p := 10) rfl rfl ?_
    refine r_istore_n (p := 11) rfl rfl rfl ?_
    refine r_bipush (v := (-10)) (p := 13) rfl rfl rfl ?_
    refine r_istore_n (p := 14) rfl rfl rfl ?_
    refine r_iconst (v := 1) (p := 15) rfl rfl rfl ?_
    refine r_istore_n (p := 16) rfl rfl rfl ?_
    show Wp d _ 16 [_, _, some (.int (-(nI 10))), some (.int 1)] _ _ _
    refine r_iload_n (p := 17) rfl rfl rfl ?_
    refine r_bipush (v := 10) (p := 19) rfl rfl rfl ?_
    refine r_icmp_ge (p := 22) rfl rfl (fun c => absurd c (by decide)) (fun _ => ?_)
    refine r_iload_n (p := 23) rfl rfl rfl ?_
    refine r_iload_n (p := 24) rfl rfl rfl ?_
    refine r_icmp_le (p := 27) rfl rfl (fun c1 => ?_) (fun c1 => ?_)
    · have hg1 : 10 ≤ m := (neg_le (a := m) (b := 10) (by omega) (by omega)).mp c1
      refine r_bipush (v := 10) (p := 33) rfl rfl rfl ?_
      refine r_iload_n (p := 34) rfl rfl rfl ?_
      refine r_imul (p := 35) rfl rfl ?_
      refine r_istore_n (p := 36) rfl rfl rfl ?_
      refine r_iinc (v := 2) (p := 39) rfl rfl rfl rfl rfl ?_
      refine r_goto rfl ?_
      show Wp d _ 16 [_, _, some (.int (-(nI 100))), some (.int 2)] _ _ _
      refine r_iload_n (p := 17) rfl rfl rfl ?_
      refine r_bipush (v := 10) (p := 19) rfl rfl rfl ?_
      refine r_icmp_ge (p := 22) rfl rfl (fun c => absurd c (by decide)) (fun _ => ?_)
      refine r_iload_n (p := 23) rfl rfl rfl ?_
      refine r_iload_n (p := 24) rfl rfl rfl ?_
      refine r_icmp_le (p := 27) rfl rfl (fun c1 => ?_) (fun c1 => ?_)
      · have hg2 : 100 ≤ m := (neg_le (a := m) (b := 100) (by omega) (by omega)).mp c1
        refine r_bipush (v := 10) (p := 33) rfl rfl rfl ?_
        refine r_iload_n (p := 34) rfl rfl rfl ?_
        refine r_imul (p := 35) rfl rfl ?_
        refine r_istore_n (p := 36) rfl rfl rfl ?_
        refine r_iinc (v := 3) (p := 39) rfl rfl rfl rfl rfl ?_
        refine r_goto rfl ?_
        show Wp d _ 16 [_, _, some (.int (-(nI 1000))), some (.int 3)] _ _ _
        refine r_iload_n (p := 17) rfl rfl rfl ?_
        refine r_bipush (v := 10) (p := 19) rfl rfl rfl ?_
        refine r_icmp_ge (p := 22) rfl rfl (fun c => absurd c (by decide)) (fun _ => ?_)
        refine r_iload_n (p := 23) rfl rfl rfl ?_
        refine r_iload_n (p := 24) rfl rfl rfl ?_
        refine r_icmp_le (p := 27) rfl rfl (fun c1 => ?_) (fun c1 => ?_)
        · have hg3 : 1000 ≤ m := (neg_le (a := m) (b := 1000) (by omega) (by omega)).mp c1
          refine r_bipush (v := 10) (p := 33) rfl rfl rfl ?_
          refine r_iload_n (p := 34) rfl rfl rfl ?_
          refine r_imul (p := 35) rfl rfl ?_
          refine r_istore_n (p := 36) rfl rfl rfl ?_
          refine r_iinc (v := 4) (p := 39) rfl rfl rfl rfl rfl ?_
          refine r_goto rfl ?_
          show Wp d _ 16 [_, _, some (.int (-(nI 10000))), some (.int 4)] _ _ _
          refine r_iload_n (p := 17) rfl rfl rfl ?_
          refine r_bipush (v := 10) (p := 19) rfl rfl rfl ?_
          refine r_icmp_ge (p := 22) rfl rfl (fun c => absurd c (by decide)) (fun _ => ?_)
          refine r_iload_n (p := 23) rfl rfl rfl ?_
          refine r_iload_n (p := 24) rfl rfl rfl ?_
          refine r_icmp_le (p := 27) rfl rfl (fun c1 => ?_) (fun c1 => ?_)
          · have hg4 : 10000 ≤ m := (neg_le (a := m) (b := 10000) (by omega) (by omega)).mp c1
            refine r_bipush (v := 10) (p := 33) rfl rfl rfl ?_
            refine r_iload_n (p := 34) rfl rfl rfl ?_
            refine r_imul (p := 35) rfl rfl ?_
            refine r_istore_n (p := 36) rfl rfl rfl ?_
            refine r_iinc (v := 5) (p := 39) rfl rfl rfl rfl rfl ?_
            refine r_goto rfl ?_
            show Wp d _ 16 [_, _, some (.int (-(nI 100000))), some (.int 5)] _ _ _
            refine r_iload_n (p := 17) rfl rfl rfl ?_
            refine r_bipush (v := 10) (p := 19) rfl rfl rfl ?_
            refine r_icmp_ge (p := 22) rfl rfl (fun c => absurd c (by decide)) (fun _ => ?_)
            refine r_iload_n (p := 23) rfl rfl rfl ?_
            refine r_iload_n (p := 24) rfl rfl rfl ?_
            refine r_icmp_le (p := 27) rfl rfl (fun c1 => ?_) (fun c1 => ?_)
            · exact absurd ((neg_le (a := m) (b := 100000) (by omega) (by omega)).mp c1) (by omega)
            · refine r_iload_n (p := 28) rfl rfl rfl ?_
              refine r_iload_n (p := 29) rfl rfl rfl ?_
              refine r_iadd (p := 30) rfl rfl ?_
              have hlt : m < 100000 := Nat.lt_of_not_le fun q => c1 ((neg_le (a := m) (b := 100000) (by omega) (by omega)).mpr q)
              have e : dgn m = [dd m 10000, dd m 1000, dd m 100, dd m 10, dd m 1] := by unfold dgn; rw [if_neg (show ¬ m < 10 by omega), if_neg (show ¬ m < 100 by omega), if_neg (show ¬ m < 1000 by omega), if_neg (show ¬ m < 10000 by omega)]
              rw [e] at hQ
              exact r_ireturn rfl trivial hQ
          · refine r_iload_n (p := 28) rfl rfl rfl ?_
            refine r_iload_n (p := 29) rfl rfl rfl ?_
            refine r_iadd (p := 30) rfl rfl ?_
            have hlt : m < 10000 := Nat.lt_of_not_le fun q => c1 ((neg_le (a := m) (b := 10000) (by omega) (by omega)).mpr q)
            have e : dgn m = [dd m 1000, dd m 100, dd m 10, dd m 1] := by unfold dgn; rw [if_neg (show ¬ m < 10 by omega), if_neg (show ¬ m < 100 by omega), if_neg (show ¬ m < 1000 by omega)]; exact if_pos hlt
            rw [e] at hQ
            exact r_ireturn rfl trivial hQ
        · refine r_iload_n (p := 28) rfl rfl rfl ?_
          refine r_iload_n (p := 29) rfl rfl rfl ?_
          refine r_iadd (p := 30) rfl rfl ?_
          have hlt : m < 1000 := Nat.lt_of_not_le fun q => c1 ((neg_le (a := m) (b := 1000) (by omega) (by omega)).mpr q)
          have e : dgn m = [dd m 100, dd m 10, dd m 1] := by unfold dgn; rw [if_neg (show ¬ m < 10 by omega), if_neg (show ¬ m < 100 by omega)]; exact if_pos hlt
          rw [e] at hQ
          exact r_ireturn rfl trivial hQ
      · refine r_iload_n (p := 28) rfl rfl rfl ?_
        refine r_iload_n (p := 29) rfl rfl rfl ?_
        refine r_iadd (p := 30) rfl rfl ?_
        have hlt : m < 100 := Nat.lt_of_not_le fun q => c1 ((neg_le (a := m) (b := 100) (by omega) (by omega)).mpr q)
        have e : dgn m = [dd m 10, dd m 1] := by unfold dgn; rw [if_neg (show ¬ m < 10 by omega)]; exact if_pos hlt
        rw [e] at hQ
        exact r_ireturn rfl trivial hQ
    · refine r_iload_n (p := 28) rfl rfl rfl ?_
      refine r_iload_n (p := 29) rfl rfl rfl ?_
      refine r_iadd (p := 30) rfl rfl ?_
      have hlt : m < 10 := Nat.lt_of_not_le fun q => c1 ((neg_le (a := m) (b := 10) (by omega) (by omega)).mpr q)
      have e : dgn m = [dd m 1] := by unfold dgn; exact if_pos hlt
      rw [e] at hQ
      exact r_ireturn rfl trivial hQ
theorem mo1 {E : mN} {j : Nat} (h : j < 2 ^ 31) : mroM E 1000201 (nI j) = dd j 1 := by
  show mOne (nI j).toNatClampNeg = _
  rw [nI_clamp h]
  unfold mOne dd
  rw [Nat.div_one]
theorem mo10 {E : mN} {j : Nat} (h : j < 100) : mroM E 1000202 (nI j) = dd j 10 := by
  show mTen (nI j).toNatClampNeg = _
  rw [nI_clamp (by omega)]
  unfold mTen dd
  congr 1
  omega
theorem p_1 {p : Nat} (h : 1 ≤ p) : nI p + Int32.ofInt (-1) = nI (p - 1) := by rw [nI_m1]; exact nI_sub h
set_option maxRecDepth 100000 in
theorem getChars_fin1 {d : Nat} {X : mX} {F : mF} {L : mL} {v n : Nat} {ix : Int32} {Q : Option Value → mW → Prop} (hbv : Nat.blt v mB = true) (kx : X.2.2.1 v = (3, n)) (hn : n ≤ 190) {M : mM} {m p : Nat} {z3 z4 : Int32} (hm : m < 100) (hp : (dgn m).length ≤ p) (hpn : p ≤ n) (hQ : (∀ M', (∀ j, j < (dgn m).length → M' v (nI (p - (dgn m).length + j)) = (dgn m).getD j 0) → (∀ a i, a ≠ v → M' a i = M a i) → (∀ q, q < 1000 → (q < p - (dgn m).length ∨ p ≤ q) → M' v (nI q) = M v (nI q)) → ∀ r, Q (some (.int r)) (X, F, M', L))) : Wp d tJ6_getChars_ba4f3 72 [some (.int (-(nI m))), some (.int ix), some (.ref v), some (.int z3), some (.int z4), some (.int (nI p)), some (.int 0)] [] (X, F, M, L) Q := by
  have hd := dgn_len (m := m)
  have e9 : -(-(nI m)) = nI m := by grind
  refine r_aload_n (p := 73) rfl rfl rfl ?_
  refine r_iinc (v := (nI (p - 1))) (p := 76) rfl rfl (p_1 (by omega)) rfl rfl ?_
  refine r_iload (p := 78) rfl rfl rfl ?_
  refine r_getsR (p := 81) rfl rfl rfl ?_
  refine r_iload_n (p := 82) rfl rfl rfl ?_
  refine r_ineg (p := 83) rfl rfl ?_
  rw [e9]
  refine r_bald_ro (p := 84) rfl rfl rfl (vp_in_nI (show m < 100 by omega) (by omega)) rfl ?_
  rw [mo1 (by omega)]
  refine r_bast (v := dd m 1) (p := 85) rfl hbv kx (vp_in_nI (show p - 1 < n by omega) (by omega)) (by omega) dd_b.n rfl ?_
  refine r_iload_n (p := 86) rfl rfl rfl ?_
  refine r_bipush (v := (-9)) (p := 88) rfl rfl rfl ?_
  refine r_icmp_ge (p := 91) rfl rfl (fun c1 => ?_) (fun c1 => ?_)
  · refine r_iload (p := 106) rfl rfl rfl ?_
    refine r_if_eq (p := 109) rfl rfl (fun _ => ?_) (fun c => absurd c (by decide))
    refine r_iload (p := 120) rfl rfl rfl ?_
    have hlt : m < 10 := Nat.lt_succ_of_le ((neg_le (a := 9) (b := m) (by omega) (by omega)).mp c1)
    have e : dgn m = [dd m 1] := if_pos hlt
    rw [e] at hQ
    refine r_ireturn rfl trivial ?_
    refine hQ _ (fun j hj => ?_) (fun a i ha => uM_ne ha) (fun q hq hq2 => ?_) _
    · have hj : j < 1 := hj
      rw [show j = 0 by omega]
      show uM M v (nI (p - 1)) (dd m 1) v (nI (p - 1 + 0)) = dd m 1
      rw [Nat.add_zero, uM_at, if_pos rfl]
    · have hq2 : q < p - 1 ∨ p ≤ q := hq2
      rw [uM_at, if_neg (fun z => by have := nI_inj (by omega) (by omega) z; omega)]
  · have hge : 10 ≤ m := Nat.lt_of_not_le fun q => c1 ((neg_le (a := 9) (b := m) (by omega) (by omega)).mpr q)
    have e2 : dgn m = [dd m 10, dd m 1] := by unfold dgn; rw [if_neg (show ¬ m < 10 by omega)]; exact if_pos hm
    have hp2 : 2 ≤ p := by rw [e2] at hp; exact hp
    refine r_aload_n (p := 92) rfl rfl rfl ?_
    refine r_iinc (v := (nI (p - 1 - 1))) (p := 95) rfl rfl (p_1 (by omega)) rfl rfl ?_
    refine r_iload (p := 97) rfl rfl rfl ?_
    refine r_getsR (p := 100) rfl rfl rfl ?_
    refine r_iload_n (p := 101) rfl rfl rfl ?_
    refine r_ineg (p := 102) rfl rfl ?_
    rw [e9]
    refine r_bald_ro (p := 103) rfl rfl rfl (vp_in_nI (show m < 100 by omega) (by omega)) rfl ?_
    rw [mo10 (by omega)]
    refine r_bast (v := dd m 10) (p := 104) rfl hbv kx (vp_in_nI (show p - 1 - 1 < n by omega) (by omega)) (by omega) dd_b.n rfl ?_
    refine r_iload (p := 106) rfl rfl rfl ?_
    refine r_if_eq (p := 109) rfl rfl (fun _ => ?_) (fun c => absurd c (by decide))
    refine r_iload (p := 120) rfl rfl rfl ?_
    have e : dgn m = [dd m 10, dd m 1] := e2
    rw [e] at hQ
    refine r_ireturn rfl trivial ?_
    refine hQ _ (fun j hj => ?_) (fun a i ha => (uM_ne ha).trans (uM_ne ha)) (fun q hq hq2 => ?_) _
    · have hj : j < 2 := hj
      show uM (uM M v (nI (p - 1)) (dd m 1)) v (nI (p - 1 - 1)) (dd m 10) v (nI (p - 2 + j)) = _
      rcases (show j = 0 ∨ j = 1 by omega) with q | q
      · rw [q, uM_at, if_pos (by congr 1)]
        rfl
      · rw [q, uM_at, if_neg (fun z => by have := nI_inj (by omega) (by omega) z; omega), uM_at, if_pos (by congr 1; omega)]
        rfl
    · have hq2 : q < p - 2 ∨ p ≤ q := hq2
      rw [uM_at, if_neg (fun z => by have := nI_inj (by omega) (by omega) z; omega), uM_at, if_neg (fun z => by have := nI_inj (by omega) (by omega) z; omega)]
set_option maxRecDepth 100000 in
theorem lp_getChars1 {d : Nat} {X : mX} {F : mF} {L : mL} {v n : Nat} {ix : Int32} {Q : Option Value → mW → Prop} (hbv : Nat.blt v mB = true) (kx : X.2.2.1 v = (3, n)) (hn : n ≤ 190)  :
    ∀ (f m p : Nat) (M : mM) (z3 z4 : Int32), m < 100 ^ (f + 1) → m < 100000 → (dgn m).length ≤ p → p ≤ n → (∀ M', (∀ j, j < (dgn m).length → M' v (nI (p - (dgn m).length + j)) = (dgn m).getD j 0) → (∀ a i, a ≠ v → M' a i = M a i) → (∀ q, q < 1000 → (q < p - (dgn m).length ∨ p ≤ q) → M' v (nI q) = M v (nI q)) → ∀ r, Q (some (.int r)) (X, F, M', L)) → Wp d tJ6_getChars_ba4f3 22 [some (.int (-(nI m))), some (.int ix), some (.ref v), some (.int z3), some (.int z4), some (.int (nI p)), some (.int 0)] [] (X, F, M, L) Q
  | 0, m, p, M, z3, z4, hf, hm, hp, hpn, hQ => by
    have hd := dgn_len (m := m)
    refine r_iload_n (p := 23) rfl rfl rfl ?_
    refine r_bipush (v := (-100)) (p := 25) rfl rfl rfl ?_
    refine r_icmp_gt (p := 28) rfl rfl (fun c1 => ?_) (fun c1 => ?_)
    · have hlt : m < 100 := by have : 100 ^ (0 + 1) = 100 := rfl; omega
      exact getChars_fin1 hbv  kx hn hlt hp hpn hQ
    · exact absurd ((neg_le (a := m) (b := 100) (by omega) (by omega)).mp (Int32.not_lt.mp c1)) (by have : 100 ^ (0 + 1) = 100 := rfl; omega)
  | f + 1, m, p, M, z3, z4, hf, hm, hp, hpn, hQ => by
    have hd := dgn_len (m := m)
    refine r_iload_n (p := 23) rfl rfl rfl ?_
    refine r_bipush (v := (-100)) (p := 25) rfl rfl rfl ?_
    refine r_icmp_gt (p := 28) rfl rfl (fun c1 => ?_) (fun c1 => ?_)
    · have hlt : m < 100 := Nat.lt_of_not_le fun q => absurd c1 (Int32.not_lt.mpr ((neg_le (a := m) (b := 100) (by omega) (by omega)).mpr q))
      exact getChars_fin1 hbv  kx hn hlt hp hpn hQ
    · have hge : 100 ≤ m := (neg_le (a := m) (b := 100) (by omega) (by omega)).mp (Int32.not_lt.mp c1)
      have e100 := dgn_100 hge hm
      have elen : (dgn m).length = (dgn (m / 100)).length + 2 := by rw [e100]; simp
      refine r_iload_n (p := 29) rfl rfl rfl ?_
      refine r_bipush (v := 100) (p := 31) rfl rfl rfl ?_
      refine r_idiv (p := 32) rfl (by decide) rfl ?_
      rw [neg_div (by omega)]
      refine r_istore_n (p := 33) rfl rfl rfl ?_
      refine r_iload_n (p := 34) rfl rfl rfl ?_
      refine r_bipush (v := 100) (p := 36) rfl rfl rfl ?_
      refine r_imul (p := 37) rfl rfl ?_
      refine r_iload_n (p := 38) rfl rfl rfl ?_
      refine r_isub (p := 39) rfl rfl ?_
      rw [neg_mod]
      refine r_istore (p := 41) rfl rfl rfl ?_
      refine r_iload_n (p := 42) rfl rfl rfl ?_
      refine r_istore_n (p := 43) rfl rfl rfl ?_
      refine r_aload_n (p := 44) rfl rfl rfl ?_
      refine r_iinc (v := (nI (p - 1))) (p := 47) rfl rfl (p_1 (by omega)) rfl rfl ?_
      refine r_iload (p := 49) rfl rfl rfl ?_
      refine r_getsR (p := 52) rfl rfl rfl ?_
      refine r_iload (p := 54) rfl rfl rfl ?_
      refine r_bald_ro (p := 55) rfl rfl rfl (vp_in_nI (show m % 100 < 100 by omega) (by omega)) rfl ?_
      rw [mo1 (by omega)]
      refine r_bast (v := dd (m % 100) 1) (p := 56) rfl hbv kx (vp_in_nI (show p - 1 < n by omega) (by omega)) (by omega) dd_b.n rfl ?_
      refine r_aload_n (p := 57) rfl rfl rfl ?_
      refine r_iinc (v := (nI (p - 1 - 1))) (p := 60) rfl rfl (p_1 (by omega)) rfl rfl ?_
      refine r_iload (p := 62) rfl rfl rfl ?_
      refine r_getsR (p := 65) rfl rfl rfl ?_
      refine r_iload (p := 67) rfl rfl rfl ?_
      refine r_bald_ro (p := 68) rfl rfl rfl (vp_in_nI (show m % 100 < 100 by omega) (by omega)) rfl ?_
      rw [mo10 (by omega)]
      refine r_bast (v := dd (m % 100) 10) (p := 69) rfl hbv kx (vp_in_nI (show p - 1 - 1 < n by omega) (by omega)) (by omega) dd_b.n rfl ?_
      refine r_goto rfl ?_
      refine lp_getChars1 hbv kx hn f (m / 100) (p - 1 - 1) _ _ _ ?_ (by omega) (by omega) (by omega) (fun M9 w1 w2 w3 r => hQ M9 (fun j hj => ?_) (fun a i ha => ?_) (fun q hq hq2 => ?_) r)
      · rw [Nat.pow_succ] at hf
        exact Nat.div_lt_of_lt_mul (by rw [Nat.mul_comm]; exact hf)
      · rw [e100]
        by_cases h3 : j < (dgn (m / 100)).length
        · rw [show p - (dgn (m / 100) ++ [dd (m % 100) 10, dd (m % 100) 1]).length + j = p - 1 - 1 - (dgn (m / 100)).length + j by simp; omega, w1 j h3]
          simp [List.getD_eq_getElem?_getD, List.getElem?_append_left h3]
        · rw [show p - (dgn (m / 100) ++ [dd (m % 100) 10, dd (m % 100) 1]).length + j = p - 2 + (j - (dgn (m / 100)).length) by simp; omega]
          rw [w3 _ (by omega) (Or.inr (by omega))]
          rcases (show j = (dgn (m / 100)).length ∨ j = (dgn (m / 100)).length + 1 by omega) with q | q
          · rw [q, Nat.sub_self, Nat.add_zero, uM_at, if_pos (by congr 1)]
            simp [List.getD_eq_getElem?_getD]
          · rw [q, uM_at, if_neg (fun z => by have := nI_inj (by omega) (by omega) z; omega), uM_at, if_pos (by congr 1; omega)]
            simp [List.getD_eq_getElem?_getD, List.getElem?_append_right]
      · rw [w2 a i ha, uM_ne ha, uM_ne ha]
      · rw [w3 q hq (by omega), uM_at, if_neg (fun z => by have := nI_inj (by omega) (by omega) z; omega), uM_at, if_neg (fun z => by have := nI_inj (by omega) (by omega) z; omega)]
set_option maxRecDepth 100000 in
theorem getChars_fin0 {d : Nat} {X : mX} {F : mF} {L : mL} {v n : Nat} {ix : Int32} {Q : Option Value → mW → Prop} (hbv : Nat.blt v mB = true) (kx : X.2.2.1 v = (3, n)) (hn : n ≤ 190) {M : mM} {m p : Nat} (hm : m < 100) (hp : (dgn m).length ≤ p) (hpn : p ≤ n) (hQ : (∀ M', (∀ j, j < (dgn m).length → M' v (nI (p - (dgn m).length + j)) = (dgn m).getD j 0) → (∀ a i, a ≠ v → M' a i = M a i) → (∀ q, q < 1000 → (q < p - (dgn m).length ∨ p ≤ q) → M' v (nI q) = M v (nI q)) → ∀ r, Q (some (.int r)) (X, F, M', L))) : Wp d tJ6_getChars_ba4f3 72 [some (.int (-(nI m))), some (.int ix), some (.ref v), none, none, some (.int (nI p)), some (.int 0)] [] (X, F, M, L) Q := by
  have hd := dgn_len (m := m)
  have e9 : -(-(nI m)) = nI m := by grind
  refine r_aload_n (p := 73) rfl rfl rfl ?_
  refine r_iinc (v := (nI (p - 1))) (p := 76) rfl rfl (p_1 (by omega)) rfl rfl ?_
  refine r_iload (p := 78) rfl rfl rfl ?_
  refine r_getsR (p := 81) rfl rfl rfl ?_
  refine r_iload_n (p := 82) rfl rfl rfl ?_
  refine r_ineg (p := 83) rfl rfl ?_
  rw [e9]
  refine r_bald_ro (p := 84) rfl rfl rfl (vp_in_nI (show m < 100 by omega) (by omega)) rfl ?_
  rw [mo1 (by omega)]
  refine r_bast (v := dd m 1) (p := 85) rfl hbv kx (vp_in_nI (show p - 1 < n by omega) (by omega)) (by omega) dd_b.n rfl ?_
  refine r_iload_n (p := 86) rfl rfl rfl ?_
  refine r_bipush (v := (-9)) (p := 88) rfl rfl rfl ?_
  refine r_icmp_ge (p := 91) rfl rfl (fun c1 => ?_) (fun c1 => ?_)
  · refine r_iload (p := 106) rfl rfl rfl ?_
    refine r_if_eq (p := 109) rfl rfl (fun _ => ?_) (fun c => absurd c (by decide))
    refine r_iload (p := 120) rfl rfl rfl ?_
    have hlt : m < 10 := Nat.lt_succ_of_le ((neg_le (a := 9) (b := m) (by omega) (by omega)).mp c1)
    have e : dgn m = [dd m 1] := if_pos hlt
    rw [e] at hQ
    refine r_ireturn rfl trivial ?_
    refine hQ _ (fun j hj => ?_) (fun a i ha => uM_ne ha) (fun q hq hq2 => ?_) _
    · have hj : j < 1 := hj
      rw [show j = 0 by omega]
      show uM M v (nI (p - 1)) (dd m 1) v (nI (p - 1 + 0)) = dd m 1
      rw [Nat.add_zero, uM_at, if_pos rfl]
    · have hq2 : q < p - 1 ∨ p ≤ q := hq2
      rw [uM_at, if_neg (fun z => by have := nI_inj (by omega) (by omega) z; omega)]
  · have hge : 10 ≤ m := Nat.lt_of_not_le fun q => c1 ((neg_le (a := 9) (b := m) (by omega) (by omega)).mpr q)
    have e2 : dgn m = [dd m 10, dd m 1] := by unfold dgn; rw [if_neg (show ¬ m < 10 by omega)]; exact if_pos hm
    have hp2 : 2 ≤ p := by rw [e2] at hp; exact hp
    refine r_aload_n (p := 92) rfl rfl rfl ?_
    refine r_iinc (v := (nI (p - 1 - 1))) (p := 95) rfl rfl (p_1 (by omega)) rfl rfl ?_
    refine r_iload (p := 97) rfl rfl rfl ?_
    refine r_getsR (p := 100) rfl rfl rfl ?_
    refine r_iload_n (p := 101) rfl rfl rfl ?_
    refine r_ineg (p := 102) rfl rfl ?_
    rw [e9]
    refine r_bald_ro (p := 103) rfl rfl rfl (vp_in_nI (show m < 100 by omega) (by omega)) rfl ?_
    rw [mo10 (by omega)]
    refine r_bast (v := dd m 10) (p := 104) rfl hbv kx (vp_in_nI (show p - 1 - 1 < n by omega) (by omega)) (by omega) dd_b.n rfl ?_
    refine r_iload (p := 106) rfl rfl rfl ?_
    refine r_if_eq (p := 109) rfl rfl (fun _ => ?_) (fun c => absurd c (by decide))
    refine r_iload (p := 120) rfl rfl rfl ?_
    have e : dgn m = [dd m 10, dd m 1] := e2
    rw [e] at hQ
    refine r_ireturn rfl trivial ?_
    refine hQ _ (fun j hj => ?_) (fun a i ha => (uM_ne ha).trans (uM_ne ha)) (fun q hq hq2 => ?_) _
    · have hj : j < 2 := hj
      show uM (uM M v (nI (p - 1)) (dd m 1)) v (nI (p - 1 - 1)) (dd m 10) v (nI (p - 2 + j)) = _
      rcases (show j = 0 ∨ j = 1 by omega) with q | q
      · rw [q, uM_at, if_pos (by congr 1)]
        rfl
      · rw [q, uM_at, if_neg (fun z => by have := nI_inj (by omega) (by omega) z; omega), uM_at, if_pos (by congr 1; omega)]
        rfl
    · have hq2 : q < p - 2 ∨ p ≤ q := hq2
      rw [uM_at, if_neg (fun z => by have := nI_inj (by omega) (by omega) z; omega), uM_at, if_neg (fun z => by have := nI_inj (by omega) (by omega) z; omega)]
set_option maxRecDepth 100000 in
theorem lp_getChars0 {d : Nat} {X : mX} {F : mF} {L : mL} {v n : Nat} {ix : Int32} {Q : Option Value → mW → Prop} (hbv : Nat.blt v mB = true) (kx : X.2.2.1 v = (3, n)) (hn : n ≤ 190)  :
    ∀ (f m p : Nat) (M : mM), m < 100 ^ (f + 1) → m < 100000 → (dgn m).length ≤ p → p ≤ n → (∀ M', (∀ j, j < (dgn m).length → M' v (nI (p - (dgn m).length + j)) = (dgn m).getD j 0) → (∀ a i, a ≠ v → M' a i = M a i) → (∀ q, q < 1000 → (q < p - (dgn m).length ∨ p ≤ q) → M' v (nI q) = M v (nI q)) → ∀ r, Q (some (.int r)) (X, F, M', L)) → Wp d tJ6_getChars_ba4f3 22 [some (.int (-(nI m))), some (.int ix), some (.ref v), none, none, some (.int (nI p)), some (.int 0)] [] (X, F, M, L) Q
  | 0, m, p, M, hf, hm, hp, hpn, hQ => by
    have hd := dgn_len (m := m)
    refine r_iload_n (p := 23) rfl rfl rfl ?_
    refine r_bipush (v := (-100)) (p := 25) rfl rfl rfl ?_
    refine r_icmp_gt (p := 28) rfl rfl (fun c1 => ?_) (fun c1 => ?_)
    · have hlt : m < 100 := by have : 100 ^ (0 + 1) = 100 := rfl; omega
      exact getChars_fin0 hbv  kx hn hlt hp hpn hQ
    · exact absurd ((neg_le (a := m) (b := 100) (by omega) (by omega)).mp (Int32.not_lt.mp c1)) (by have : 100 ^ (0 + 1) = 100 := rfl; omega)
  | f + 1, m, p, M, hf, hm, hp, hpn, hQ => by
    have hd := dgn_len (m := m)
    refine r_iload_n (p := 23) rfl rfl rfl ?_
    refine r_bipush (v := (-100)) (p := 25) rfl rfl rfl ?_
    refine r_icmp_gt (p := 28) rfl rfl (fun c1 => ?_) (fun c1 => ?_)
    · have hlt : m < 100 := Nat.lt_of_not_le fun q => absurd c1 (Int32.not_lt.mpr ((neg_le (a := m) (b := 100) (by omega) (by omega)).mpr q))
      exact getChars_fin0 hbv  kx hn hlt hp hpn hQ
    · have hge : 100 ≤ m := (neg_le (a := m) (b := 100) (by omega) (by omega)).mp (Int32.not_lt.mp c1)
      have e100 := dgn_100 hge hm
      have elen : (dgn m).length = (dgn (m / 100)).length + 2 := by rw [e100]; simp
      refine r_iload_n (p := 29) rfl rfl rfl ?_
      refine r_bipush (v := 100) (p := 31) rfl rfl rfl ?_
      refine r_idiv (p := 32) rfl (by decide) rfl ?_
      rw [neg_div (by omega)]
      refine r_istore_n (p := 33) rfl rfl rfl ?_
      refine r_iload_n (p := 34) rfl rfl rfl ?_
      refine r_bipush (v := 100) (p := 36) rfl rfl rfl ?_
      refine r_imul (p := 37) rfl rfl ?_
      refine r_iload_n (p := 38) rfl rfl rfl ?_
      refine r_isub (p := 39) rfl rfl ?_
      rw [neg_mod]
      refine r_istore (p := 41) rfl rfl rfl ?_
      refine r_iload_n (p := 42) rfl rfl rfl ?_
      refine r_istore_n (p := 43) rfl rfl rfl ?_
      refine r_aload_n (p := 44) rfl rfl rfl ?_
      refine r_iinc (v := (nI (p - 1))) (p := 47) rfl rfl (p_1 (by omega)) rfl rfl ?_
      refine r_iload (p := 49) rfl rfl rfl ?_
      refine r_getsR (p := 52) rfl rfl rfl ?_
      refine r_iload (p := 54) rfl rfl rfl ?_
      refine r_bald_ro (p := 55) rfl rfl rfl (vp_in_nI (show m % 100 < 100 by omega) (by omega)) rfl ?_
      rw [mo1 (by omega)]
      refine r_bast (v := dd (m % 100) 1) (p := 56) rfl hbv kx (vp_in_nI (show p - 1 < n by omega) (by omega)) (by omega) dd_b.n rfl ?_
      refine r_aload_n (p := 57) rfl rfl rfl ?_
      refine r_iinc (v := (nI (p - 1 - 1))) (p := 60) rfl rfl (p_1 (by omega)) rfl rfl ?_
      refine r_iload (p := 62) rfl rfl rfl ?_
      refine r_getsR (p := 65) rfl rfl rfl ?_
      refine r_iload (p := 67) rfl rfl rfl ?_
      refine r_bald_ro (p := 68) rfl rfl rfl (vp_in_nI (show m % 100 < 100 by omega) (by omega)) rfl ?_
      rw [mo10 (by omega)]
      refine r_bast (v := dd (m % 100) 10) (p := 69) rfl hbv kx (vp_in_nI (show p - 1 - 1 < n by omega) (by omega)) (by omega) dd_b.n rfl ?_
      refine r_goto rfl ?_
      refine lp_getChars1 hbv kx hn f (m / 100) (p - 1 - 1) _ _ _ ?_ (by omega) (by omega) (by omega) (fun M9 w1 w2 w3 r => hQ M9 (fun j hj => ?_) (fun a i ha => ?_) (fun q hq hq2 => ?_) r)
      · rw [Nat.pow_succ] at hf
        exact Nat.div_lt_of_lt_mul (by rw [Nat.mul_comm]; exact hf)
      · rw [e100]
        by_cases h3 : j < (dgn (m / 100)).length
        · rw [show p - (dgn (m / 100) ++ [dd (m % 100) 10, dd (m % 100) 1]).length + j = p - 1 - 1 - (dgn (m / 100)).length + j by simp; omega, w1 j h3]
          simp [List.getD_eq_getElem?_getD, List.getElem?_append_left h3]
        · rw [show p - (dgn (m / 100) ++ [dd (m % 100) 10, dd (m % 100) 1]).length + j = p - 2 + (j - (dgn (m / 100)).length) by simp; omega]
          rw [w3 _ (by omega) (Or.inr (by omega))]
          rcases (show j = (dgn (m / 100)).length ∨ j = (dgn (m / 100)).length + 1 by omega) with q | q
          · rw [q, Nat.sub_self, Nat.add_zero, uM_at, if_pos (by congr 1)]
            simp [List.getD_eq_getElem?_getD]
          · rw [q, uM_at, if_neg (fun z => by have := nI_inj (by omega) (by omega) z; omega), uM_at, if_pos (by congr 1; omega)]
            simp [List.getD_eq_getElem?_getD, List.getElem?_append_right]
      · rw [w2 a i ha, uM_ne ha, uM_ne ha]
      · rw [w3 q hq (by omega), uM_at, if_neg (fun z => by have := nI_inj (by omega) (by omega) z; omega), uM_at, if_neg (fun z => by have := nI_inj (by omega) (by omega) z; omega)]
set_option maxRecDepth 100000 in
theorem s_J6_getChars {d : Nat} {X : mX} {F : mF} {L : mL} {v n : Nat} {Q : Option Value → mW → Prop} (hbv : Nat.blt v mB = true) (kx : X.2.2.1 v = (3, n)) (hn : n ≤ 190) {M : mM} {m p : Nat} (hm : m < 100000) (hp : (dgn m).length ≤ p) (hpn : p ≤ n) (hQ : (∀ M', (∀ j, j < (dgn m).length → M' v (nI (p - (dgn m).length + j)) = (dgn m).getD j 0) → (∀ a i, a ≠ v → M' a i = M a i) → (∀ q, q < 1000 → (q < p - (dgn m).length ∨ p ≤ q) → M' v (nI q) = M v (nI q)) → ∀ r, Q (some (.int r)) (X, F, M', L))) : Cw (d + 1) 233 [.int (nI m), .int (nI p), .ref v] (X, F, M, L) Q := by
  refine Cw_in rfl rfl ?_
  refine r_iload_n (p := 1) rfl rfl rfl ?_
  refine r_istore (p := 3) rfl rfl rfl ?_
  refine r_iload_n (p := 4) rfl rfl rfl ?_
  refine r_if_ge (p := 7) rfl rfl (fun c1 => ?_) (fun c1 => ?_)
  · refine r_iconst (v := 0) (p := 12) rfl rfl rfl ?_
    refine r_istore (p := 14) rfl rfl rfl ?_
    refine r_iload (p := 16) rfl rfl rfl ?_
    refine r_if_ne (p := 19) rfl rfl (fun c => absurd c (by decide)) (fun _ => ?_)
    refine r_iload_n (p := 20) rfl rfl rfl ?_
    refine r_ineg (p := 21) rfl rfl ?_
    refine r_istore_n (p := 22) rfl rfl rfl ?_
    exact lp_getChars0 hbv kx hn 2 m p M (by show m < 1000000; omega) hm hp hpn hQ
  · exact absurd (Int32.not_lt.mp (nI_pos (by omega))) c1
