set_option maxRecDepth 100000 in
theorem s_J5_isLatin1 {d : Nat} {X : mX} {F : mF} {M : mM} {L : mL} {h : Nat} {Q : Option Value → mW → Prop} (hb : Nat.blt h mB = true) (kh : X.2.2.1 h = (0, 1)) (c0 : F h 1 = 0) (hQ : Q (some (.int 1)) (X, F, M, L)) : Cw (d + 1) 236 [.ref h] (X, F, M, L) Q := by
  refine Cw_in rfl rfl ?_
  refine r_getsI (v := 1) (p := 3) rfl rfl rfl ?_
  refine r_if_eq (p := 6) rfl rfl (fun c => absurd c (by decide)) (fun _ => ?_)
  refine r_aload_n (p := 7) rfl rfl rfl ?_
  refine r_getI4 (p := 10) rfl hb kh rfl ?_
  rw [c0]
  refine r_if_ne (p := 13) rfl rfl (fun c => absurd c (by decide)) (fun _ => ?_)
  refine r_iconst (v := 1) (p := 14) rfl rfl rfl ?_
  refine r_goto rfl ?_
  exact r_ireturn rfl mok_1 hQ
set_option maxRecDepth 100000 in
theorem s_J1_canEncode {d : Nat} {w : mW} {c : Int32} {Q : Option Value → mW → Prop} (hc : byt c) (hQ : Q (some (.int 1)) w) : Cw (d + 1) 226 [.int c] w Q := by
  refine Cw_in rfl rfl ?_
  refine r_iload_n (p := 1) rfl rfl rfl ?_
  refine r_sipush (v := 255) (p := 4) rfl rfl rfl ?_
  refine r_icmp_gt (p := 7) rfl rfl (fun c1 => ?_) (fun c1 => ?_)
  · refine r_iconst (v := 0) (p := 12) rfl rfl rfl ?_
    exact absurd (Int32.lt_trans (by decide) c1) hc.2
  · refine r_iconst (v := 1) (p := 8) rfl rfl rfl ?_
    refine r_goto rfl ?_
    exact r_ireturn rfl mok_1 hQ
theorem SB.app {Y : mY} {F F' : mF} {M M' : mM} {h v n : Nat} {l t : List Int32} (h1 : 53 ≤ h ∧ h < Y.1 ∧ Y.1 ≤ 700000) (kh : Y.2.2.1 h = (0, 1)) (c0 : F' h 1 = 0) (rv : Y.2.2.2.2.1 h 0 = some v) (hv : 53 ≤ v ∧ v < Y.1 ∧ v ≠ h) (kv : Y.2.2.1 v = (3, n)) (hn : l.length + t.length ≤ n ∧ n ≤ 190) (hM : ∀ k, k < l.length → M v (nI k) = l.getD k 0) (hB : ∀ k, k < n → byt (M v (nI k))) (ht : ∀ x ∈ t, byt x)
    (cn : F' h 3 = nI (l.length + t.length)) (m1 : ∀ j, j < t.length → M' v (nI (l.length + j)) = t.getD j 0) (m2 : ∀ k, k < n → (k < l.length ∨ l.length + t.length ≤ k) → M' v (nI k) = M v (nI k)) : SB Y F' M' h (l ++ t) 0 := by
  refine ⟨h1, kh, c0, by rw [cn]; simp, v, n, rv, hv, kv, ⟨by simp; omega, by omega, hn.2⟩, fun k hk => ?_, fun k hk => ?_⟩
  · simp only [List.length_append] at hk
    by_cases h2 : k < l.length
    · rw [m2 k (by omega) (Or.inl h2), hM k h2]
      simp [List.getD_eq_getElem?_getD, List.getElem?_append_left h2]
    · have := m1 (k - l.length) (by omega)
      rw [show l.length + (k - l.length) = k by omega] at this
      rw [this]
      simp [List.getD_eq_getElem?_getD, List.getElem?_append_right (Nat.le_of_not_lt h2)]
  · by_cases h2 : k < l.length ∨ l.length + t.length ≤ k
    · rw [m2 k hk h2]; exact hB k hk
    · have h3 : k - l.length < t.length := by omega
      have := m1 (k - l.length) h3
      rw [show l.length + (k - l.length) = k by omega] at this
      rw [this]
      exact ht _ (getD_mem h3)
set_option maxRecDepth 100000 in
theorem s_J5_appendC {d : Nat} {Y : mY} {F : mF} {M : mM} {L : mL} {h : Nat} {c : Int32} {l : List Int32} {Q : Option Value → mW → Prop} (H : SB Y F M h l 0) (hc : byt c) (hl : l.length ≤ 80) (hY : Y.1 < 700000) (hQ : (∀ Y' F' M' L', SB Y' F' M' h (l ++ [c]) 0 → f53 F M F' M' → gq 1 Y Y' → Q (some (.ref h)) (mXY Y', F', M', L'))) : Cw (d + 4) 243 [.ref h, .int c] (mXY Y, F, M, L) Q := by
  have H0 := H
  obtain ⟨h1, kh, c0, cn, v, n, rv, hv, kv, hn, hM, hB⟩ := H
  have hb : Nat.blt h mB = true := blt_t (by unfold mB; omega)
  have hbv : Nat.blt v mB = true := blt_t (by unfold mB; omega)
  have kh0 := kh
  have rv0 := rv
  have kv0 := kv
  have kh : (mXY Y).2.2.1 h = (0, 1) := (Yk h1.1).trans kh
  have rv : (mXY Y).2.2.2.1 h 0 = some v := (Yr h1.1).trans rv
  have kx : (mXY Y).2.2.1 v = (3, n) := (Yk hv.1).trans kv
  have kv : mkd (mXY Y) v = (3, n) := mkd_o hbv kx
  refine Cw_in rfl rfl ?_
  refine r_aload_n (p := 1) rfl rfl rfl ?_
  refine r_aload_n (p := 2) rfl rfl rfl ?_
  refine r_getI (p := 5) rfl hb kh rfl ?_
  rw [cn]
  refine r_iconst (v := 1) (p := 6) rfl rfl rfl ?_
  refine r_iadd (p := 7) rfl rfl ?_
  rw [show nI l.length + 1 = nI (l.length + 1) from nI_1 _]
  refine r_cU (p := 10) rfl rfl (mkd_o hb kh) (Nat.le_of_ble_eq_true rfl) rfl (s_J5_ensure (c := l.length + 1) H0 (by omega) hY (fun Y1 F1 M1 L1 H1 f1 g1 => ?_))
  obtain ⟨h1, kh, c0, cn, v, n, rv, hv, kv, hn, hM, hB⟩ := H1
  have hb : Nat.blt h mB = true := blt_t (by unfold mB; omega)
  have hbv : Nat.blt v mB = true := blt_t (by unfold mB; omega)
  have kh0 := kh
  have rv0 := rv
  have kv0 := kv
  have kh : (mXY Y1).2.2.1 h = (0, 1) := (Yk h1.1).trans kh
  have rv : (mXY Y1).2.2.2.1 h 0 = some v := (Yr h1.1).trans rv
  have kx : (mXY Y1).2.2.1 v = (3, n) := (Yk hv.1).trans kv
  have kv : mkd (mXY Y1) v = (3, n) := mkd_o hbv kx
  refine r_aload_n (p := 11) rfl rfl rfl ?_
  refine r_cU (p := 14) rfl rfl (mkd_o hb kh) (Nat.le_of_ble_eq_true rfl) rfl (s_J5_isLatin1 hb kh c0 ?_)
  refine r_if_eq (p := 17) rfl rfl (fun c => absurd c (by decide)) (fun _ => ?_)
  refine r_iload_n (p := 18) rfl rfl rfl ?_
  refine r_cS1 (p := 21) rfl rfl (Nat.le_of_ble_eq_true rfl) rfl (s_J1_canEncode hc ?_)
  refine r_if_eq (p := 24) rfl rfl (fun c => absurd c (by decide)) (fun _ => ?_)
  refine r_aload_n (p := 25) rfl rfl rfl ?_
  refine r_getR (p := 28) rfl hb kh rv rfl ?_
  refine r_aload_n (p := 29) rfl rfl rfl ?_
  refine r_dup (p := 30) rfl rfl rfl ?_
  refine r_getI (p := 33) rfl hb kh rfl ?_
  rw [cn]
  refine r_dup_x1 (p := 34) rfl rfl rfl rfl ?_
  refine r_iconst (v := 1) (p := 35) rfl rfl rfl ?_
  refine r_iadd (p := 36) rfl rfl ?_
  refine r_putI (p := 39) rfl hb kh rfl ?_
  refine r_iload_n (p := 40) rfl rfl rfl ?_
  refine r_i2b (p := 41) rfl rfl ?_
  rw [(i8_ok (fun q => q.elim hc.1 hc.2)).1]
  refine r_bast (v := c) (p := 42) rfl hbv kx (vp_in_nI (show l.length < n by omega) (by omega)) (by omega) hc.n rfl ?_
  refine r_goto rfl ?_
  refine r_aload_n (p := 76) rfl rfl rfl ?_
  refine r_areturn rfl ?_
  refine hQ _ _ _ _ (SB.app (F := F1) (n := n) h1 kh0 ((uF_nk (by omega)).trans c0) rv0 hv kv0 (by simp only [List.length_singleton]; omega) hM hB (fun x hx => by rw [List.mem_singleton.mp hx]; exact hc) ?_ (fun j hj => ?_) (fun k hk hk2 => ?_)) (f1.tr ⟨fun a k ha => uF_ne (by omega), fun a i ha => uM_ne (by omega)⟩) g1
  · exact (uF_at).trans (nI_1 _)
  · simp only [List.length_singleton] at hj
    rw [show j = 0 by omega, Nat.add_zero, uM_at, if_pos rfl]
    rfl
  · simp only [List.length_singleton] at hk2
    rw [uM_at, if_neg (fun z => by have := nI_inj (by omega) (by omega) z; omega)]
set_option maxRecDepth 100000 in
theorem s_J4_appendC {d : Nat} {Y : mY} {F : mF} {M : mM} {L : mL} {h : Nat} {c : Int32} {l : List Int32} {Q : Option Value → mW → Prop} (H : SB Y F M h l 0) (hc : byt c) (hl : l.length ≤ 80) (hY : Y.1 < 700000) (hQ : (∀ Y' F' M' L', SB Y' F' M' h (l ++ [c]) 0 → f53 F M F' M' → gq 1 Y Y' → Q (some (.ref h)) (mXY Y', F', M', L'))) : Cw (d + 5) 249 [.ref h, .int c] (mXY Y, F, M, L) Q := by
  refine Cw_in rfl rfl ?_
  refine r_aload_n (p := 1) rfl rfl rfl ?_
  refine r_iload_n (p := 2) rfl rfl rfl ?_
  refine r_cSU (p := 5) rfl rfl (mkd_o (blt_t (by unfold mB; have := H.1; omega)) ((Yk H.1.1).trans H.2.1)) (Nat.le_of_ble_eq_true rfl) rfl (s_J5_appendC H hc hl hY (fun Y1 F1 M1 L1 H1 f1 g1 => ?_))
  refine r_pop (p := 6) rfl rfl rfl ?_
  refine r_aload_n (p := 7) rfl rfl rfl ?_
  exact r_areturn rfl (hQ _ _ _ _ H1 f1 g1)
theorem clamp0 : (0 : Int32).toNatClampNeg = 0 := rfl
set_option maxRecDepth 100000 in
theorem s_J0_getBytes {d : Nat} {X : mX} {F : mF} {M : mM} {L : mL} {h v : Nat} {t : List Int32} {Q : Option Value → mW → Prop} (H : tx X F M h v t) {y n p : Nat} (hb : Nat.blt y mB = true) (ky : mkd X y = (3, n)) (hn : n ≤ 190) (hp : p + t.length ≤ n) (hbt : ∀ x ∈ t, byt x) (hQ : Q none (X, F, mcpy X M v y 0 (nI p) (nI t.length), L)) : Cw (d + 2) 231 [.ref h, .ref y, .int (nI p), .int 0] (X, F, M, L) Q := by
  refine Cw_in rfl rfl ?_
  refine r_aload_n (p := 1) rfl rfl rfl ?_
  refine r_cV (p := 4) rfl rfl H.kd (Nat.le_of_ble_eq_true rfl) rfl (s_J0_coder H ?_)
  refine r_iload_n (p := 5) rfl rfl rfl ?_
  refine r_icmp_ne (p := 8) rfl rfl (fun c => absurd c (by decide)) (fun _ => ?_)
  refine r_aload_n (p := 9) rfl rfl rfl ?_
  refine r_tv H (p := 12) rfl rfl ?_
  refine r_iconst (v := 0) (p := 13) rfl rfl rfl ?_
  refine r_aload_n (p := 14) rfl rfl rfl ?_
  refine r_iload_n (p := 15) rfl rfl rfl ?_
  refine r_iload_n (p := 16) rfl rfl rfl ?_
  refine r_ishl (p := 17) rfl rfl ?_
  rw [shl0]
  refine r_aload_n (p := 18) rfl rfl rfl ?_
  refine r_tv H (p := 21) rfl rfl ?_
  refine r_alen_b (v := nI t.length) (p := 22) rfl H.2.1 rfl rfl ?_
  refine r_copy (p := 25) rfl (Nat.le_of_ble_eq_true rfl) hb (by rw [ky]; show n ≤ 65536; omega) (by rw [ky]) (by rw [H.2.1]) (by decide) (nI_pos (by omega)) (nI_pos (by omega)) (by rw [H.2.1, nI_clamp (by omega), clamp0]; exact Nat.le_of_eq (Nat.zero_add _)) (by rw [ky, nI_clamp (by omega), nI_clamp (by omega)]; exact hp) (fun i hi => ?_) rfl ?_
  · rw [nI_clamp (by omega)] at hi
    rw [clamp0, Nat.zero_add, H.2.2.1 i hi]
    exact (hbt _ (getD_mem hi)).f
  refine r_goto rfl ?_
  exact r_return rfl hQ
set_option maxRecDepth 100000 in
theorem s_J5_inflate {d : Nat} {X : mX} {F : mF} {M : mM} {L : mL} {h v : Nat} {t : List Int32} {Q : Option Value → mW → Prop} (H : tx X F M h v t) {y : Nat} (hb : Nat.blt y mB = true) (ky : X.2.2.1 y = (0, 1)) (c0 : F y 1 = 0) (hQ : Q none (X, F, M, L)) : Cw (d + 2) 240 [.ref y, .ref h] (X, F, M, L) Q := by
  refine Cw_in rfl rfl ?_
  refine r_getsI (v := 1) (p := 3) rfl rfl rfl ?_
  refine r_if_eq (p := 6) rfl rfl (fun c => absurd c (by decide)) (fun _ => ?_)
  refine r_aload_n (p := 7) rfl rfl rfl ?_
  refine r_getI4 (p := 10) rfl hb ky rfl ?_
  rw [c0]
  refine r_aload_n (p := 11) rfl rfl rfl ?_
  refine r_cV (p := 14) rfl rfl H.kd (Nat.le_of_ble_eq_true rfl) rfl (s_J0_coder H ?_)
  refine r_icmp_eq (p := 17) rfl rfl (fun _ => ?_) (fun c => absurd c (by decide))
  exact r_return rfl hQ
set_option maxRecDepth 100000 in
theorem s_J5_putStringAt {d : Nat} {X : mX} {F : mF} {M : mM} {L : mL} {h v : Nat} {t : List Int32} {Q : Option Value → mW → Prop} (H : tx X F M h v t) {y z n p : Nat} (hb : Nat.blt y mB = true) (hbz : Nat.blt z mB = true) (ky : X.2.2.1 y = (0, 1)) (c0 : F y 1 = 0) (ry : X.2.2.2.1 y 0 = some z) (kz : mkd X z = (3, n)) (hn : n ≤ 190) (hp : p + t.length ≤ n) (hbt : ∀ x ∈ t, byt x) (hQ : Q none (X, F, mcpy X M v z 0 (nI p) (nI t.length), L)) : Cw (d + 3) 241 [.ref y, .int (nI p), .ref h] (X, F, M, L) Q := by
  refine Cw_in rfl rfl ?_
  refine r_aload_n (p := 1) rfl rfl rfl ?_
  refine r_aload_n (p := 2) rfl rfl rfl ?_
  refine r_cU (p := 5) rfl rfl (mkd_o hb ky) (Nat.le_of_ble_eq_true rfl) rfl (s_J5_inflate H hb ky c0 ?_)
  refine r_aload_n (p := 6) rfl rfl rfl ?_
  refine r_aload_n (p := 7) rfl rfl rfl ?_
  refine r_getR (p := 10) rfl hb ky ry rfl ?_
  refine r_iload_n (p := 11) rfl rfl rfl ?_
  refine r_aload_n (p := 12) rfl rfl rfl ?_
  refine r_getI4 (p := 15) rfl hb ky rfl ?_
  rw [c0]
  refine r_cV (p := 18) rfl rfl H.kd (Nat.le_of_ble_eq_true rfl) rfl (s_J0_getBytes H hbz kz hn hp hbt ?_)
  exact r_return rfl hQ
set_option maxRecDepth 100000 in
theorem s_J5_appendS {d : Nat} {Y : mY} {F : mF} {M : mM} {L : mL} {h : Nat} {l : List Int32} {Q : Option Value → mW → Prop} {hs vs : Nat} {t : List Int32} (hT : ∀ X F M, tx X F M hs vs t) (hbt : ∀ x ∈ t, byt x) (hlt : l.length + t.length ≤ 80) (hvs : 1000000 ≤ vs) (H : SB Y F M h l 0) (hY : Y.1 < 700000) (hQ : (∀ Y' F' M' L', SB Y' F' M' h (l ++ t) 0 → f53 F M F' M' → gq 1 Y Y' → Q (some (.ref h)) (mXY Y', F', M', L'))) : Cw (d + 4) 242 [.ref h, .ref hs] (mXY Y, F, M, L) Q := by
  have H0 := H
  obtain ⟨h1, kh, c0, cn, v, n, rv, hv, kv, hn, hM, hB⟩ := H
  have hb : Nat.blt h mB = true := blt_t (by unfold mB; omega)
  have hbv : Nat.blt v mB = true := blt_t (by unfold mB; omega)
  have kh0 := kh
  have rv0 := rv
  have kv0 := kv
  have kh : (mXY Y).2.2.1 h = (0, 1) := (Yk h1.1).trans kh
  have rv : (mXY Y).2.2.2.1 h 0 = some v := (Yr h1.1).trans rv
  have kx : (mXY Y).2.2.1 v = (3, n) := (Yk hv.1).trans kv
  have kv : mkd (mXY Y) v = (3, n) := mkd_o hbv kx
  refine Cw_in rfl rfl ?_
  refine r_aload_n (p := 1) rfl rfl rfl ?_
  refine r_ifnonnull rfl ?_
  refine r_aload_n (p := 10) rfl rfl rfl ?_
  refine r_cV (p := 13) rfl rfl (hT (mXY Y) F M).kd (Nat.le_of_ble_eq_true rfl) rfl (s_J0_length (hT _ _ _) ?_)
  refine r_istore_n (p := 14) rfl rfl rfl ?_
  refine r_aload_n (p := 15) rfl rfl rfl ?_
  refine r_aload_n (p := 16) rfl rfl rfl ?_
  refine r_getI (p := 19) rfl hb kh rfl ?_
  rw [cn]
  refine r_iload_n (p := 20) rfl rfl rfl ?_
  refine r_iadd (p := 21) rfl rfl ?_
  rw [nI_add]
  refine r_cU (p := 24) rfl rfl (mkd_o hb kh) (Nat.le_of_ble_eq_true rfl) rfl (s_J5_ensure (c := l.length + t.length) H0 (by omega) hY (fun Y1 F1 M1 L1 H1 f1 g1 => ?_))
  obtain ⟨h1, kh, c0, cn, v, n, rv, hv, kv, hn, hM, hB⟩ := H1
  have hb : Nat.blt h mB = true := blt_t (by unfold mB; omega)
  have hbv : Nat.blt v mB = true := blt_t (by unfold mB; omega)
  have kh0 := kh
  have rv0 := rv
  have kv0 := kv
  have kh : (mXY Y1).2.2.1 h = (0, 1) := (Yk h1.1).trans kh
  have rv : (mXY Y1).2.2.2.1 h 0 = some v := (Yr h1.1).trans rv
  have kx : (mXY Y1).2.2.1 v = (3, n) := (Yk hv.1).trans kv
  have kv : mkd (mXY Y1) v = (3, n) := mkd_o hbv kx
  refine r_aload_n (p := 25) rfl rfl rfl ?_
  refine r_aload_n (p := 26) rfl rfl rfl ?_
  refine r_getI (p := 29) rfl hb kh rfl ?_
  rw [cn]
  refine r_aload_n (p := 30) rfl rfl rfl ?_
  refine r_cU (p := 33) rfl rfl (mkd_o hb kh) (Nat.le_of_ble_eq_true rfl) rfl (s_J5_putStringAt (hT _ _ _) hb hbv kh c0 rv kv hn.2.2 (by omega) hbt ?_)
  refine r_aload_n (p := 34) rfl rfl rfl ?_
  refine r_dup (p := 35) rfl rfl rfl ?_
  refine r_getI (p := 38) rfl hb kh rfl ?_
  rw [cn]
  refine r_iload_n (p := 39) rfl rfl rfl ?_
  refine r_iadd (p := 40) rfl rfl ?_
  rw [nI_add]
  refine r_putI (p := 43) rfl hb kh rfl ?_
  refine r_aload_n (p := 44) rfl rfl rfl ?_
  refine r_areturn rfl ?_
  refine hQ _ _ _ _ (SB.app (F := F1) (n := n) h1 kh0 ((uF_nk (by omega)).trans c0) rv0 hv kv0 ⟨by omega, hn.2.2⟩ hM hB hbt uF_at (fun j hj => ?_) (fun k hk hk2 => ?_)) (f1.tr ⟨fun a k ha => uF_ne (by omega), fun a i ha => cpy_ne (by omega)⟩) g1
  · have e := cpy_at (X := mXY Y1) (M := M1) (hs := vs) (hd := v) (sp := 0) (dp := l.length) (n := t.length) (k := l.length + j) (by omega) (by omega) (by omega) (by omega)
    refine e.trans ?_
    rw [if_pos ⟨by omega, by omega⟩, show 0 + (l.length + j - l.length) = j by omega]
    exact (hT (mXY Y1) F1 M1).2.2.1 j hj
  · have e := cpy_at (X := mXY Y1) (M := M1) (hs := vs) (hd := v) (sp := 0) (dp := l.length) (n := t.length) (k := k) (by omega) (by omega) (by omega) (by omega)
    refine e.trans ?_
    rw [if_neg (fun q => by omega)]
set_option maxRecDepth 100000 in
theorem s_J4_appendS {d : Nat} {Y : mY} {F : mF} {M : mM} {L : mL} {h : Nat} {l : List Int32} {Q : Option Value → mW → Prop} {hs vs : Nat} {t : List Int32} (hT : ∀ X F M, tx X F M hs vs t) (hbt : ∀ x ∈ t, byt x) (hlt : l.length + t.length ≤ 80) (hvs : 1000000 ≤ vs) (H : SB Y F M h l 0) (hY : Y.1 < 700000) (hQ : (∀ Y' F' M' L', SB Y' F' M' h (l ++ t) 0 → f53 F M F' M' → gq 1 Y Y' → Q (some (.ref h)) (mXY Y', F', M', L'))) : Cw (d + 5) 248 [.ref h, .ref hs] (mXY Y, F, M, L) Q := by
  refine Cw_in rfl rfl ?_
  refine r_aload_n (p := 1) rfl rfl rfl ?_
  refine r_aload_n (p := 2) rfl rfl rfl ?_
  refine r_cSU (p := 5) rfl rfl (mkd_o (blt_t (by unfold mB; have := H.1; omega)) ((Yk H.1.1).trans H.2.1)) (Nat.le_of_ble_eq_true rfl) rfl (s_J5_appendS hT hbt hlt hvs H hY (fun Y1 F1 M1 L1 H1 f1 g1 => ?_))
  refine r_pop (p := 6) rfl rfl rfl ?_
  refine r_aload_n (p := 7) rfl rfl rfl ?_
  exact r_areturn rfl (hQ _ _ _ _ H1 f1 g1)
