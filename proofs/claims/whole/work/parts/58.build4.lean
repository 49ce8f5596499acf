set_option maxRecDepth 100000 in
theorem s_J5_appendI {d : Nat} {Y : mY} {F : mF} {M : mM} {L : mL} {h m : Nat} {l : List Int32} {Q : Option Value → mW → Prop} (H : SB Y F M h l 0) (hm : m < 100000) (hl : l.length ≤ 80) (hY : Y.1 < 700000) (hQ : (∀ Y' F' M' L', SB Y' F' M' h (l ++ dgn m) 0 → f53 F M F' M' → gq 1 Y Y' → Q (some (.ref h)) (mXY Y', F', M', L'))) : Cw (d + 4) 244 [.ref h, .int (nI m)] (mXY Y, F, M, L) Q := by
  have H0 := H
  have hd := dgn_len (m := m)
  obtain ⟨h1, kh, c0, cn, v, n, rv, hv, kv, hn, hM, hB⟩ := H
  have hb : Nat.blt h mB = true := blt_t (by unfold mB; omega)
  have hbv : Nat.blt v mB = true := blt_t (by unfold mB; omega)
  have kh0 := kh
  have rv0 := rv
  have kv0 := kv
  have kh : (mXY Y).2.2.1 h = (0, 1) := (Yk h1.1).trans kh
  have rv : (mXY Y).2.2.2.1 h 0 = some v := (Yr h1.1).trans rv
  have kx : (mXY Y).2.2.1 v = (3, n) := (Yk hv.1).trans kv
  have kv : mkd (mXY Y) v = (3, n) := mkd_o hbv kx
  refine Cw_in rfl rfl ?_
  refine r_aload_n (p := 1) rfl rfl rfl ?_
  refine r_getI (p := 4) rfl hb kh rfl ?_
  rw [cn]
  refine r_istore_n (p := 5) rfl rfl rfl ?_
  refine r_iload_n (p := 6) rfl rfl rfl ?_
  refine r_iload_n (p := 7) rfl rfl rfl ?_
  refine r_cS1 (p := 10) rfl rfl (Nat.le_of_ble_eq_true rfl) rfl (s_J6_stringSize hm ?_)
  refine r_iadd (p := 11) rfl rfl ?_
  rw [nI_add]
  refine r_istore_n (p := 12) rfl rfl rfl ?_
  refine r_aload_n (p := 13) rfl rfl rfl ?_
  refine r_iload_n (p := 14) rfl rfl rfl ?_
  refine r_cU (p := 17) rfl rfl (mkd_o hb kh) (Nat.le_of_ble_eq_true rfl) rfl (s_J5_ensure (c := l.length + (dgn m).length) H0 (by omega) hY (fun Y1 F1 M1 L1 H1 f1 g1 => ?_))
  obtain ⟨h1, kh, c0, cn, v, n, rv, hv, kv, hn, hM, hB⟩ := H1
  have hb : Nat.blt h mB = true := blt_t (by unfold mB; omega)
  have hbv : Nat.blt v mB = true := blt_t (by unfold mB; omega)
  have kh0 := kh
  have rv0 := rv
  have kv0 := kv
  have kh : (mXY Y1).2.2.1 h = (0, 1) := (Yk h1.1).trans kh
  have rv : (mXY Y1).2.2.2.1 h 0 = some v := (Yr h1.1).trans rv
  have kx : (mXY Y1).2.2.1 v = (3, n) := (Yk hv.1).trans kv
  have kv : mkd (mXY Y1) v = (3, n) := mkd_o hbv kx
  refine r_aload_n (p := 18) rfl rfl rfl ?_
  refine r_cU (p := 21) rfl rfl (mkd_o hb kh) (Nat.le_of_ble_eq_true rfl) rfl (s_J5_isLatin1 hb kh c0 ?_)
  refine r_if_eq (p := 24) rfl rfl (fun c => absurd c (by decide)) (fun _ => ?_)
  refine r_iload_n (p := 25) rfl rfl rfl ?_
  refine r_iload_n (p := 26) rfl rfl rfl ?_
  refine r_aload_n (p := 27) rfl rfl rfl ?_
  refine r_getR (p := 30) rfl hb kh rv rfl ?_
  refine r_cS1 (p := 33) rfl rfl (Nat.le_of_ble_eq_true rfl) rfl (s_J6_getChars hbv kx hn.2.2 hm (by omega) hn.2.1 (fun M2 w1 w2 w3 r => ?_))
  rw [Nat.add_sub_cancel] at w3
  have w1 : ∀ j, j < (dgn m).length → M2 v (nI (l.length + j)) = (dgn m).getD j 0 := fun j hj => by have z := w1 j hj; rw [Nat.add_sub_cancel] at z; exact z
  refine r_pop (p := 34) rfl rfl rfl ?_
  refine r_goto rfl ?_
  refine r_aload_n (p := 49) rfl rfl rfl ?_
  refine r_iload_n (p := 50) rfl rfl rfl ?_
  refine r_putI (p := 53) rfl hb kh rfl ?_
  refine r_aload_n (p := 54) rfl rfl rfl ?_
  refine r_areturn rfl ?_
  exact hQ _ _ _ _ (SB.app (F := F1) (n := n) h1 kh0 ((uF_nk (by omega)).trans c0) rv0 hv kv0 ⟨by omega, hn.2.2⟩ hM hB dgn_b uF_at w1 (fun k hk hk2 => w3 k (by omega) hk2)) (f1.tr ⟨fun a k ha => uF_ne (by omega), fun a i ha => w2 a i (by omega)⟩) g1
set_option maxRecDepth 100000 in
theorem s_J4_appendI {d : Nat} {Y : mY} {F : mF} {M : mM} {L : mL} {h m : Nat} {l : List Int32} {Q : Option Value → mW → Prop} (H : SB Y F M h l 0) (hm : m < 100000) (hl : l.length ≤ 80) (hY : Y.1 < 700000) (hQ : (∀ Y' F' M' L', SB Y' F' M' h (l ++ dgn m) 0 → f53 F M F' M' → gq 1 Y Y' → Q (some (.ref h)) (mXY Y', F', M', L'))) : Cw (d + 5) 250 [.ref h, .int (nI m)] (mXY Y, F, M, L) Q := by
  refine Cw_in rfl rfl ?_
  refine r_aload_n (p := 1) rfl rfl rfl ?_
  refine r_iload_n (p := 2) rfl rfl rfl ?_
  refine r_cSU (p := 5) rfl rfl (mkd_o (blt_t (by unfold mB; have := H.1; omega)) ((Yk H.1.1).trans H.2.1)) (Nat.le_of_ble_eq_true rfl) rfl (s_J5_appendI H hm hl hY (fun Y1 F1 M1 L1 H1 f1 g1 => ?_))
  refine r_pop (p := 6) rfl rfl rfl ?_
  refine r_aload_n (p := 7) rfl rfl rfl ?_
  exact r_areturn rfl (hQ _ _ _ _ H1 f1 g1)
set_option maxRecDepth 100000 in
theorem s_J5_init {d : Nat} {Y : mY} {F : mF} {M : mM} {L : mL} {h : Nat} {Q : Option Value → mW → Prop} (h1 : 53 ≤ h ∧ h < Y.1 ∧ Y.1 < 700000) (kh0 : Y.2.2.1 h = (0, 1)) (c3 : F h 3 = 0) (hQ : ∀ Y' F' M' L', SB Y' F' M' h [] 0 → f53 F M F' M' → gq 1 Y Y' → Q none (mXY Y', F', M', L')) : Cw (d + 1) 234 [.ref h, .int 16] (mXY Y, F, M, L) Q := by
  have hb : Nat.blt h mB = true := blt_t (by unfold mB; omega)
  refine Cw_in rfl rfl ?_
  refine r_aload_n (p := 1) rfl rfl rfl ?_
  refine r_obj (p := 4) rfl (Nat.le_of_ble_eq_true rfl) rfl ?_
  refine r_getsI (v := 1) (p := 7) rfl rfl rfl ?_
  refine r_if_eq (p := 10) rfl rfl (fun c => absurd c (by decide)) (fun _ => ?_)
  refine r_aload_n (p := 11) rfl rfl rfl ?_
  refine r_iload_n (p := 12) rfl rfl rfl ?_
  refine r_newa (N := 16) (p := 14) rfl (Or.inr (Or.inr rfl)) (by decide) rfl (by omega) rfl ?_
  rw [pX_Y (by omega)]
  show Wp _ _ _ _ (.ref Y.1 :: _) (mXY (pY Y (3, 16) 16), zF F Y.1, sM M Y.1 (fun _ => 0), zL L Y.1) _
  have kh : (mXY (pY Y (3, 16) 16)).2.2.1 h = (0, 1) := (Yk h1.1).trans ((pY_k (by omega)).trans kh0)
  refine r_putR (p := 17) rfl hb kh rfl ?_
  rw [rX_Y h1.1]
  have kh2 : (mXY (rY (pY Y (3, 16) 16) h 0 (some Y.1))).2.2.1 h = (0, 1) := kh
  refine r_aload_n (p := 18) rfl rfl rfl ?_
  refine r_iconst (v := 0) (p := 19) rfl rfl rfl ?_
  refine r_putI4 (p := 22) rfl hb kh2 (show mfit 4 0 from rfl) rfl ?_
  refine r_goto rfl ?_
  refine r_return rfl ?_
  refine hQ (rY (pY Y (3, 16) 16) h 0 (some Y.1)) _ _ _ ⟨⟨h1.1, by show h < Y.1 + 1; omega, by show Y.1 + 1 ≤ _; omega⟩, (pY_k (sl := 16) (by omega)).trans kh0, uF_at, (uF_nk (by omega)).trans ((zF_ne (by omega)).trans c3), Y.1, 16, ?_, ⟨by omega, by show Y.1 < Y.1 + 1; omega, by omega⟩, pY_n (sl := 16), ⟨by show 0 ≤ 16; omega, by omega, by omega⟩, fun k hk => absurd hk (Nat.not_lt_zero _), fun k hk => by rw [sM_at]; exact byt_0⟩ ⟨fun a k ha => (uF_ne (by omega)).trans (zF_ne (by omega)), fun a i ha => sM_ne (by omega)⟩ ⟨by show Y.1 ≤ Y.1 + 1; omega, Nat.le_refl _, by show Y.2.1 + 16 ≤ _; omega, rfl, rfl⟩
  show uR _ h 0 (some Y.1) h 0 = _
  unfold uR
  rw [beq_rf]
  rfl
set_option maxRecDepth 100000 in
theorem s_J4_init {d : Nat} {Y : mY} {F : mF} {M : mM} {L : mL} {h : Nat} {Q : Option Value → mW → Prop} (h1 : 53 ≤ h ∧ h < Y.1 ∧ Y.1 < 700000) (kh0 : Y.2.2.1 h = (0, 1)) (c3 : F h 3 = 0) (hQ : ∀ Y' F' M' L', SB Y' F' M' h [] 0 → f53 F M F' M' → gq 1 Y Y' → Q none (mXY Y', F', M', L')) : Cw (d + 2) 247 [.ref h] (mXY Y, F, M, L) Q := by
  refine Cw_in rfl rfl ?_
  refine r_aload_n (p := 1) rfl rfl rfl ?_
  refine r_bipush (v := 16) (p := 3) rfl rfl rfl ?_
  refine r_cI (p := 6) rfl rfl (Nat.le_of_ble_eq_true rfl) rfl (s_J5_init h1 kh0 c3 (fun Y1 F1 M1 L1 H1 f1 g1 => ?_))
  exact r_return rfl (hQ _ _ _ _ H1 f1 g1)
set_option maxRecDepth 100000 in
theorem s_J7_checkLength {d : Nat} {w : mW} {q : Nat} {Q : Option Value → mW → Prop} (h : q < 1000) (hQ : Q none w) : Cw (d + 1) 219 [.int 0, .int (nI q)] w Q := by
  refine Cw_in rfl rfl ?_
  refine r_iload_n (p := 1) rfl rfl rfl ?_
  refine r_iload_n (p := 2) rfl rfl rfl ?_
  refine r_icmp_ge (p := 5) rfl rfl (fun c1 => ?_) (fun c1 => ?_)
  · exact r_return rfl hQ
  · exact absurd (nI_pos' (by omega)) c1
theorem mn_q {q n : Nat} (h1 : q ≤ n) (h2 : n ≤ 190) : (if nI q < nI n then nI q else nI n) = nI q := by
  by_cases h : q < n
  · rw [if_pos ((nI_ltI (by omega) (by omega)).mpr h)]
  · rw [if_neg (fun z => h ((nI_ltI (by omega) (by omega)).mp z))]
    congr 1
    omega
set_option maxRecDepth 100000 in
theorem s_J7_copyRB {d : Nat} {Y : mY} {F : mF} {M : mM} {L : mL} {v n q : Nat} {Q : Option Value → mW → Prop} (hY : 53 ≤ Y.1 ∧ Y.1 ≤ 700000) (hv : 53 ≤ v ∧ v < Y.1) (kv : Y.2.2.1 v = (3, n)) (h1 : q ≤ n) (h2 : n ≤ 190) (hf : ∀ k, k < n → byt (M v (nI k))) (hQ : ∀ M' L', (∀ k, k < q → M' Y.1 (nI k) = M v (nI k)) → (∀ a i, a ≠ Y.1 → M' a i = M a i) → Q (some (.ref Y.1)) (mXY (pY Y (3, q) q), zF F Y.1, M', L')) : Cw (d + 2) 221 [.ref v, .int 0, .int (nI q)] (mXY Y, F, M, L) Q := by
  have hbv : Nat.blt v mB = true := blt_t (by unfold mB; omega)
  have kx : mkd (mXY Y) v = (3, n) := mkd_o hbv ((Yk hv.1).trans kv)
  have kx2 : mkd (mXY (pY Y (3, q) q)) v = (3, n) := mkd_o hbv ((Yk hv.1).trans ((pY_k (by omega)).trans kv))
  have ky2 : mkd (mXY (pY Y (3, q) q)) Y.1 = (3, q) := mkd_o (blt_t (by unfold mB; omega)) ((Yk hY.1).trans pY_n)
  refine Cw_in rfl rfl ?_
  refine r_iload_n (p := 1) rfl rfl rfl ?_
  refine r_iload_n (p := 2) rfl rfl rfl ?_
  refine r_cS1 (p := 5) rfl rfl (Nat.le_of_ble_eq_true rfl) rfl (s_J7_checkLength (by omega) ?_)
  refine r_iload_n (p := 6) rfl rfl rfl ?_
  refine r_iload_n (p := 7) rfl rfl rfl ?_
  refine r_isub (p := 8) rfl rfl ?_
  refine r_istore_n (p := 9) rfl rfl rfl ?_
  refine r_iload_n (p := 10) rfl rfl rfl ?_
  rw [Int32.sub_zero]
  refine r_newa (N := q) (p := 12) rfl (Or.inr (Or.inr rfl)) (nI_pos (by omega)) (nI_clamp (by omega)) (by omega) rfl ?_
  rw [pX_Y hY.1]
  show Wp _ _ _ _ (.ref Y.1 :: _) (mXY (pY Y (3, q) q), zF F Y.1, sM M Y.1 (fun _ => 0), zL L Y.1) _
  refine r_astore (p := 14) rfl rfl rfl ?_
  refine r_aload_n (p := 15) rfl rfl rfl ?_
  refine r_iload_n (p := 16) rfl rfl rfl ?_
  refine r_aload (p := 18) rfl rfl rfl ?_
  refine r_iconst (v := 0) (p := 19) rfl rfl rfl ?_
  refine r_aload_n (p := 20) rfl rfl rfl ?_
  refine r_alen_b (v := nI n) (p := 21) rfl kx2 rfl rfl ?_
  refine r_iload_n (p := 22) rfl rfl rfl ?_
  refine r_isub (p := 23) rfl rfl ?_
  rw [Int32.sub_zero]
  refine r_iload_n (p := 24) rfl rfl rfl ?_
  refine r_min (p := 27) rfl (Nat.le_of_ble_eq_true rfl) rfl ?_
  rw [mn_q h1 h2]
  refine r_copy (p := 30) rfl (Nat.le_of_ble_eq_true rfl) (blt_t (show Y.1 < mB by unfold mB; omega)) (by rw [ky2]; show q ≤ 65536; omega) (by rw [ky2]) (by rw [kx2]) (by decide) (by decide) (nI_pos (by omega)) (by rw [kx2, nI_clamp (by omega), clamp0]; show 0 + q ≤ n; omega) (by rw [ky2, nI_clamp (by omega), clamp0]; show 0 + q ≤ q; omega) (fun i hi => ?_) rfl ?_
  · rw [nI_clamp (by omega)] at hi
    have e : mgM (mXY (pY Y (3, q) q)) (sM M Y.1 (fun _ => 0)) v (nI ((0 : Int32).toNatClampNeg + i)) = M v (nI i) := by
      rw [show (0 : Int32).toNatClampNeg + i = i from Nat.zero_add i]
      exact (m_ror hbv).trans (sM_ne (show v ≠ Y.1 by omega))
    rw [e]
    exact (hf i (by omega)).f
  refine r_aload (p := 32) rfl rfl rfl ?_
  refine r_areturn rfl ?_
  refine hQ _ _ (fun k hk => ?_) (fun a i ha => ?_)
  · have e := cpy_at (X := mXY (pY Y (3, q) q)) (M := sM M Y.1 (fun _ => 0)) (hs := v) (hd := Y.1) (sp := 0) (dp := 0) (n := q) (k := k) (by omega) (by omega) (by omega) (by omega)
    refine e.trans ?_
    rw [if_pos ⟨Nat.zero_le _, by omega⟩, Nat.zero_add, Nat.sub_zero]
    exact (m_ror hbv).trans (sM_ne (show v ≠ Y.1 by omega))
  · exact (cpy_ne ha).trans (sM_ne ha)
set_option maxRecDepth 100000 in
theorem s_J7_copyR {d : Nat} {Y : mY} {F : mF} {M : mM} {L : mL} {v n q : Nat} {Q : Option Value → mW → Prop} (hY : 53 ≤ Y.1 ∧ Y.1 ≤ 700000) (hv : 53 ≤ v ∧ v < Y.1) (kv : Y.2.2.1 v = (3, n)) (h1 : q ≤ n) (h2 : n ≤ 190) (hf : ∀ k, k < n → byt (M v (nI k))) (hQ : ∀ M' L', (∀ k, k < q → M' Y.1 (nI k) = M v (nI k)) → (∀ a i, a ≠ Y.1 → M' a i = M a i) → Q (some (.ref Y.1)) (mXY (pY Y (3, q) q), zF F Y.1, M', L')) : Cw (d + 3) 220 [.ref v, .int 0, .int (nI q)] (mXY Y, F, M, L) Q := by
  have hbv : Nat.blt v mB = true := blt_t (by unfold mB; omega)
  have kx : mkd (mXY Y) v = (3, n) := mkd_o hbv ((Yk hv.1).trans kv)
  have kx2 : mkd (mXY (pY Y (3, q) q)) v = (3, n) := mkd_o hbv ((Yk hv.1).trans ((pY_k (by omega)).trans kv))
  have ky2 : mkd (mXY (pY Y (3, q) q)) Y.1 = (3, q) := mkd_o (blt_t (by unfold mB; omega)) ((Yk hY.1).trans pY_n)
  refine Cw_in rfl rfl ?_
  refine r_iload_n (p := 1) rfl rfl rfl ?_
  refine r_if_ne (p := 4) rfl rfl (fun c => absurd c (by decide)) (fun _ => ?_)
  refine r_iload_n (p := 5) rfl rfl rfl ?_
  refine r_aload_n (p := 6) rfl rfl rfl ?_
  refine r_alen_b (v := nI n) (p := 7) rfl kx rfl rfl ?_
  refine r_icmp_eq (p := 10) rfl rfl (fun c1 => ?_) (fun c1 => ?_)
  · refine r_aload_n (p := 18) rfl rfl rfl ?_
    have eq : q = n := nI_inj (by omega) (by omega) c1
    refine r_clone (n := n) (p := 21) rfl (Nat.le_of_ble_eq_true rfl) hbv ((Yk hv.1).trans kv) (fun i hi => (hf i hi).f) rfl ?_
    rw [pX_Y hY.1]
    show Wp _ _ _ _ [.ref Y.1] (mXY (pY Y (3, n) n), zF F Y.1, sM M Y.1 (M v), zL L Y.1) _
    refine r_cast (n := n) (p := 24) rfl (blt_t (show Y.1 < mB by unfold mB; omega)) ((Yk hY.1).trans pY_n) rfl ?_
    subst eq
    refine r_areturn rfl ?_
    exact hQ _ _ (fun k hk => sM_at) (fun a i ha => sM_ne ha)
  · refine r_aload_n (p := 11) rfl rfl rfl ?_
    refine r_iload_n (p := 12) rfl rfl rfl ?_
    refine r_iload_n (p := 13) rfl rfl rfl ?_
    refine r_cS1 (p := 16) rfl rfl (Nat.le_of_ble_eq_true rfl) rfl (s_J7_copyRB hY hv kv h1 h2 hf (fun M1 L1 m1 m2 => ?_))
    exact r_areturn rfl (hQ _ _ m1 m2)
set_option maxRecDepth 100000 in
theorem s_J5_getValue {d : Nat} {X : mX} {F : mF} {M : mM} {L : mL} {h v : Nat} {Q : Option Value → mW → Prop} (hb : Nat.blt h mB = true) (kh : X.2.2.1 h = (0, 1)) (rv : X.2.2.2.1 h 0 = some v) (hQ : Q (some (.ref v)) (X, F, M, L)) : Cw (d + 1) 237 [.ref h] (X, F, M, L) Q := by
  refine Cw_in rfl rfl ?_
  refine r_aload_n (p := 1) rfl rfl rfl ?_
  refine r_getR (p := 4) rfl hb kh rv rfl ?_
  exact r_areturn rfl hQ
set_option maxRecDepth 100000 in
theorem s_J5_length {d : Nat} {X : mX} {F : mF} {M : mM} {L : mL} {h : Nat} {l : List Int32} {Q : Option Value → mW → Prop} (hb : Nat.blt h mB = true) (kh : X.2.2.1 h = (0, 1)) (cn : F h 3 = nI l.length) (hQ : Q (some (.int (nI l.length))) (X, F, M, L)) : Cw (d + 1) 235 [.ref h] (X, F, M, L) Q := by
  refine Cw_in rfl rfl ?_
  refine r_aload_n (p := 1) rfl rfl rfl ?_
  refine r_getI (p := 4) rfl hb kh rfl ?_
  rw [cn]
  exact r_ireturn rfl trivial hQ
set_option maxRecDepth 100000 in
theorem s_J4_length {d : Nat} {X : mX} {F : mF} {M : mM} {L : mL} {h : Nat} {l : List Int32} {Q : Option Value → mW → Prop} (hb : Nat.blt h mB = true) (kh : X.2.2.1 h = (0, 1)) (cn : F h 3 = nI l.length) (hQ : Q (some (.int (nI l.length))) (X, F, M, L)) : Cw (d + 2) 251 [.ref h] (X, F, M, L) Q := by
  refine Cw_in rfl rfl ?_
  refine r_aload_n (p := 1) rfl rfl rfl ?_
  refine r_cSU (p := 4) rfl rfl (mkd_o hb kh) (Nat.le_of_ble_eq_true rfl) rfl (s_J5_length hb kh cn ?_)
  exact r_ireturn rfl trivial hQ
set_option maxRecDepth 100000 in
theorem s_J0_initA {d : Nat} {Y : mY} {F : mF} {M : mM} {L : mL} {h y : Nat} {l : List Int32} {Q : Option Value → mW → Prop} (H : SB Y F M h l 0) (hy : 53 ≤ y ∧ y < Y.1 ∧ y ≠ h) (ky : Y.2.2.1 y = (0, 0)) (hY : Y.1 < 700000) (hQ : ∀ Y' F' M' L', STR (mXY Y') F' M' y l → f53 F M F' M' → gq 1 Y Y' → Q none (mXY Y', F', M', L')) : Cw (d + 4) 245 [.ref y, .ref h, .null] (mXY Y, F, M, L) Q := by
  obtain ⟨h1, kh, c0, cn, v, n, rv, hv, kv, hn, hM, hB⟩ := H
  have hb : Nat.blt h mB = true := blt_t (by unfold mB; omega)
  have hbv : Nat.blt v mB = true := blt_t (by unfold mB; omega)
  have kh0 := kh
  have rv0 := rv
  have kv0 := kv
  have kh : (mXY Y).2.2.1 h = (0, 1) := (Yk h1.1).trans kh
  have rv : (mXY Y).2.2.2.1 h 0 = some v := (Yr h1.1).trans rv
  have kx : (mXY Y).2.2.1 v = (3, n) := (Yk hv.1).trans kv
  have kv : mkd (mXY Y) v = (3, n) := mkd_o hbv kx
  have hby : Nat.blt y mB = true := blt_t (by unfold mB; omega)
  have ky1 : (mXY Y).2.2.1 y = (0, 0) := (Yk hy.1).trans ky
  refine Cw_in rfl rfl ?_
  refine r_aload_n (p := 1) rfl rfl rfl ?_
  refine r_obj (p := 4) rfl (Nat.le_of_ble_eq_true rfl) rfl ?_
  refine r_aload_n (p := 5) rfl rfl rfl ?_
  refine r_cU (p := 8) rfl rfl (mkd_o hb kh) (Nat.le_of_ble_eq_true rfl) rfl (s_J5_getValue hb kh rv ?_)
  refine r_astore_n (p := 9) rfl rfl rfl ?_
  refine r_aload_n (p := 10) rfl rfl rfl ?_
  refine r_cO (p := 13) rfl rfl (mkd_o hb kh) (Nat.le_of_ble_eq_true rfl) rfl (s_J4_length hb kh cn ?_)
  refine r_istore (p := 15) rfl rfl rfl ?_
  refine r_aload_n (p := 16) rfl rfl rfl ?_
  refine r_cU (p := 19) rfl rfl (mkd_o hb kh) (Nat.le_of_ble_eq_true rfl) rfl (s_J5_isLatin1 hb kh c0 ?_)
  refine r_if_eq (p := 22) rfl rfl (fun c => absurd c (by decide)) (fun _ => ?_)
  refine r_aload_n (p := 23) rfl rfl rfl ?_
  refine r_iconst (v := 0) (p := 24) rfl rfl rfl ?_
  refine r_putI4 (p := 27) rfl hby ky1 (show mfit 4 0 from rfl) rfl ?_
  refine r_aload_n (p := 28) rfl rfl rfl ?_
  refine r_aload_n (p := 29) rfl rfl rfl ?_
  refine r_iconst (v := 0) (p := 30) rfl rfl rfl ?_
  refine r_iload (p := 32) rfl rfl rfl ?_
  refine r_cS1 (p := 35) rfl rfl (Nat.le_of_ble_eq_true rfl) rfl (s_J7_copyR ⟨by omega, by omega⟩ ⟨hv.1, hv.2.1⟩ kv0 hn.1 hn.2.2 hB (fun M1 L1 m1 m2 => ?_))
  have ky2 : (mXY (pY Y (3, l.length) l.length)).2.2.1 y = (0, 0) := (Yk hy.1).trans ((pY_k (by omega)).trans ky)
  refine r_putR (p := 38) rfl hby ky2 rfl ?_
  rw [rX_Y hy.1]
  refine r_goto rfl ?_
  refine r_return rfl ?_
  refine hQ (rY (pY Y (3, l.length) l.length) y 0 (some Y.1)) _ _ _ (Or.inr ⟨Y.1, hy.1, hby, ky2, ?_, by omega, blt_t (by unfold mB; omega), ?_, ?_, fun k hk => ?_⟩) ⟨fun a k ha => (zF_ne (by omega)).trans (uF_ne (by omega)), fun a i ha => m2 a i (by omega)⟩ ⟨by show Y.1 ≤ Y.1 + 1; omega, Nat.le_refl _, by show Y.2.1 + l.length ≤ _; omega, rfl, rfl⟩
  · refine (Yr hy.1).trans ?_
    show uR _ y 0 (some Y.1) y 0 = _
    unfold uR
    rw [beq_rf]
    rfl
  · exact (Yk (by omega)).trans (pY_n (sl := l.length))
  · exact (zF_ne (by omega)).trans uF_at
  · rw [m1 k hk]; exact hM k hk
set_option maxRecDepth 100000 in
theorem s_J0_initB {d : Nat} {Y : mY} {F : mF} {M : mM} {L : mL} {h y : Nat} {l : List Int32} {Q : Option Value → mW → Prop} (H : SB Y F M h l 0) (hy : 53 ≤ y ∧ y < Y.1 ∧ y ≠ h) (ky : Y.2.2.1 y = (0, 0)) (hY : Y.1 < 700000) (hQ : ∀ Y' F' M' L', STR (mXY Y') F' M' y l → f53 F M F' M' → gq 1 Y Y' → Q none (mXY Y', F', M', L')) : Cw (d + 5) 246 [.ref y, .ref h] (mXY Y, F, M, L) Q := by
  refine Cw_in rfl rfl ?_
  refine r_aload_n (p := 1) rfl rfl rfl ?_
  refine r_aload_n (p := 2) rfl rfl rfl ?_
  refine r_null (p := 3) rfl rfl ?_
  refine r_cI (p := 6) rfl rfl (Nat.le_of_ble_eq_true rfl) rfl (s_J0_initA H hy ky hY (fun Y1 F1 M1 L1 H1 f1 g1 => ?_))
  exact r_return rfl (hQ _ _ _ _ H1 f1 g1)
theorem SB.nw {Y : mY} {F : mF} {M : mM} {h c : Nat} {l : List Int32} (H : SB Y F M h l c) {kd : Nat × Nat} {sl : Nat} (hY : Y.1 < 700000) : SB (pY Y kd sl) (zF F Y.1) M h l c := by
  obtain ⟨h1, kh, c0, cn, v, n, rv, hv, kv, hn, hM, hB⟩ := H
  exact ⟨⟨h1.1, by show h < Y.1 + 1; omega, by show Y.1 + 1 ≤ _; omega⟩, (pY_k (by omega)).trans kh, (zF_ne (by omega)).trans c0, (zF_ne (by omega)).trans cn, v, n, (pY_r (by omega)).trans rv, ⟨hv.1, by show v < Y.1 + 1; omega, hv.2.2⟩, (pY_k (by omega)).trans kv, hn, hM, hB⟩
set_option maxRecDepth 100000 in
theorem s_J4_toString {d : Nat} {Y : mY} {F : mF} {M : mM} {L : mL} {h : Nat} {l : List Int32} {Q : Option Value → mW → Prop} (H : SB Y F M h l 0) (hY : Y.1 < 690000) (hQ : ∀ y Y' F' M' L', STR (mXY Y') F' M' y l → f53 F M F' M' → gq 2 Y Y' → Q (some (.ref y)) (mXY Y', F', M', L')) : Cw (d + 6) 252 [.ref h] (mXY Y, F, M, L) Q := by
  have h1 := H.1
  refine Cw_in rfl rfl ?_
  refine r_new (p := 3) rfl rfl ?_
  rw [pX_Y (by omega)]
  show Wp _ _ _ _ [.ref Y.1] (mXY (pY Y (0, 0) 4), zF F Y.1, M, zL L Y.1) _
  refine r_dup (p := 4) rfl rfl rfl ?_
  refine r_aload_n (p := 5) rfl rfl rfl ?_
  refine r_cI (p := 8) rfl rfl (Nat.le_of_ble_eq_true rfl) rfl (s_J0_initB (H.nw (by omega)) ⟨by omega, by show Y.1 < Y.1 + 1; omega, by omega⟩ pY_n (by show Y.1 + 1 < _; omega) (fun Y1 F1 M1 L1 H1 f1 g1 => ?_))
  refine r_areturn rfl ?_
  refine hQ _ _ _ _ _ H1 (f53.tr ⟨fun a k ha => zF_ne (by omega), fun _ _ _ => rfl⟩ f1) ?_
  have g0 : gq 1 Y (pY Y (0, 0) 4) := ⟨by show Y.1 ≤ Y.1 + 1; omega, Nat.le_refl _, by show Y.2.1 + 4 ≤ _; omega, rfl, rfl⟩
  exact g0.tr g1
