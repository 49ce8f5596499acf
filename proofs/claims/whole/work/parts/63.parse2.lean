theorem slc_len {t : List Int32} {p q : Nat} (h : p ≤ q) (h2 : q ≤ t.length) : (slc t p q).length = q - p := by
  unfold slc
  simp
  omega
theorem slc_get {t : List Int32} {p q k : Nat} (h2 : q ≤ t.length) (hk : k < q - p) : (slc t p q).getD k 0 = t.getD (p + k) 0 := by
  unfold slc
  simp [List.getD_eq_getElem?_getD, List.getElem?_take, hk]
theorem list_ext0 {a b : List Int32} (h : a.length = b.length) (e : ∀ k, k < b.length → a.getD k 0 = b.getD k 0) : a = b := by
  refine List.ext_getElem h fun k h1 h2 => ?_
  have := e k h2
  simpa [List.getD_eq_getElem?_getD, List.getElem?_eq_getElem h1, List.getElem?_eq_getElem h2] using this
set_option maxRecDepth 100000 in
theorem lp_X5_spells {d : Nat} {Y : mY} {F : mF} {M : mM} {L : mL} {t : List Int32} {p q h v : Nat} {sp : List Int32} {Q : Option Value → mW → Prop} (ht : LL (F 29 3) (M 32) t) (h150 : t.length ≤ 150) (hpq : p ≤ q) (hqt : q ≤ t.length) (hT : tx (mXY Y) F M h v sp) (hE : eOk (mXY Y)) (hb : ∀ x ∈ sp, byt x) (hQ : Q (some (.int (if slc t p q = sp then 1 else 0))) (mXY Y, F, M, L)) (hl : q - p = sp.length) :
    ∀ (n j : Nat), j + n = sp.length → (∀ k, k < j → t.getD (p + k) 0 = sp.getD k 0) → Wp (d + 4) tX5_spells 27 [some (.ref 29), some (.int (nI p)), some (.int (nI q)), some (.ref h), some (.int (nI j))] [] (mXY Y, F, M, L) Q
  | 0, j, hj, hk => by
    have h10 := hT.2.2.2
    refine r_iload (p := 29) rfl rfl rfl ?_
    refine r_aload_n (p := 30) rfl rfl rfl ?_
    refine r_cV (p := 33) rfl rfl hT.kd (Nat.le_of_ble_eq_true rfl) rfl (s_J0_length hT ?_)
    refine r_icmp_ge (p := 36) rfl rfl (fun c1 => ?_) (fun c1 => ?_)
    · refine r_iconst (v := 1) (p := 63) rfl rfl rfl ?_
      have e : slc t p q = sp := list_ext0 ((slc_len hpq hqt).trans hl) (fun k hk2 => (slc_get hqt (by omega)).trans (hk k (by omega)))
      rw [if_pos e] at hQ
      exact r_ireturn rfl mok_1 hQ
    · exact absurd (nI_le (a := sp.length) (b := j) (by omega) (by omega)) c1
  | n + 1, j, hj, hk => by
    have h10 := hT.2.2.2
    refine r_iload (p := 29) rfl rfl rfl ?_
    refine r_aload_n (p := 30) rfl rfl rfl ?_
    refine r_cV (p := 33) rfl rfl hT.kd (Nat.le_of_ble_eq_true rfl) rfl (s_J0_length hT ?_)
    refine r_icmp_ge (p := 36) rfl rfl (fun c1 => ?_) (fun c1 => ?_)
    · refine r_iconst (v := 1) (p := 63) rfl rfl rfl ?_
      exact absurd c1 (nI_ge (a := j) (b := sp.length) (by omega) (by omega))
    · have hj2 : j < sp.length := by omega
      refine r_aload_n (p := 37) rfl rfl rfl ?_
      refine r_getR (p := 40) rfl rfl rfl rfl rfl ?_
      refine r_iload_n (p := 41) rfl rfl rfl ?_
      refine r_iload (p := 43) rfl rfl rfl ?_
      refine r_iadd (p := 44) rfl rfl ?_
      rw [nI_add]
      refine r_bald (p := 45) rfl rfl rfl (vp_in_nI (show p + j < 150 by omega) (by omega)) rfl ?_
      rw [ht.2 (p + j) (by omega)]
      refine r_aload_n (p := 46) rfl rfl rfl ?_
      refine r_iload (p := 48) rfl rfl rfl ?_
      refine r_cV (p := 51) rfl rfl hT.kd (Nat.le_of_ble_eq_true rfl) rfl (s_J0_charAt hT hj2 hE (hb _ (getD_mem hj2)) ?_)
      refine r_icmp_eq (p := 54) rfl rfl (fun c2 => ?_) (fun c2 => ?_)
      · refine r_iinc (v := (nI (j + 1))) (p := 59) rfl rfl (nI_1 j) rfl rfl ?_
        refine r_goto rfl ?_
        refine lp_X5_spells ht h150 hpq hqt hT hE hb hQ hl n (j + 1) (by omega) (fun k hk2 => ?_)
        by_cases e : k = j
        · rw [e]; exact c2
        · exact hk k (by omega)
      · refine r_iconst (v := 0) (p := 55) rfl rfl rfl ?_
        have e : ¬ slc t p q = sp := fun e => c2 (by rw [← e, slc_get hqt (by omega)])
        rw [if_neg e] at hQ
        exact r_ireturn rfl mok_0 hQ
set_option maxRecDepth 100000 in
theorem s_X5_spells {d : Nat} {Y : mY} {F : mF} {M : mM} {L : mL} {t : List Int32} {p q h v : Nat} {sp : List Int32} {Q : Option Value → mW → Prop} (ht : LL (F 29 3) (M 32) t) (h150 : t.length ≤ 150) (hpq : p ≤ q) (hqt : q ≤ t.length) (hT : tx (mXY Y) F M h v sp) (hE : eOk (mXY Y)) (hb : ∀ x ∈ sp, byt x) (hQ : Q (some (.int (if slc t p q = sp then 1 else 0))) (mXY Y, F, M, L)) : Cw (d + 5) 170 [.ref 29, .int (nI p), .int (nI q), .ref h] (mXY Y, F, M, L) Q := by
  have h10 := hT.2.2.2
  refine Cw_in rfl rfl ?_
  refine r_iload_n (p := 1) rfl rfl rfl ?_
  refine r_if_lt (p := 4) rfl rfl (fun c1 => ?_) (fun c1 => ?_)
  · refine r_iconst (v := 0) (p := 23) rfl rfl rfl ?_
    exact absurd c1 (nI_pos (by omega))
  · refine r_iload_n (p := 5) rfl rfl rfl ?_
    refine r_aload_n (p := 6) rfl rfl rfl ?_
    refine r_getI (p := 9) rfl rfl rfl rfl ?_
    rw [ht.1]
    refine r_icmp_gt (p := 12) rfl rfl (fun c2 => ?_) (fun c2 => ?_)
    · refine r_iconst (v := 0) (p := 23) rfl rfl rfl ?_
      exact absurd c2 (Int32.not_lt.mpr (nI_le hqt (by omega)))
    · refine r_iload_n (p := 13) rfl rfl rfl ?_
      refine r_iload_n (p := 14) rfl rfl rfl ?_
      refine r_isub (p := 15) rfl rfl ?_
      rw [nI_sub hpq]
      refine r_aload_n (p := 16) rfl rfl rfl ?_
      refine r_cV (p := 19) rfl rfl hT.kd (Nat.le_of_ble_eq_true rfl) rfl (s_J0_length hT ?_)
      refine r_icmp_eq (p := 22) rfl rfl (fun c3 => ?_) (fun c3 => ?_)
      · have hl : q - p = sp.length := nI_inj (by omega) (by omega) c3
        refine r_iconst (v := 0) (p := 25) rfl rfl rfl ?_
        refine r_istore (p := 27) rfl rfl rfl ?_
        exact lp_X5_spells ht h150 hpq hqt hT hE hb hQ hl sp.length 0 (by omega) (fun k hk => absurd hk (Nat.not_lt_zero _))
      · refine r_iconst (v := 0) (p := 23) rfl rfl rfl ?_
        have e : ¬ slc t p q = sp := fun e => c3 (by rw [← e, slc_len hpq hqt])
        rw [if_neg e] at hQ
        exact r_ireturn rfl mok_0 hQ
set_option maxRecDepth 100000 in
theorem s_spell0 {d : Nat} {w : mW} {Q : Option Value → mW → Prop} (hQ : Q (some (.ref 1000005)) w) : Cw (d + 1) 169 [.int 0] w Q := by
  refine Cw_in rfl rfl ?_
  refine r_iload_n (p := 1) rfl rfl rfl ?_
  refine r_table (tgt := 40) rfl rfl ?_
  refine r_ldcS (y := 1000005) (p := 42) rfl rfl rfl ?_
  exact r_areturn rfl hQ
set_option maxRecDepth 100000 in
theorem s_spell1 {d : Nat} {w : mW} {Q : Option Value → mW → Prop} (hQ : Q (some (.ref 1000006)) w) : Cw (d + 1) 169 [.int 1] w Q := by
  refine Cw_in rfl rfl ?_
  refine r_iload_n (p := 1) rfl rfl rfl ?_
  refine r_table (tgt := 43) rfl rfl ?_
  refine r_ldcS (y := 1000006) (p := 45) rfl rfl rfl ?_
  exact r_areturn rfl hQ
set_option maxRecDepth 100000 in
theorem s_spell2 {d : Nat} {w : mW} {Q : Option Value → mW → Prop} (hQ : Q (some (.ref 1000007)) w) : Cw (d + 1) 169 [.int 2] w Q := by
  refine Cw_in rfl rfl ?_
  refine r_iload_n (p := 1) rfl rfl rfl ?_
  refine r_table (tgt := 46) rfl rfl ?_
  refine r_ldcS (y := 1000007) (p := 48) rfl rfl rfl ?_
  exact r_areturn rfl hQ
set_option maxRecDepth 100000 in
theorem s_spell3 {d : Nat} {w : mW} {Q : Option Value → mW → Prop} (hQ : Q (some (.ref 1000008)) w) : Cw (d + 1) 169 [.int 3] w Q := by
  refine Cw_in rfl rfl ?_
  refine r_iload_n (p := 1) rfl rfl rfl ?_
  refine r_table (tgt := 49) rfl rfl ?_
  refine r_ldcS (y := 1000008) (p := 51) rfl rfl rfl ?_
  exact r_areturn rfl hQ
set_option maxRecDepth 100000 in
theorem s_spell4 {d : Nat} {w : mW} {Q : Option Value → mW → Prop} (hQ : Q (some (.ref 1000009)) w) : Cw (d + 1) 169 [.int 4] w Q := by
  refine Cw_in rfl rfl ?_
  refine r_iload_n (p := 1) rfl rfl rfl ?_
  refine r_table (tgt := 52) rfl rfl ?_
  refine r_ldcS (y := 1000009) (p := 54) rfl rfl rfl ?_
  exact r_areturn rfl hQ
set_option maxRecDepth 100000 in
theorem s_spell5 {d : Nat} {w : mW} {Q : Option Value → mW → Prop} (hQ : Q (some (.ref 1000010)) w) : Cw (d + 1) 169 [.int 5] w Q := by
  refine Cw_in rfl rfl ?_
  refine r_iload_n (p := 1) rfl rfl rfl ?_
  refine r_table (tgt := 55) rfl rfl ?_
  refine r_ldcS (y := 1000010) (p := 57) rfl rfl rfl ?_
  exact r_areturn rfl hQ
set_option maxRecDepth 100000 in
theorem s_X5_wordBetween {d : Nat} {Y : mY} {F : mF} {M : mM} {L : mL} {t : List Int32} {p q : Nat} {Q : Option Value → mW → Prop} (ht : LL (F 29 3) (M 32) t) (h150 : t.length ≤ 150) (hpq : p ≤ q) (hqt : q ≤ t.length) (hE : eOk (mXY Y)) (hQ : Q (some (.int (nI (wid (slc t p q))))) (mXY Y, F, M, L)) : Cw (d + 6) 168 [.ref 29, .int (nI p), .int (nI q)] (mXY Y, F, M, L) Q := by
  refine Cw_in rfl rfl ?_
  refine r_iconst (v := 0) (p := 1) rfl rfl rfl ?_
  refine r_istore_n (p := 2) rfl rfl rfl ?_
  refine r_iload_n (p := 3) rfl rfl rfl ?_
  refine r_iconst (v := 5) (p := 4) rfl rfl rfl ?_
  refine r_icmp_gt (p := 7) rfl rfl (fun c => absurd c (by decide)) (fun _ => ?_)
  refine r_aload_n (p := 8) rfl rfl rfl ?_
  refine r_iload_n (p := 9) rfl rfl rfl ?_
  refine r_iload_n (p := 10) rfl rfl rfl ?_
  refine r_iload_n (p := 11) rfl rfl rfl ?_
  refine r_cS1 (p := 14) rfl rfl (Nat.le_of_ble_eq_true rfl) rfl (s_spell0 ?_)
  refine r_cV (p := 17) rfl rfl rfl (Nat.le_of_ble_eq_true rfl) rfl (s_X5_spells (sp := [97, 108, 108, 111, 99]) ht h150 hpq hqt (st_tx (j := 5) (by omega) _ _ _) hE (st_b (j := 5) (by omega)) ?_)
  refine r_if_eq (p := 20) rfl rfl (fun c1 => ?_) (fun c1 => ?_)
  · refine r_iinc (v := 1) (p := 25) rfl rfl rfl rfl rfl ?_
    refine r_goto rfl ?_
    refine r_iload_n (p := 3) rfl rfl rfl ?_
    refine r_iconst (v := 5) (p := 4) rfl rfl rfl ?_
    refine r_icmp_gt (p := 7) rfl rfl (fun c => absurd c (by decide)) (fun _ => ?_)
    refine r_aload_n (p := 8) rfl rfl rfl ?_
    refine r_iload_n (p := 9) rfl rfl rfl ?_
    refine r_iload_n (p := 10) rfl rfl rfl ?_
    refine r_iload_n (p := 11) rfl rfl rfl ?_
    refine r_cS1 (p := 14) rfl rfl (Nat.le_of_ble_eq_true rfl) rfl (s_spell1 ?_)
    refine r_cV (p := 17) rfl rfl rfl (Nat.le_of_ble_eq_true rfl) rfl (s_X5_spells (sp := [114, 111, 111, 116]) ht h150 hpq hqt (st_tx (j := 6) (by omega) _ _ _) hE (st_b (j := 6) (by omega)) ?_)
    refine r_if_eq (p := 20) rfl rfl (fun c2 => ?_) (fun c2 => ?_)
    · refine r_iinc (v := 2) (p := 25) rfl rfl rfl rfl rfl ?_
      refine r_goto rfl ?_
      refine r_iload_n (p := 3) rfl rfl rfl ?_
      refine r_iconst (v := 5) (p := 4) rfl rfl rfl ?_
      refine r_icmp_gt (p := 7) rfl rfl (fun c => absurd c (by decide)) (fun _ => ?_)
      refine r_aload_n (p := 8) rfl rfl rfl ?_
      refine r_iload_n (p := 9) rfl rfl rfl ?_
      refine r_iload_n (p := 10) rfl rfl rfl ?_
      refine r_iload_n (p := 11) rfl rfl rfl ?_
      refine r_cS1 (p := 14) rfl rfl (Nat.le_of_ble_eq_true rfl) rfl (s_spell2 ?_)
      refine r_cV (p := 17) rfl rfl rfl (Nat.le_of_ble_eq_true rfl) rfl (s_X5_spells (sp := [119, 114, 105, 116, 101]) ht h150 hpq hqt (st_tx (j := 7) (by omega) _ _ _) hE (st_b (j := 7) (by omega)) ?_)
      refine r_if_eq (p := 20) rfl rfl (fun c3 => ?_) (fun c3 => ?_)
      · refine r_iinc (v := 3) (p := 25) rfl rfl rfl rfl rfl ?_
        refine r_goto rfl ?_
        refine r_iload_n (p := 3) rfl rfl rfl ?_
        refine r_iconst (v := 5) (p := 4) rfl rfl rfl ?_
        refine r_icmp_gt (p := 7) rfl rfl (fun c => absurd c (by decide)) (fun _ => ?_)
        refine r_aload_n (p := 8) rfl rfl rfl ?_
        refine r_iload_n (p := 9) rfl rfl rfl ?_
        refine r_iload_n (p := 10) rfl rfl rfl ?_
        refine r_iload_n (p := 11) rfl rfl rfl ?_
        refine r_cS1 (p := 14) rfl rfl (Nat.le_of_ble_eq_true rfl) rfl (s_spell3 ?_)
        refine r_cV (p := 17) rfl rfl rfl (Nat.le_of_ble_eq_true rfl) rfl (s_X5_spells (sp := [109, 105, 110, 111, 114]) ht h150 hpq hqt (st_tx (j := 8) (by omega) _ _ _) hE (st_b (j := 8) (by omega)) ?_)
        refine r_if_eq (p := 20) rfl rfl (fun c4 => ?_) (fun c4 => ?_)
        · refine r_iinc (v := 4) (p := 25) rfl rfl rfl rfl rfl ?_
          refine r_goto rfl ?_
          refine r_iload_n (p := 3) rfl rfl rfl ?_
          refine r_iconst (v := 5) (p := 4) rfl rfl rfl ?_
          refine r_icmp_gt (p := 7) rfl rfl (fun c => absurd c (by decide)) (fun _ => ?_)
          refine r_aload_n (p := 8) rfl rfl rfl ?_
          refine r_iload_n (p := 9) rfl rfl rfl ?_
          refine r_iload_n (p := 10) rfl rfl rfl ?_
          refine r_iload_n (p := 11) rfl rfl rfl ?_
          refine r_cS1 (p := 14) rfl rfl (Nat.le_of_ble_eq_true rfl) rfl (s_spell4 ?_)
          refine r_cV (p := 17) rfl rfl rfl (Nat.le_of_ble_eq_true rfl) rfl (s_X5_spells (sp := [115, 116, 97, 114, 116]) ht h150 hpq hqt (st_tx (j := 9) (by omega) _ _ _) hE (st_b (j := 9) (by omega)) ?_)
          refine r_if_eq (p := 20) rfl rfl (fun c5 => ?_) (fun c5 => ?_)
          · refine r_iinc (v := 5) (p := 25) rfl rfl rfl rfl rfl ?_
            refine r_goto rfl ?_
            refine r_iload_n (p := 3) rfl rfl rfl ?_
            refine r_iconst (v := 5) (p := 4) rfl rfl rfl ?_
            refine r_icmp_gt (p := 7) rfl rfl (fun c => absurd c (by decide)) (fun _ => ?_)
            refine r_aload_n (p := 8) rfl rfl rfl ?_
            refine r_iload_n (p := 9) rfl rfl rfl ?_
            refine r_iload_n (p := 10) rfl rfl rfl ?_
            refine r_iload_n (p := 11) rfl rfl rfl ?_
            refine r_cS1 (p := 14) rfl rfl (Nat.le_of_ble_eq_true rfl) rfl (s_spell5 ?_)
            refine r_cV (p := 17) rfl rfl rfl (Nat.le_of_ble_eq_true rfl) rfl (s_X5_spells (sp := [115, 116, 101, 112]) ht h150 hpq hqt (st_tx (j := 10) (by omega) _ _ _) hE (st_b (j := 10) (by omega)) ?_)
            refine r_if_eq (p := 20) rfl rfl (fun c6 => ?_) (fun c6 => ?_)
            · refine r_iinc (v := 6) (p := 25) rfl rfl rfl rfl rfl ?_
              refine r_goto rfl ?_
              refine r_iload_n (p := 3) rfl rfl rfl ?_
              refine r_iconst (v := 5) (p := 4) rfl rfl rfl ?_
              refine r_icmp_gt (p := 7) rfl rfl (fun _ => ?_) (fun c => absurd c (by decide))
              refine r_bipush (v := 6) (p := 30) rfl rfl rfl ?_
              have e : wid (slc t p q) = 6 := by unfold wid; rw [if_neg (show ¬ slc t p q = [97, 108, 108, 111, 99] from fun z => absurd c1 (by rw [if_pos z]; decide)), if_neg (show ¬ slc t p q = [114, 111, 111, 116] from fun z => absurd c2 (by rw [if_pos z]; decide)), if_neg (show ¬ slc t p q = [119, 114, 105, 116, 101] from fun z => absurd c3 (by rw [if_pos z]; decide)), if_neg (show ¬ slc t p q = [109, 105, 110, 111, 114] from fun z => absurd c4 (by rw [if_pos z]; decide)), if_neg (show ¬ slc t p q = [115, 116, 97, 114, 116] from fun z => absurd c5 (by rw [if_pos z]; decide)), if_neg (show ¬ slc t p q = [115, 116, 101, 112] from fun z => absurd c6 (by rw [if_pos z]; decide))]
              rw [e] at hQ
              exact r_ireturn rfl trivial hQ
            · refine r_iload_n (p := 21) rfl rfl rfl ?_
              have e : wid (slc t p q) = 5 := by unfold wid; rw [if_neg (show ¬ slc t p q = [97, 108, 108, 111, 99] from fun z => absurd c1 (by rw [if_pos z]; decide)), if_neg (show ¬ slc t p q = [114, 111, 111, 116] from fun z => absurd c2 (by rw [if_pos z]; decide)), if_neg (show ¬ slc t p q = [119, 114, 105, 116, 101] from fun z => absurd c3 (by rw [if_pos z]; decide)), if_neg (show ¬ slc t p q = [109, 105, 110, 111, 114] from fun z => absurd c4 (by rw [if_pos z]; decide)), if_neg (show ¬ slc t p q = [115, 116, 97, 114, 116] from fun z => absurd c5 (by rw [if_pos z]; decide)), if_pos (Classical.byContradiction fun z => c6 (if_neg z))]
              rw [e] at hQ
              exact r_ireturn rfl trivial hQ
          · refine r_iload_n (p := 21) rfl rfl rfl ?_
            have e : wid (slc t p q) = 4 := by unfold wid; rw [if_neg (show ¬ slc t p q = [97, 108, 108, 111, 99] from fun z => absurd c1 (by rw [if_pos z]; decide)), if_neg (show ¬ slc t p q = [114, 111, 111, 116] from fun z => absurd c2 (by rw [if_pos z]; decide)), if_neg (show ¬ slc t p q = [119, 114, 105, 116, 101] from fun z => absurd c3 (by rw [if_pos z]; decide)), if_neg (show ¬ slc t p q = [109, 105, 110, 111, 114] from fun z => absurd c4 (by rw [if_pos z]; decide)), if_pos (Classical.byContradiction fun z => c5 (if_neg z))]
            rw [e] at hQ
            exact r_ireturn rfl trivial hQ
        · refine r_iload_n (p := 21) rfl rfl rfl ?_
          have e : wid (slc t p q) = 3 := by unfold wid; rw [if_neg (show ¬ slc t p q = [97, 108, 108, 111, 99] from fun z => absurd c1 (by rw [if_pos z]; decide)), if_neg (show ¬ slc t p q = [114, 111, 111, 116] from fun z => absurd c2 (by rw [if_pos z]; decide)), if_neg (show ¬ slc t p q = [119, 114, 105, 116, 101] from fun z => absurd c3 (by rw [if_pos z]; decide)), if_pos (Classical.byContradiction fun z => c4 (if_neg z))]
          rw [e] at hQ
          exact r_ireturn rfl trivial hQ
      · refine r_iload_n (p := 21) rfl rfl rfl ?_
        have e : wid (slc t p q) = 2 := by unfold wid; rw [if_neg (show ¬ slc t p q = [97, 108, 108, 111, 99] from fun z => absurd c1 (by rw [if_pos z]; decide)), if_neg (show ¬ slc t p q = [114, 111, 111, 116] from fun z => absurd c2 (by rw [if_pos z]; decide)), if_pos (Classical.byContradiction fun z => c3 (if_neg z))]
        rw [e] at hQ
        exact r_ireturn rfl trivial hQ
    · refine r_iload_n (p := 21) rfl rfl rfl ?_
      have e : wid (slc t p q) = 1 := by unfold wid; rw [if_neg (show ¬ slc t p q = [97, 108, 108, 111, 99] from fun z => absurd c1 (by rw [if_pos z]; decide)), if_pos (Classical.byContradiction fun z => c2 (if_neg z))]
      rw [e] at hQ
      exact r_ireturn rfl trivial hQ
  · refine r_iload_n (p := 21) rfl rfl rfl ?_
    have e : wid (slc t p q) = 0 := by unfold wid; rw [if_pos (Classical.byContradiction fun z => c1 (if_neg z))]
    rw [e] at hQ
    exact r_ireturn rfl trivial hQ
set_option maxRecDepth 100000 in
theorem lp_X5_word {d : Nat} {Y : mY} {M : mM} {L : mL} {t : List Int32} {c : Nat} {W : Option Nat} {Q : Option Value → mW → Prop} {x : Int32} :
    ∀ (n p : Nat) (F : mF), t.length - p = n → PS t F M p W c → (∀ F' l2, PS t F' M (lts t p) W c → fQ F F' → Wp (d + 6) tX5_readWord 41 [some (.ref 29), some (.int x), some l2] [] (mXY Y, F', M, L) Q) → Wp (d + 6) tX5_readWord 7 [some (.ref 29), some (.int x), some (.int (nI p))] [] (mXY Y, F, M, L) Q
  | 0, p, F, hn, H, hQ => by
    have h2 := H.1.1
    have h3 := H.2.2.2.2.2
    refine r_iload_n (p := 8) rfl rfl rfl ?_
    refine r_aload_n (p := 9) rfl rfl rfl ?_
    refine r_getI (p := 12) rfl rfl rfl rfl ?_
    rw [h2]
    refine r_icmp_ge (p := 15) rfl rfl (fun c1 => ?_) (fun c1 => ?_)
    · have e : lts t p = p := lts_no (fun q => by have := q.1; omega)
      rw [e] at hQ
      exact hQ F _ H fQ.rf
    · exact absurd (nI_le (a := t.length) (b := p) (by omega) (by omega)) c1
  | n + 1, p, F, hn, H, hQ => by
    have h2 := H.1.1
    have h3 := H.2.2.2.2.2
    refine r_iload_n (p := 8) rfl rfl rfl ?_
    refine r_aload_n (p := 9) rfl rfl rfl ?_
    refine r_getI (p := 12) rfl rfl rfl rfl ?_
    rw [h2]
    refine r_icmp_ge (p := 15) rfl rfl (fun c1 => ?_) (fun c1 => ?_)
    · exact absurd c1 (nI_ge (show p < t.length by omega) (by omega))
    · refine r_aload_n (p := 16) rfl rfl rfl ?_
      refine r_cV (p := 19) rfl rfl rfl (Nat.le_of_ble_eq_true rfl) rfl (s_X5_here H ?_)
      refine r_cS1 (p := 22) rfl rfl (Nat.le_of_ble_eq_true rfl) rfl (s_X5_isLetter ?_)
      rw [rg_eq]
      refine r_if_eq (p := 25) rfl rfl (fun c2 => ?_) (fun c2 => ?_)
      · have e : lts t p = p := lts_no (fun q => absurd c2 (by rw [if_pos q]; decide))
        rw [e] at hQ
        exact hQ F _ H fQ.rf
      · have hq : rgq t p 97 122 := Classical.byContradiction fun q => c2 (if_neg q)
        have H1 := H.mv hq.1
        rw [lts_go hq] at hQ
        refine r_aload_n (p := 26) rfl rfl rfl ?_
        refine r_dup (p := 27) rfl rfl rfl ?_
        refine r_getI (p := 30) rfl rfl rfl rfl ?_
        refine r_iconst (v := 1) (p := 31) rfl rfl rfl ?_
        refine r_iadd (p := 32) rfl rfl ?_
        refine r_putI (p := 35) rfl rfl rfl rfl ?_
        refine r_iinc (v := (nI (p + 1))) (p := 38) rfl rfl (nI_1 p) rfl rfl ?_
        refine r_goto rfl ?_
        exact lp_X5_word n (p + 1) _ (by omega) H1 (fun F' l2 R f => hQ F' l2 R ((fQ.u (Or.inl rfl)).tr f))
theorem wid_le {l : List Int32} : wid l ≤ 6 := by
  by_cases h : wid l = 6
  · omega
  · have := (wid_len h).2; omega
set_option maxRecDepth 100000 in
theorem s_X5_readWord {d : Nat} {Y : mY} {F : mF} {M : mM} {L : mL} {t : List Int32} {p c : Nat} {W : Option Nat} {Q : Option Value → mW → Prop} (H : PS t F M p W c) (hE : eOk (mXY Y)) (hQ : (∀ F', PS t F' M (lts t p) (if wrd t p (lts t p) = 6 then fW W (some p) else W) c → fQ F F' → Q (some (.int (nI (wrd t p (lts t p))))) (mXY Y, F', M, L))) : Cw (d + 7) 159 [.ref 29] (mXY Y, F, M, L) Q := by
  have h3 := H.2.2.2.2.2
  have hg := lts_ge (t := t) (p := p)
  have hl := lts_le h3.2
  refine Cw_in rfl rfl ?_
  refine r_aload_n (p := 1) rfl rfl rfl ?_
  refine r_getI (p := 4) rfl rfl rfl rfl ?_
  rw [H.2.1]
  refine r_istore_n (p := 5) rfl rfl rfl ?_
  refine r_iload_n (p := 6) rfl rfl rfl ?_
  refine r_istore_n (p := 7) rfl rfl rfl ?_
  refine lp_X5_word _ p F rfl H (fun F1 l2 R1 f1 => ?_)
  refine r_iload_n (p := 42) rfl rfl rfl ?_
  refine r_aload_n (p := 43) rfl rfl rfl ?_
  refine r_getI (p := 46) rfl rfl rfl rfl ?_
  rw [R1.2.1]
  refine r_icmp_ne (p := 49) rfl rfl (fun c1 => ?_) (fun c1 => ?_)
  · refine r_aload_n (p := 55) rfl rfl rfl ?_
    refine r_iload_n (p := 56) rfl rfl rfl ?_
    refine r_aload_n (p := 57) rfl rfl rfl ?_
    refine r_getI (p := 60) rfl rfl rfl rfl ?_
    rw [R1.2.1]
    refine r_cV (p := 63) rfl rfl rfl (Nat.le_of_ble_eq_true rfl) rfl (s_X5_wordBetween R1.1 h3.1 hg hl hE ?_)
    refine r_istore_n (p := 64) rfl rfl rfl ?_
    have ewx : wrd t p (lts t p) = wid (slc t p (lts t p)) := if_neg (fun q => c1 (by rw [← q]))
    rw [← ewx]
    refine r_iload_n (p := 65) rfl rfl rfl ?_
    refine r_bipush (v := 6) (p := 67) rfl rfl rfl ?_
    refine r_icmp_ne (p := 70) rfl rfl (fun c2 => ?_) (fun c2 => ?_)
    · have ew : ¬ wrd t p (lts t p) = 6 := fun q => c2 (by rw [q]; rfl)
      refine r_iload_n (p := 76) rfl rfl rfl ?_
      rw [if_neg ew] at hQ
      exact r_ireturn rfl trivial (hQ _ R1 f1)
    · have ew : wrd t p (lts t p) = 6 := nI_inj (by have := wid_le (l := slc t p (lts t p)); omega) (by omega) c2
      refine r_aload_n (p := 71) rfl rfl rfl ?_
      refine r_iload_n (p := 72) rfl rfl rfl ?_
      refine r_cV (p := 75) rfl rfl rfl (Nat.le_of_ble_eq_true rfl) rfl (s_X5_failAt (e := p) R1 (by omega) (fun F2 R2 f2 => ?_))
      refine r_iload_n (p := 76) rfl rfl rfl ?_
      rw [if_pos ew] at hQ
      exact r_ireturn rfl trivial (hQ _ R2 (f1.tr f2))
  · refine r_bipush (v := 6) (p := 51) rfl rfl rfl ?_
    refine r_goto rfl ?_
    refine r_istore_n (p := 64) rfl rfl rfl ?_
    have ew : wrd t p (lts t p) = 6 := if_pos (nI_inj (by omega) (by omega) c1)
    refine r_iload_n (p := 65) rfl rfl rfl ?_
    refine r_bipush (v := 6) (p := 67) rfl rfl rfl ?_
    refine r_icmp_ne (p := 70) rfl rfl (fun c => absurd c (by decide)) (fun _ => ?_)
    refine r_aload_n (p := 71) rfl rfl rfl ?_
    refine r_iload_n (p := 72) rfl rfl rfl ?_
    refine r_cV (p := 75) rfl rfl rfl (Nat.le_of_ble_eq_true rfl) rfl (s_X5_failAt (e := p) R1 (by omega) (fun F2 R2 f2 => ?_))
    refine r_iload_n (p := 76) rfl rfl rfl ?_
    rw [if_pos ew] at hQ
    rw [ew] at hQ
    exact r_ireturn rfl trivial (hQ _ R2 (f1.tr f2))
