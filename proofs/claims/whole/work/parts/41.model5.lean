theorem g_mk {s : mSt} (hI : Inv s) (hp : sPh s = 1) : sG (unt s) = sG s := by
  unfold unt
  rw [if_neg (show ¬ sPh s = 2 by rw [hp]; decide)]
  split
  · rename_i v t hq
    exact (Inv_shdF (Inv_tl hI hq).1 hp v).2.1
  · have z := (Inv_scan hI hp).2.1
    split
    · exact z
    · exact z
theorem cnt_swp {s : mSt} (hI : Inv s) : ∃ r, r ≤ 1 ∧ cnt (sG (swp s)) 2 = cnt (sG s) 2 - nI r := by
  unfold swp
  split
  · exact ⟨0, by omega, (Int32.sub_zero _).symm⟩
  · rename_i v t hs
    have hv := hI.2.2.2.2.2.2.2.2.1.2.1 v (by rw [hs]; exact List.mem_cons_self)
    split
    · refine ⟨1, by omega, ?_⟩
      show cnt (up1 (sG s) v 0) 2 = _
      rw [cnt_upd hv.1, if_pos hv.2, if_neg (by decide), Int32.add_zero]
      rfl
    · exact ⟨0, by omega, (Int32.sub_zero _).symm⟩
theorem cnt_unt {s : mSt} (hI : Inv s) (h0 : ¬ sPh s = 0) : ∃ r, r ≤ 1 ∧ cnt (sG (unt s)) 2 = cnt (sG s) 2 - nI r := by
  by_cases h2 : sPh s = 2
  · have e : unt s = swp s := if_pos h2
    rw [e]
    exact cnt_swp hI
  · rw [g_mk hI (ph_1 hI h0 h2)]
    exact ⟨0, by omega, (Int32.sub_zero _).symm⟩
theorem cnt_stps : ∀ {n : Nat} {s : mSt}, Inv s → ∃ r, r ≤ n ∧ cnt (sG s) 2 - cnt (sG (stps n s)) 2 = nI r
  | 0, s, _ => ⟨0, by omega, Int32.sub_self _⟩
  | n + 1, s, hI => by
    by_cases h0 : sPh s = 0
    · have e : stps (n + 1) s = s := by rw [stps]; exact if_pos h0
      rw [e]
      exact ⟨0, by omega, Int32.sub_self _⟩
    · have e : stps (n + 1) s = stps n (unt s) := by rw [stps]; exact if_neg h0
      rw [e]
      obtain ⟨r1, h1, e1⟩ := cnt_unt hI h0
      obtain ⟨r2, h2, e2⟩ := cnt_stps (n := n) (Inv_unt hI h0)
      refine ⟨r1 + r2, by omega, ?_⟩
      rw [← nI_add, ← e2, e1]
      grind
theorem adv_ok {s : mSt} {b : Int32} (hI : Inv s) (ho : ¬ (b < 1 ∨ 200 < b)) (h0 : ¬ sPh s = 0) : ¬ (adv s b).1 < -1 := by
  obtain ⟨k, hk, hb⟩ := nI_of2 (M := 200) (n := 200) (x := b) rfl (fun q => ho (Or.inl (Int32.lt_trans q (by decide)))) (Int32.not_lt.mp fun q => ho (Or.inr q))
  unfold adv
  rw [if_neg ho, if_neg h0, hb, nI_clamp (by omega)]
  obtain ⟨r, h1, e⟩ := cnt_stps (n := k) hI
  show ¬ cnt (sG s) 2 - cnt (sG (stps k s)) 2 < -1
  rw [e]
  exact fun q => absurd (Int32.lt_trans q (by decide)) (nI_pos (n := r) (by omega))
set_option maxRecDepth 100000 in
theorem lp_X7_stepMajor {d : Nat} {Y : mY} {L : mL} {b : Int32} {s0 : mSt} {k : Nat} {Q : Option Value → mW → Prop} (hb : b = nI k) (hk : k < 1000) :
    ∀ (n j : Nat) (s : mSt) (F : mF) (M : mM) (z : Option Value), j + n = k → RR s F M → Inv s → (∀ F' M', RR (stps n s) F' M' → frR F M F' M' → Q (some (.int (cnt (sG s0) 2 - cnt (sG (stps n s)) 2))) (mXY Y, F', M', L)) → Wp (d + 5) tX7_stepMajor 36 [some (.ref 34), some (.int b), some (.int (cnt (sG s0) 2 - cnt (sG s) 2)), some (.int (nI j)), z] [] (mXY Y, F, M, L) Q
  | 0, j, s, F, M, z, hj, H, hI, hQ => by
    refine r_iload_n (p := 37) rfl rfl rfl ?_
    refine r_iload_n (p := 38) rfl rfl rfl ?_
    refine r_icmp_ge (p := 41) rfl rfl (fun c1 => ?_) (fun c1 => ?_)
    · refine r_iload_n (p := 89) rfl rfl rfl ?_
      refine r_ireturn rfl trivial ?_
      exact hQ F M H frR.rf
    · exact absurd (by rw [hb]; exact nI_le (a := k) (b := j) (by omega) (by omega)) c1
  | n + 1, j, s, F, M, z, hj, H, hI, hQ => by
    have hph := H.2.2.2.2.2.2.2.2.2.2.2.2.1.1
    refine r_iload_n (p := 37) rfl rfl rfl ?_
    refine r_iload_n (p := 38) rfl rfl rfl ?_
    refine r_icmp_ge (p := 41) rfl rfl (fun c1 => ?_) (fun c1 => ?_)
    · refine r_iload_n (p := 89) rfl rfl rfl ?_
      exact absurd c1 (by rw [hb]; exact nI_ge (a := j) (b := k) (by omega) (by omega))
    · refine r_aload_n (p := 42) rfl rfl rfl ?_
      refine r_getI (p := 45) rfl rfl rfl rfl ?_
      refine r_if_eq (p := 48) rfl rfl (fun c2 => ?_) (fun c2 => ?_)
      · refine r_iload_n (p := 89) rfl rfl rfl ?_
        refine r_ireturn rfl trivial ?_
        have es : stps (n + 1) s = s := by rw [stps]; exact if_pos (hph ▸ c2)
        rw [es] at hQ
        exact hQ F M H frR.rf
      · have h0 : ¬ sPh s = 0 := fun q => c2 (hph.trans q)
        refine r_aload_n (p := 49) rfl rfl rfl ?_
        refine r_getI (p := 52) rfl rfl rfl rfl ?_
        refine r_iconst (v := 1) (p := 53) rfl rfl rfl ?_
        refine r_icmp_ne (p := 56) rfl rfl (fun c3 => ?_) (fun c3 => ?_)
        · have p2 : sPh s = 2 := by
            rcases hI.2.2.2.2.2.2.2.2.2 with q | q | q
            · exact absurd q h0
            · exact absurd (hph.trans q) c3
            · exact q
          refine r_aload_n (p := 64) rfl rfl rfl ?_
          refine r_cV (p := 67) rfl rfl rfl (Nat.le_of_ble_eq_true rfl) rfl (s_X7_sweepUnit H hI p2 (fun F2 M2 r R2 f2 hr er => ?_))
          refine r_istore (p := 69) rfl rfl rfl ?_
          refine r_iload_n (p := 70) rfl rfl rfl ?_
          refine r_iload (p := 72) rfl rfl rfl ?_
          refine r_if_eq (p := 75) rfl rfl (fun c4 => ?_) (fun c4 => ?_)
          · refine r_iconst (v := 0) (p := 80) rfl rfl rfl ?_
            refine r_iadd (p := 81) rfl rfl ?_
            refine r_istore_n (p := 82) rfl rfl rfl ?_
            refine r_iinc (v := (nI (j + 1))) (p := 85) rfl rfl (nI_1 j) rfl rfl ?_
            refine r_goto rfl ?_
            have es : stps (n + 1) s = stps n (unt s) := by rw [stps]; exact if_neg h0
            rw [es] at hQ
            have eu : unt s = swp s := if_pos p2
            rw [← eu] at R2 er
            have z := lp_X7_stepMajor (d := d) (s0 := s0) (Y := Y) (L := L) hb hk n (j + 1) (unt s) F2 M2 (some (.int r)) (by omega) R2 (Inv_unt hI h0) (fun F' M' R f => hQ F' M' R (f2.tr f))
            have ea : cnt (sG s0) 2 - cnt (sG (unt s)) 2 = cnt (sG s0) 2 - cnt (sG s) 2 + 0 := by
              rw [er]
              rw [show r = 0 from c4]; grind
            rw [ea] at z
            exact z
          · refine r_iconst (v := 1) (p := 76) rfl rfl rfl ?_
            refine r_goto rfl ?_
            refine r_iadd (p := 81) rfl rfl ?_
            refine r_istore_n (p := 82) rfl rfl rfl ?_
            refine r_iinc (v := (nI (j + 1))) (p := 85) rfl rfl (nI_1 j) rfl rfl ?_
            refine r_goto rfl ?_
            have es : stps (n + 1) s = stps n (unt s) := by rw [stps]; exact if_neg h0
            rw [es] at hQ
            have eu : unt s = swp s := if_pos p2
            rw [← eu] at R2 er
            have z := lp_X7_stepMajor (d := d) (s0 := s0) (Y := Y) (L := L) hb hk n (j + 1) (unt s) F2 M2 (some (.int r)) (by omega) R2 (Inv_unt hI h0) (fun F' M' R f => hQ F' M' R (f2.tr f))
            have ea : cnt (sG s0) 2 - cnt (sG (unt s)) 2 = cnt (sG s0) 2 - cnt (sG s) 2 + 1 := by
              rw [er]
              rw [show r = 1 from hr.elim (fun q => absurd q c4) id]; grind
            rw [ea] at z
            exact z
        · have p1 : sPh s = 1 := hph ▸ c3
          refine r_aload_n (p := 57) rfl rfl rfl ?_
          refine r_cV (p := 60) rfl rfl rfl (Nat.le_of_ble_eq_true rfl) rfl (s_X7_markUnit H hI p1 (fun F1 M1 R1 f1 => ?_))
          refine r_goto rfl ?_
          refine r_iinc (v := (nI (j + 1))) (p := 85) rfl rfl (nI_1 j) rfl rfl ?_
          refine r_goto rfl ?_
          have es : stps (n + 1) s = stps n (unt s) := by rw [stps]; exact if_neg h0
          rw [es] at hQ
          have z := lp_X7_stepMajor (d := d) (s0 := s0) (Y := Y) (L := L) hb hk n (j + 1) (unt s) F1 M1 z (by omega) R1 (Inv_unt hI h0) (fun F' M' R f => hQ F' M' R (f1.tr f))
          rw [g_mk hI p1] at z
          exact z
set_option maxRecDepth 100000 in
theorem s_X7_stepMajor {d : Nat} {Y : mY} {F : mF} {M : mM} {L : mL} {s : mSt} {b : Int32} {Q : Option Value → mW → Prop} (H : RR s F M) (hI : Inv s) (hQ : ∀ F' M', RR (adv s b).2 F' M' → frR F M F' M' → Q (some (.int (adv s b).1)) (mXY Y, F', eM F M' (adv s b).1, L)) : Cw (d + 6) 32 [.ref 34, .int b] (mXY Y, F, M, L) Q := by
  have hph := H.2.2.2.2.2.2.2.2.2.2.2.2.1.1
  refine Cw_in rfl rfl ?_
  refine r_iload_n (p := 1) rfl rfl rfl ?_
  refine r_iconst (v := 1) (p := 2) rfl rfl rfl ?_
  refine r_sipush (v := 200) (p := 5) rfl rfl rfl ?_
  refine r_cS1 (p := 8) rfl rfl (Nat.le_of_ble_eq_true rfl) rfl (s_X7_in ?_)
  rw [in_eq]
  refine r_if_ne (p := 11) rfl rfl (fun c1 => ?_) (fun c1 => ?_)
  · have ho : ¬ (b < 1 ∨ 200 < b) := fun q => c1 (if_neg fun w => q.elim w.1 w.2)
    refine r_aload_n (p := 19) rfl rfl rfl ?_
    refine r_getI (p := 22) rfl rfl rfl rfl ?_
    refine r_if_ne (p := 25) rfl rfl (fun c2 => ?_) (fun c2 => ?_)
    · have h0 : ¬ sPh s = 0 := fun q => c2 (hph.trans q)
      have hok := adv_ok hI ho h0
      obtain ⟨k, hk, hb⟩ := nI_of2 (M := 200) (n := 200) (x := b) rfl (fun q => ho (Or.inl (Int32.lt_trans q (by decide)))) (Int32.not_lt.mp fun q => ho (Or.inr q))
      have e : adv s b = (cnt (sG s) 2 - cnt (sG (stps k s)) 2, stps k s) := by unfold adv; rw [if_neg ho, if_neg h0, hb, nI_clamp (by omega)]
      rw [e] at hQ hok
      refine r_iconst (v := 0) (p := 33) rfl rfl rfl ?_
      refine r_istore_n (p := 34) rfl rfl rfl ?_
      refine r_iconst (v := 0) (p := 35) rfl rfl rfl ?_
      refine r_istore_n (p := 36) rfl rfl rfl ?_
      have z := lp_X7_stepMajor (d := d) (s0 := s) (Y := Y) (L := L) (Q := Q) hb (by omega) k 0 s F M none (by omega) H hI (fun F' M' R f => by have z := hQ F' M' R f; rw [eM_no hok] at z; exact z)
      rw [Int32.sub_self] at z
      exact z
    · refine r_aload_n (p := 26) rfl rfl rfl ?_
      refine r_bipush (v := (-3)) (p := 28) rfl rfl rfl ?_
      refine r_cV (p := 31) rfl rfl rfl (Nat.le_of_ble_eq_true rfl) rfl (s_X7_fail vpf3 ?_)
      rw [f_fail]
      have e : adv s b = (-3, s) := by unfold adv; rw [if_neg ho, if_pos (hph ▸ c2)]
      rw [e] at hQ
      have z := hQ _ _ H frR.rf
      rw [eM_3] at z
      refine r_ireturn rfl trivial ?_
      exact z
  · refine r_aload_n (p := 12) rfl rfl rfl ?_
    refine r_bipush (v := (-2)) (p := 14) rfl rfl rfl ?_
    refine r_cV (p := 17) rfl rfl rfl (Nat.le_of_ble_eq_true rfl) rfl (s_X7_fail vpf2 ?_)
    rw [f_fail]
    have ho : b < 1 ∨ 200 < b := Classical.byContradiction fun q => absurd c1 (by rw [if_pos ⟨fun w => q (Or.inl w), fun w => q (Or.inr w)⟩]; decide)
    have e : adv s b = (-2, s) := if_pos ho
    rw [e] at hQ
    have z := hQ _ _ H frR.rf
    rw [eM_2] at z
    refine r_ireturn rfl trivial ?_
    exact z
