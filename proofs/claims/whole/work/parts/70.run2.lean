theorem eM_q {F : mF} {M : mM} {r : Int32} (h : ¬ F 34 23 = 0) : eM F M r = M := by
  unfold eM gM_X7_fail
  rw [if_neg h]
  split <;> rfl
theorem bgn_r {s : mSt} (h : Inv s) : (bgn s).1 = -3 ∨ ¬ (bgn s).1 < -1 := by
  have hb := (Inv_bgn h).qul
  unfold bgn at *
  by_cases h0 : sPh s = 0
  · rw [if_pos h0] at *
    have hb : (sQu (scan (bgn0 s))).length ≤ 100 := hb
    exact Or.inr (fun q => absurd (Int32.lt_trans q (by decide)) (nI_pos (n := (sQu (scan (bgn0 s))).length) (by omega)))
  · rw [if_neg h0]
    exact Or.inl rfl
theorem fre_n {l : List Int32} : ∀ {t : List Int32} {s : mSt} {n : Nat}, ∃ m, m ≤ n + t.length ∧ (t.foldl (frO l) (s, nI n)).2 = nI m
  | [], s, n => ⟨n, by simp, rfl⟩
  | x :: t, s, n => by
    rw [List.foldl_cons]
    unfold frO
    split
    · obtain ⟨m, h1, h2⟩ := fre_n (l := l) (t := t) (s := s) (n := n)
      exact ⟨m, by simp; omega, h2⟩
    · obtain ⟨m, h1, h2⟩ := fre_n (l := l) (t := t) (s := wG s (up1 (sG s) x 0)) (n := n + 1)
      rw [← nI_1] at h2
      exact ⟨m, by simp; omega, h2⟩
theorem minr_r {s : mSt} (h : Inv s) : ¬ (minr s).1 < -1 := by
  have a := age_all trc_nd (fun x hx => trc_y x hx) h.w
  obtain ⟨m, h1, h2⟩ := fre_n (l := trc s) (t := sNu ((trc s).foldl agS s)) (s := (trc s).foldl agS s) (n := 0)
  rw [a.2.1.2.2.2.1] at h1
  have hn := h.nul
  show ¬ (fre ((trc s).foldl agS s) (trc s)).2 < -1
  rw [show (fre ((trc s).foldl agS s) (trc s)).2 = nI m from h2]
  exact fun q => absurd (Int32.lt_trans q (by decide)) (nI_pos (n := m) (by omega))
theorem exC_r {s : mSt} {c : Nat × List Int32} (h : Inv s) : ((exC s c).1 = -2 ∨ (exC s c).1 = -3 ∨ (exC s c).1 = -4) ∨ ¬ (exC s c).1 < -1 := by
  unfold exC
  split
  · unfold aloc
    split
    · exact Or.inl (Or.inl rfl)
    · split
      · exact Or.inl (Or.inr (Or.inr rfl))
      · refine Or.inr ?_
        obtain ⟨n, n1, n2, n3⟩ := h.1
        show ¬ sAl s < -1
        rw [n2]
        exact fun q => absurd (Int32.lt_trans q (by decide)) (nI_pos (n := n) (by omega))
  · unfold stR
    split
    · exact Or.inl (Or.inl rfl)
    · split
      · exact Or.inl (Or.inr (Or.inl rfl))
      · exact Or.inr (stB_ok (h.2.2.2.2.1 _))
  · unfold stF
    split
    · exact Or.inl (Or.inl rfl)
    · split
      · exact Or.inl (Or.inr (Or.inl rfl))
      · exact Or.inr (stB_ok (h.2.2.2.1 _))
  · exact Or.inr (minr_r h)
  · rcases bgn_r h with q | q
    · exact Or.inl (Or.inr (Or.inl q))
    · exact Or.inr q
  · unfold adv
    split
    · exact Or.inl (Or.inl rfl)
    · split
      · exact Or.inl (Or.inr (Or.inl rfl))
      · rename_i h1 h2
        have z := adv_ok h h1 h2
        unfold adv at z
        rw [if_neg h1, if_neg h2] at z
        exact Or.inr z
set_option maxRecDepth 100000 in
theorem s_X7_execute {d : Nat} {Y : mY} {F : mF} {M : mM} {L : mL} {s : mSt} {cs : List (Nat × List Int32)} {k : Nat} {Q : Option Value → mW → Prop} (H : RR s F M) (hI : Inv s) (hq : F 34 23 = 1) (hn : cs.length ≤ 25) (hk : k < cs.length) (hM : MC M cs) (hc : cOk (cs.getD k (0, []))) (hQ : ∀ F' M', RR (exC s (cs.getD k (0, []))).2 F' M' → frR F M F' M' → Q (some (.int (exC s (cs.getD k (0, []))).1)) (mXY Y, F', M', L)) : Cw (d + 7) 68 [.ref 34, .int (4 * nI k)] (mXY Y, F, M, L) Q := by
  have hq0 : ¬ F 34 23 = 0 := by rw [hq]; decide
  obtain ⟨m1, m3⟩ := hM k hk
  generalize cs.getD k (0, []) = c at *
  obtain ⟨w, vs⟩ := c
  obtain ⟨hw, hl⟩ := hc
  refine Cw_in rfl rfl ?_
  refine r_aload_n (p := 1) rfl rfl rfl ?_
  refine r_getR (p := 4) rfl rfl rfl rfl rfl ?_
  refine r_iload_n (p := 5) rfl rfl rfl ?_
  refine r_iconst (v := 1) (p := 6) rfl rfl rfl ?_
  refine r_iadd (p := 7) rfl rfl ?_
  refine r_iald (p := 8) rfl rfl rfl (vp160 (j := 1) (by omega) (by omega)) rfl ?_
  refine r_istore_n (p := 9) rfl rfl rfl ?_
  refine r_aload_n (p := 10) rfl rfl rfl ?_
  refine r_getR (p := 13) rfl rfl rfl rfl rfl ?_
  refine r_iload_n (p := 14) rfl rfl rfl ?_
  refine r_iconst (v := 3) (p := 15) rfl rfl rfl ?_
  refine r_iadd (p := 16) rfl rfl ?_
  refine r_iald (p := 17) rfl rfl rfl (vp160 (j := 3) (by omega) (by omega)) rfl ?_
  refine r_istore_n (p := 18) rfl rfl rfl ?_
  refine r_aload_n (p := 19) rfl rfl rfl ?_
  refine r_getR (p := 22) rfl rfl rfl rfl rfl ?_
  refine r_iload_n (p := 23) rfl rfl rfl ?_
  refine r_iald (p := 24) rfl rfl rfl (vp160' (by omega)) rfl ?_
  have m1 : M 52 (4 * nI k) = nI (w + 1) := m1
  rw [m1]
  rcases (show w = 0 ∨ w = 1 ∨ w = 2 ∨ w = 3 ∨ w = 4 ∨ w = 5 by have : w ≤ 5 := hw; omega) with q | q | q | q | q | q <;> subst q
  · refine r_table (tgt := 60) rfl rfl ?_
    have u1 : M 52 (4 * nI k + nI 1) = vs.getD 0 0 := m3 (1, vs.getD 0 0) (by show _ ∈ [(1, vs.getD 0 0)]; simp)
    rw [show M 52 (4 * nI k + 1) = vs.getD 0 0 from u1]
    refine r_aload_n (p := 61) rfl rfl rfl ?_
    refine r_iload_n (p := 62) rfl rfl rfl ?_
    refine r_cV (p := 65) rfl rfl rfl (Nat.le_of_ble_eq_true rfl) rfl (s_X7_allocate H hI (fun F1 M1 R1 f1 => ?_))
    rw [eM_q hq0]
    exact r_ireturn rfl trivial (hQ _ _ R1 f1)
  · refine r_table (tgt := 66) rfl rfl ?_
    have u1 : M 52 (4 * nI k + nI 1) = vs.getD 0 0 := m3 (1, vs.getD 0 0) (by show _ ∈ [(1, vs.getD 0 0), (3, vs.getD 1 0)]; simp)
    have u3 : M 52 (4 * nI k + nI 3) = vs.getD 1 0 := m3 (3, vs.getD 1 0) (by show _ ∈ [(1, vs.getD 0 0), (3, vs.getD 1 0)]; simp)
    rw [show M 52 (4 * nI k + 1) = vs.getD 0 0 from u1]
    rw [show M 52 (4 * nI k + 3) = vs.getD 1 0 from u3]
    refine r_aload_n (p := 67) rfl rfl rfl ?_
    refine r_iload_n (p := 68) rfl rfl rfl ?_
    refine r_iload_n (p := 69) rfl rfl rfl ?_
    refine r_cV (p := 72) rfl rfl rfl (Nat.le_of_ble_eq_true rfl) rfl (s_X7_setRoot H hI (fun F1 M1 R1 f1 => ?_))
    rw [eM_q hq0]
    exact r_ireturn rfl trivial (hQ _ _ R1 f1)
  · refine r_table (tgt := 73) rfl rfl ?_
    have u1 : M 52 (4 * nI k + nI 1) = vs.getD 0 0 := m3 (1, vs.getD 0 0) (by show _ ∈ [(1, vs.getD 0 0), (2, vs.getD 1 0), (3, vs.getD 2 0)]; simp)
    have u2 : M 52 (4 * nI k + nI 2) = vs.getD 1 0 := m3 (2, vs.getD 1 0) (by show _ ∈ [(1, vs.getD 0 0), (2, vs.getD 1 0), (3, vs.getD 2 0)]; simp)
    have u3 : M 52 (4 * nI k + nI 3) = vs.getD 2 0 := m3 (3, vs.getD 2 0) (by show _ ∈ [(1, vs.getD 0 0), (2, vs.getD 1 0), (3, vs.getD 2 0)]; simp)
    rw [show M 52 (4 * nI k + 1) = vs.getD 0 0 from u1]
    rw [show M 52 (4 * nI k + 3) = vs.getD 2 0 from u3]
    refine r_aload_n (p := 74) rfl rfl rfl ?_
    refine r_iload_n (p := 75) rfl rfl rfl ?_
    refine r_aload_n (p := 76) rfl rfl rfl ?_
    refine r_getR (p := 79) rfl rfl rfl rfl rfl ?_
    refine r_iload_n (p := 80) rfl rfl rfl ?_
    refine r_iconst (v := 2) (p := 81) rfl rfl rfl ?_
    refine r_iadd (p := 82) rfl rfl ?_
    refine r_iald (p := 83) rfl rfl rfl (vp160 (j := 2) (by omega) (by omega)) rfl ?_
    rw [show M 52 (4 * nI k + 2) = vs.getD 1 0 from u2]
    refine r_iload_n (p := 84) rfl rfl rfl ?_
    refine r_cV (p := 87) rfl rfl rfl (Nat.le_of_ble_eq_true rfl) rfl (s_X7_write H hI (fun F1 M1 R1 f1 => ?_))
    rw [eM_q hq0]
    exact r_ireturn rfl trivial (hQ _ _ R1 f1)
  · refine r_table (tgt := 88) rfl rfl ?_
    refine r_aload_n (p := 89) rfl rfl rfl ?_
    refine r_cV (p := 92) rfl rfl rfl (Nat.le_of_ble_eq_true rfl) rfl (s_X7_minorCollection H hI (fun F1 M1 R1 f1 => ?_))
    exact r_ireturn rfl trivial (hQ _ _ R1 f1)
  · refine r_table (tgt := 93) rfl rfl ?_
    refine r_aload_n (p := 94) rfl rfl rfl ?_
    refine r_cV (p := 97) rfl rfl rfl (Nat.le_of_ble_eq_true rfl) rfl (s_X7_startMajor H hI (fun F1 M1 R1 f1 => ?_))
    rw [eM_q hq0]
    exact r_ireturn rfl trivial (hQ _ _ R1 f1)
  · refine r_table (tgt := 98) rfl rfl ?_
    have u1 : M 52 (4 * nI k + nI 1) = vs.getD 0 0 := m3 (1, vs.getD 0 0) (by show _ ∈ [(1, vs.getD 0 0)]; simp)
    rw [show M 52 (4 * nI k + 1) = vs.getD 0 0 from u1]
    refine r_aload_n (p := 99) rfl rfl rfl ?_
    refine r_iload_n (p := 100) rfl rfl rfl ?_
    refine r_cV (p := 103) rfl rfl rfl (Nat.le_of_ble_eq_true rfl) rfl (s_X7_stepMajor H hI (fun F1 M1 R1 f1 => ?_))
    rw [eM_q hq0]
    exact r_ireturn rfl trivial (hQ _ _ R1 f1)
set_option maxRecDepth 100000 in
theorem lp_X7_parse {d : Nat} {Y : mY} {L : mL} {t : List Int32} {Q : Option Value → mW → Prop} (hb : ∀ x ∈ t, byt x) :
    ∀ (f k p : Nat) (cs : List (Nat × List Int32)) (F : mF) (M : mM), k + f = 25 → MS t F M p none k → cs.length = k → MC M cs → 6 * k ≤ p → (k = 0 ∨ p < t.length) → spc t p = p → (∀ F' M', fM F M F' M' → F' 34 36 = wv (cs ++ (prs t f p).1, (prs t f p).2).2 → ((cs ++ (prs t f p).1, (prs t f p).2).2 = none → F' 34 34 = nI (cs ++ (prs t f p).1, (prs t f p).2).1.length ∧ MC M' (cs ++ (prs t f p).1, (prs t f p).2).1) → Wp (d + 7) tX7_runScript 44 [some (.ref 34), none, none] [] (mXY Y, F', M', L) Q) → Wp (d + 7) tX7_runScript 20 [some (.ref 34), none, none] [] (mXY Y, F, M, L) Q
  | 0, k, p, cs, F, M, hk, H, hl, hM, h6, hp, hs, hQ => by
    have h3 := H.2.2.2.2.2
    omega
  | f + 1, k, p, cs, F, M, hk, H, hl, hM, h6, hp, hs, hQ => by
    have h3 := H.2.2.2.2.2
    refine r_aload_n (p := 21) rfl rfl rfl ?_
    refine r_cV (p := 24) rfl rfl rfl (Nat.le_of_ble_eq_true rfl) rfl (s_X7_readCommand (cs := cs) H (by omega) hl hM (fun F1 M1 p1 c1x R1 f1 m1 => ?_))
    rw [hs] at R1 m1
    refine r_aload_n (p := 25) rfl rfl rfl ?_
    refine r_cV (p := 28) rfl rfl rfl (Nat.le_of_ble_eq_true rfl) rfl (s_X7_skip R1 (fun F2 R2 f2 => ?_))
    refine r_aload_n (p := 29) rfl rfl rfl ?_
    refine r_getI (p := 32) rfl rfl rfl rfl ?_
    refine r_bipush (v := (-5)) (p := 34) rfl rfl rfl ?_
    refine r_icmp_ne (p := 37) rfl rfl (fun c1 => ?_) (fun c1 => ?_)
    · have hW : ∃ e, (cmd t p).2.2.2 = some e := by
        cases hW : (cmd t p).2.2.2 with
        | none => rw [hW] at R2; exact absurd R2.2.2.1 c1
        | some e => exact ⟨e, rfl⟩
      obtain ⟨e, hW⟩ := hW
      have ep : prs t (f + 1) p = ([], some e) := by unfold prs; rw [hW]
      rw [ep] at hQ
      rw [hW] at R2
      exact hQ _ _ (f1.tr f2.p) R2.2.2.1 (fun z => by cases z)
    · have hW : (cmd t p).2.2.2 = none := by
        cases hW : (cmd t p).2.2.2 with
        | none => rfl
        | some e => rw [hW] at R2; exact absurd c1 R2.er
      rw [hW] at R2
      obtain ⟨e1, e2, m2⟩ := m1 hW
      subst e1 e2
      have hc := cmd_p hW
      have h7 := spc_ge (t := t) (p := (cmd t p).2.2.1)
      refine r_aload_n (p := 38) rfl rfl rfl ?_
      refine r_cV (p := 41) rfl rfl rfl (Nat.le_of_ble_eq_true rfl) rfl (s_X7_here R2 ?_)
      refine r_if_ge (p := 44) rfl rfl (fun c2 => ?_) (fun c2 => ?_)
      · have hlt : spc t (cmd t p).2.2.1 < t.length := Classical.byContradiction fun q => by
          rw [show hm t (spc t (cmd t p).2.2.1) = -1 from if_neg q] at c2
          exact absurd c2 (by decide)
        have ep : prs t (f + 1) p = (((cmd t p).1, (cmd t p).2.1) :: (prs t f (spc t (cmd t p).2.2.1)).1, (prs t f (spc t (cmd t p).2.2.1)).2) := by
          rw [prs, hW]
          exact if_pos hlt
        rw [ep] at hQ
        refine lp_X7_parse hb f (k + 1) _ (cs ++ [((cmd t p).1, (cmd t p).2.1)]) F2 M1 (by omega) R2 (by simp [hl]) m2 (by omega) (Or.inr hlt) spc_spc (fun F' M' fr hr hw => hQ F' M' ((f1.tr f2.p).tr fr) hr (fun z => ?_))
        have := hw z
        rw [List.append_assoc] at this
        exact this
      · have ep : prs t (f + 1) p = ([((cmd t p).1, (cmd t p).2.1)], none) := by
          rw [prs, hW]
          exact if_neg (fun q => c2 (by rw [hm_in q]; exact Int32.not_lt.mp (hb _ (getD_mem q)).1))
        rw [ep] at hQ
        exact hQ _ _ (f1.tr f2.p) R2.2.2.1 (fun _ => ⟨by rw [R2.2.2.2.1]; simp [hl], m2⟩)
theorem MC.fr {F F' : mF} {M M' : mM} {cs : List (Nat × List Int32)} (H : MC M cs) (f : frR F M F' M') : MC M' cs := fun k hk => ⟨(f.2 _ _ (by omega)).trans (H k hk).1, fun x hx => (f.2 _ _ (by omega)).trans ((H k hk).2 x hx)⟩
set_option maxRecDepth 100000 in
theorem lp_X7_run {d : Nat} {Y : mY} {L : mL} {cs : List (Nat × List Int32)} {Q : Option Value → mW → Prop} (hn : cs.length ≤ 25) (hc : ∀ c ∈ cs, cOk c) :
    ∀ (n k : Nat) (s : mSt) (F : mF) (M : mM), k + n = cs.length → RR s F M → Inv s → F 34 34 = nI cs.length → F 34 23 = 1 → MC M cs → (∀ F' M', RR (exs cs n k s).2 F' M' → frR F M F' M' → Q (some (.int (exs cs n k s).1)) (mXY Y, uF F' 34 23 0, M', L)) → Wp (d + 7) tX7_runScript 70 [some (.ref 34), some (.int (nI k)), some (.int 1)] [] (mXY Y, F, M, L) Q
  | 0, k, s, F, M, hk, H, hI, hF, hq, hM, hQ => by
    refine r_iload_n (p := 71) rfl rfl rfl ?_
    refine r_aload_n (p := 72) rfl rfl rfl ?_
    refine r_getI (p := 75) rfl rfl rfl rfl ?_
    rw [hF]
    refine r_icmp_ge (p := 78) rfl rfl (fun c1 => ?_) (fun c1 => ?_)
    · refine r_aload_n (p := 116) rfl rfl rfl ?_
      refine r_iconst (v := 0) (p := 117) rfl rfl rfl ?_
      refine r_putI3 (p := 120) rfl rfl rfl (by first | exact Or.inl rfl | exact Or.inr rfl) rfl ?_
      refine r_iload_n (p := 121) rfl rfl rfl ?_
      refine r_if_eq (p := 124) rfl rfl (fun c => absurd c (by decide)) (fun _ => ?_)
      refine r_aload_n (p := 125) rfl rfl rfl ?_
      refine r_getI (p := 128) rfl rfl rfl rfl ?_
      refine r_goto rfl ?_
      rw [show (uF F 34 23 0) 34 34 = nI cs.length from hF]
      exact r_ireturn rfl trivial (hQ F M H frR.rf)
    · exact absurd (nI_le (a := cs.length) (b := k) (by omega) (by omega)) c1
  | n + 1, k, s, F, M, hk, H, hI, hF, hq, hM, hQ => by
    have hk2 : k < cs.length := by omega
    have hm : cs.getD k (0, []) ∈ cs := getD_mem2 hk2
    have hr := exC_r (c := cs.getD k (0, [])) hI
    refine r_iload_n (p := 71) rfl rfl rfl ?_
    refine r_aload_n (p := 72) rfl rfl rfl ?_
    refine r_getI (p := 75) rfl rfl rfl rfl ?_
    rw [hF]
    refine r_icmp_ge (p := 78) rfl rfl (fun c1 => ?_) (fun c1 => ?_)
    · exact absurd c1 (nI_ge hk2 (by omega))
    · refine r_iload_n (p := 79) rfl rfl rfl ?_
      refine r_if_eq (p := 82) rfl rfl (fun c => absurd c (by decide)) (fun _ => ?_)
      refine r_aload_n (p := 83) rfl rfl rfl ?_
      refine r_iconst (v := 4) (p := 84) rfl rfl rfl ?_
      refine r_iload_n (p := 85) rfl rfl rfl ?_
      refine r_imul (p := 86) rfl rfl ?_
      refine r_cV (p := 89) rfl rfl rfl (Nat.le_of_ble_eq_true rfl) rfl (s_X7_execute (d := d) H hI hq hn hk2 hM (hc _ hm) (fun F1 M1 R1 f1 => ?_))
      refine r_bipush (v := (-2)) (p := 91) rfl rfl rfl ?_
      refine r_icmp_le (p := 94) rfl rfl (fun c2 => ?_) (fun c2 => ?_)
      · refine r_iconst (v := 0) (p := 99) rfl rfl rfl ?_
        refine r_istore_n (p := 100) rfl rfl rfl ?_
        refine r_iload_n (p := 101) rfl rfl rfl ?_
        refine r_iload_n (p := 102) rfl rfl rfl ?_
        refine r_if_eq (p := 105) rfl rfl (fun _ => ?_) (fun c => absurd c (by decide))
        refine r_iconst (v := 0) (p := 110) rfl rfl rfl ?_
        refine r_iadd (p := 111) rfl rfl ?_
        refine r_istore_n (p := 112) rfl rfl rfl ?_
        refine r_goto rfl ?_
        have he : (exC s (cs.getD k (0, []))).1 = -2 ∨ (exC s (cs.getD k (0, []))).1 = -3 ∨ (exC s (cs.getD k (0, []))).1 = -4 := hr.elim id (fun q => absurd (Int32.lt_of_le_of_lt c2 (by decide)) q)
        have e : exs cs (n + 1) k s = (-1000 - nI k, (exC s (cs.getD k (0, []))).2) := if_pos he
        rw [e] at hQ
        rw [Int32.add_zero]
        have hF1 : F1 34 34 = nI cs.length := (f1.1 _ _ (by omega)).trans hF
        refine r_iload_n (p := 71) rfl rfl rfl ?_
        refine r_aload_n (p := 72) rfl rfl rfl ?_
        refine r_getI (p := 75) rfl rfl rfl rfl ?_
        rw [hF1]
        refine r_icmp_ge (p := 78) rfl rfl (fun c1 => ?_) (fun c1 => ?_)
        · refine r_aload_n (p := 116) rfl rfl rfl ?_
          refine r_iconst (v := 0) (p := 117) rfl rfl rfl ?_
          refine r_putI3 (p := 120) rfl rfl rfl (by first | exact Or.inl rfl | exact Or.inr rfl) rfl ?_
          refine r_iload_n (p := 121) rfl rfl rfl ?_
          refine r_if_eq (p := 124) rfl rfl (fun _ => ?_) (fun c => absurd c (by decide))
          refine r_sipush (v := (-1000)) (p := 134) rfl rfl rfl ?_
          refine r_iload_n (p := 135) rfl rfl rfl ?_
          refine r_isub (p := 136) rfl rfl ?_
          exact absurd c1 (nI_ge hk2 (by omega))
        · refine r_iload_n (p := 79) rfl rfl rfl ?_
          refine r_if_eq (p := 82) rfl rfl (fun _ => ?_) (fun c => absurd c (by decide))
          refine r_aload_n (p := 116) rfl rfl rfl ?_
          refine r_iconst (v := 0) (p := 117) rfl rfl rfl ?_
          refine r_putI3 (p := 120) rfl rfl rfl (by first | exact Or.inl rfl | exact Or.inr rfl) rfl ?_
          refine r_iload_n (p := 121) rfl rfl rfl ?_
          refine r_if_eq (p := 124) rfl rfl (fun _ => ?_) (fun c => absurd c (by decide))
          refine r_sipush (v := (-1000)) (p := 134) rfl rfl rfl ?_
          refine r_iload_n (p := 135) rfl rfl rfl ?_
          refine r_isub (p := 136) rfl rfl ?_
          exact r_ireturn rfl trivial (hQ _ _ R1 f1)
      · refine r_iconst (v := 1) (p := 95) rfl rfl rfl ?_
        refine r_goto rfl ?_
        refine r_istore_n (p := 100) rfl rfl rfl ?_
        refine r_iload_n (p := 101) rfl rfl rfl ?_
        refine r_iload_n (p := 102) rfl rfl rfl ?_
        refine r_if_eq (p := 105) rfl rfl (fun c => absurd c (by decide)) (fun _ => ?_)
        refine r_iconst (v := 1) (p := 106) rfl rfl rfl ?_
        refine r_goto rfl ?_
        refine r_iadd (p := 111) rfl rfl ?_
        refine r_istore_n (p := 112) rfl rfl rfl ?_
        refine r_goto rfl ?_
        have hne : ¬ ((exC s (cs.getD k (0, []))).1 = -2 ∨ (exC s (cs.getD k (0, []))).1 = -3 ∨ (exC s (cs.getD k (0, []))).1 = -4) := fun z => c2 (by rcases z with q | q | q <;> rw [q] <;> decide)
        have e : exs cs (n + 1) k s = exs cs n (k + 1) (exC s (cs.getD k (0, []))).2 := if_neg hne
        rw [e] at hQ
        rw [nI_1]
        exact lp_X7_run hn hc n (k + 1) _ F1 M1 (by omega) R1 (Inv_exC hI) ((f1.1 _ _ (by omega)).trans hF) ((f1.1 _ _ (by omega)).trans hq) (hM.fr f1) (fun F' M' R f => hQ F' M' R (f1.tr f))
set_option maxRecDepth 100000 in
theorem rs_runScript {b : mBs} (hI : Inv b.1) (ht : b.2.2.1.length ≤ 150) (hb : ∀ x ∈ b.2.2.1, byt x) : RS 8 69 [] b (.int (oRn b).1) (oRn b).2 := fun d Y F M L Q H hQ => by
  have hp := prs_ok (t := b.2.2.1) (f := 25) (p := spc b.2.2.1 0)
  have H0 : MS b.2.2.1 (uF (uF (uF F 34 35 0) 34 36 (-5)) 34 34 0) M 0 none 0 := ⟨H.2.2.2.1, rfl, rfl, rfl, (fun e h => by cases h), ht, Nat.zero_le _⟩
  have f0 : fM F M (uF (uF (uF F 34 35 0) 34 36 (-5)) 34 34 0) M := ((fN.u (Or.inl rfl)).tr (fN.u (Or.inr rfl))).p.tr fM.c
  refine Cw_in rfl rfl ?_
  refine r_aload_n (p := 1) rfl rfl rfl ?_
  refine r_iconst (v := 0) (p := 2) rfl rfl rfl ?_
  refine r_putI (p := 5) rfl rfl rfl rfl ?_
  refine r_aload_n (p := 6) rfl rfl rfl ?_
  refine r_bipush (v := (-5)) (p := 8) rfl rfl rfl ?_
  refine r_putI (p := 11) rfl rfl rfl rfl ?_
  refine r_aload_n (p := 12) rfl rfl rfl ?_
  refine r_iconst (v := 0) (p := 13) rfl rfl rfl ?_
  refine r_putI (p := 16) rfl rfl rfl rfl ?_
  refine r_aload_n (p := 17) rfl rfl rfl ?_
  refine r_cV (p := 20) rfl rfl rfl (Nat.le_of_ble_eq_true rfl) rfl (s_X7_skip H0 (fun F1 R1 f1 => ?_))
  refine lp_X7_parse hb 25 0 _ [] F1 M rfl R1 rfl (fun k hk => absurd hk (Nat.not_lt_zero _)) (Nat.zero_le _) (Or.inl rfl) spc_spc (fun F2 M2 f2 hF2 m2 => ?_)
  have g := (f0.tr f1.p).tr f2
  have HR : RR b.1 F2 M2 := H.1.fr (fun k hk => g.1 34 k (by omega)) (fun a i h1 h2 => g.2 a i (by omega))
  refine r_aload_n (p := 45) rfl rfl rfl ?_
  refine r_getI (p := 48) rfl rfl rfl rfl ?_
  refine r_bipush (v := (-5)) (p := 50) rfl rfl rfl ?_
  refine r_icmp_eq (p := 53) rfl rfl (fun c1 => ?_) (fun c1 => ?_)
  · have hW : (prs b.2.2.1 25 (spc b.2.2.1 0)).2 = none := by
      cases hW : (prs b.2.2.1 25 (spc b.2.2.1 0)).2 with
      | none => rfl
      | some e => exact absurd (show nI e = -5 from by rw [hF2, hW] at c1; exact c1) (fun q => nI_pos (n := e) (prs_e hW ht) (by rw [q]; decide))
    refine r_aload_n (p := 62) rfl rfl rfl ?_
    refine r_iconst (v := 1) (p := 63) rfl rfl rfl ?_
    refine r_putI3 (p := 66) rfl rfl rfl (by first | exact Or.inl rfl | exact Or.inr rfl) rfl ?_
    refine r_iconst (v := 0) (p := 67) rfl rfl rfl ?_
    refine r_istore_n (p := 68) rfl rfl rfl ?_
    refine r_iconst (v := 1) (p := 69) rfl rfl rfl ?_
    refine r_istore_n (p := 70) rfl rfl rfl ?_
    obtain ⟨hF3, hM3⟩ := m2 hW
    have eo : oRn b = ((exs (prs b.2.2.1 25 (spc b.2.2.1 0)).1 (prs b.2.2.1 25 (spc b.2.2.1 0)).1.length 0 b.1).1, ((exs (prs b.2.2.1 25 (spc b.2.2.1 0)).1 (prs b.2.2.1 25 (spc b.2.2.1 0)).1.length 0 b.1).2, b.2)) := by unfold oRn; rw [hW]
    rw [eo] at hQ
    refine lp_X7_run hp.1 (hp.2 hW) _ 0 b.1 (uF F2 34 23 1) M2 (Nat.zero_add _) (HR.fr (fun k hk => uF_nk (by omega)) (fun _ _ _ _ => rfl)) hI hF3 rfl hM3 (fun F4 M4 R4 f4 => ?_)
    have e2 : ∀ k, 22 ≤ k → k ≠ 29 → k ≠ 23 → k < 34 → (uF F4 34 23 0) 34 k = F 34 k := fun k a1 a2 a3 a4 => (uF_nk (by omega)).trans ((f4.1 34 k (by omega)).trans ((uF_nk (by omega)).trans (g.1 34 k (by omega))))
    have e3 : ∀ a i, 45 ≤ a → a ≤ 47 → M4 a i = M a i := fun a i h1 h2 => (f4.2 a i (by omega)).trans (g.2 a i (by omega))
    refine hQ _ _ L ⟨R4.fr (fun k hk => uF_nk (by omega)) (fun _ _ _ _ => rfl), fun k hk => (e3 _ _ (by omega) (by omega)).trans (H.2.1 k hk), rfl, ?_, ?_⟩ ⟨fun a k ha => (uF_ne ha).trans ((f4.1 a k (Or.inl ha)).trans ((uF_ne ha).trans (g.1 a k (Or.inl ha)))), fun a i ha => (f4.2 a i (by omega)).trans (g.2 a i (by omega))⟩
    · show LL ((uF F4 34 23 0) 34 25) (M4 46) b.2.2.1
      rw [e2 25 (by omega) (by omega) (by omega) (by omega)]
      exact H.2.2.2.1.fr (fun i => e3 _ _ (by omega) (by omega))
    · show LL ((uF F4 34 23 0) 34 27) (M4 47) b.2.2.2
      rw [e2 27 (by omega) (by omega) (by omega) (by omega)]
      exact H.2.2.2.2.fr (fun i => e3 _ _ (by omega) (by omega))
  · refine r_bipush (v := (-10)) (p := 55) rfl rfl rfl ?_
    refine r_aload_n (p := 56) rfl rfl rfl ?_
    refine r_getI (p := 59) rfl rfl rfl rfl ?_
    refine r_isub (p := 60) rfl rfl ?_
    have hW : ∃ e, (prs b.2.2.1 25 (spc b.2.2.1 0)).2 = some e := by
      cases hW : (prs b.2.2.1 25 (spc b.2.2.1 0)).2 with
      | none => exact absurd (by rw [hF2, hW]; rfl) c1
      | some e => exact ⟨e, rfl⟩
    obtain ⟨e, hW⟩ := hW
    have eo : oRn b = (-10 - nI e, b) := by unfold oRn; rw [hW]
    rw [eo] at hQ
    rw [show F2 34 36 = nI e by rw [hF2, hW]; rfl]
    exact r_ireturn rfl trivial (hQ F2 M2 L ⟨HR, fun k hk => (g.2 _ _ (by omega)).trans (H.2.1 k hk), (g.1 _ _ (by omega)).trans H.2.2.1, by rw [g.1 _ _ (by omega)]; exact H.2.2.2.1.fr (fun i => g.2 _ _ (by omega)), by rw [g.1 _ _ (by omega)]; exact H.2.2.2.2.fr (fun i => g.2 _ _ (by omega))⟩ ⟨fun a k ha => g.1 a k (Or.inl ha), fun a i ha => g.2 a i (by omega)⟩)
