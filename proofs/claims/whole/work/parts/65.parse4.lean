set_option maxRecDepth 100000 in
theorem s_X5_parseCommand {d : Nat} {Y : mY} {F : mF} {M : mM} {L : mL} {t : List Int32} {p c : Nat} {cs : List (Nat × List Int32)} {Q : Option Value → mW → Prop} (H : PS t F M p none c) (hE : eOk (mXY Y)) (hc : c < 25) (hcs : cs.length = c) (hM : CM M cs) (hQ : (∀ F' M', PS t F' M' (spc t (cmd t (spc t p)).2.2.1) (cmd t (spc t p)).2.2.2 (if (cmd t (spc t p)).1 = 6 then c else c + 1) → fP F M F' M' → ((cmd t (spc t p)).2.2.2 = none → CM M' (cs ++ [((cmd t (spc t p)).1, (cmd t (spc t p)).2.1)])) → Q none (mXY Y, F', M', L))) : Cw (d + 8) 157 [.ref 29] (mXY Y, F, M, L) Q := by
  refine Cw_in rfl rfl ?_
  refine r_aload_n (p := 1) rfl rfl rfl ?_
  refine r_cV (p := 4) rfl rfl rfl (Nat.le_of_ble_eq_true rfl) rfl (s_X5_skip H (fun F1 R1 f1 => ?_))
  refine r_aload_n (p := 5) rfl rfl rfl ?_
  refine r_cV (p := 8) rfl rfl rfl (Nat.le_of_ble_eq_true rfl) rfl (s_X5_readWord R1 hE (fun F2 R2 f2 => ?_))
  have hw6 : wrd t (spc t p) (lts t (spc t p)) ≤ 6 := by unfold wrd; split; omega; exact wid_le
  rcases (show wrd t (spc t p) (lts t (spc t p)) = 0 ∨ wrd t (spc t p) (lts t (spc t p)) = 1 ∨ wrd t (spc t p) (lts t (spc t p)) = 2 ∨ wrd t (spc t p) (lts t (spc t p)) = 3 ∨ wrd t (spc t p) (lts t (spc t p)) = 4 ∨ wrd t (spc t p) (lts t (spc t p)) = 5 ∨ wrd t (spc t p) (lts t (spc t p)) = 6 by omega) with ew | ew | ew | ew | ew | ew | ew
  · rw [ew] at R2 ⊢
    exact pc_w0 H hE hc hcs hM ew R2 (f1.tr f2) hQ
  · rw [ew] at R2 ⊢
    exact pc_w1 H hE hc hcs hM ew R2 (f1.tr f2) hQ
  · rw [ew] at R2 ⊢
    exact pc_w2 H hE hc hcs hM ew R2 (f1.tr f2) hQ
  · rw [ew] at R2 ⊢
    exact pc_w3 H hE hc hcs hM ew R2 (f1.tr f2) hQ
  · rw [ew] at R2 ⊢
    exact pc_w4 H hE hc hcs hM ew R2 (f1.tr f2) hQ
  · rw [ew] at R2 ⊢
    exact pc_w5 H hE hc hcs hM ew R2 (f1.tr f2) hQ
  · rw [ew] at R2 ⊢
    exact pc_w6 H hE hc hcs hM ew R2 (f1.tr f2) hQ
set_option maxRecDepth 100000 in
theorem parse_end {d : Nat} {Y : mY} {F : mF} {M : mM} {L : mL} {t : List Int32} {p c k : Nat} {W : Option Nat} {Q : Option Value → mW → Prop} (H : PS t F M p W c) (h : W = none → ¬ p < t.length) (hQ : Q (some (.int (wv W))) (mXY Y, F, M, L)) : Wp (d + 8) tX5_parse 22 [some (.ref 29), some (.int (nI k))] [] (mXY Y, F, M, L) Q := by
  have h3 := H.2.2.2.2.2
  have h5 := H.2.2.1
  refine r_iload_n (p := 23) rfl rfl rfl ?_
  refine r_bipush (v := 25) (p := 25) rfl rfl rfl ?_
  refine r_icmp_ge (p := 28) rfl rfl (fun c1 => ?_) (fun c1 => ?_)
  · refine r_aload_n (p := 59) rfl rfl rfl ?_
    refine r_getI (p := 62) rfl rfl rfl rfl ?_
    rw [h5]
    exact r_ireturn rfl trivial hQ
  · refine r_aload_n (p := 29) rfl rfl rfl ?_
    refine r_getI (p := 32) rfl rfl rfl rfl ?_
    refine r_bipush (v := (-5)) (p := 34) rfl rfl rfl ?_
    refine r_icmp_ne (p := 37) rfl rfl (fun c2 => ?_) (fun c2 => ?_)
    · refine r_aload_n (p := 59) rfl rfl rfl ?_
      refine r_getI (p := 62) rfl rfl rfl rfl ?_
      rw [h5]
      exact r_ireturn rfl trivial hQ
    · refine r_aload_n (p := 38) rfl rfl rfl ?_
      refine r_getI (p := 41) rfl rfl rfl rfl ?_
      rw [H.2.1]
      refine r_aload_n (p := 42) rfl rfl rfl ?_
      refine r_getI (p := 45) rfl rfl rfl rfl ?_
      rw [H.1.1]
      refine r_icmp_ge (p := 48) rfl rfl (fun c3 => ?_) (fun c3 => ?_)
      · refine r_aload_n (p := 59) rfl rfl rfl ?_
        refine r_getI (p := 62) rfl rfl rfl rfl ?_
        rw [h5]
        exact r_ireturn rfl trivial hQ
      · have hW : W = none := by
          cases hW : W with
          | none => rfl
          | some x =>
            rw [hW] at h5
            have hx := H.2.2.2.2.1 x hW
            exact absurd (show nI x = -5 from h5.symm.trans c2) (fun q => nI_pos (n := x) (by omega) (by rw [q]; decide))
        exact absurd (Classical.byContradiction fun q => h hW (Nat.lt_of_not_le fun z => q (nI_le z (by omega)))) c3
set_option maxRecDepth 100000 in
theorem lp_X5_parse {d : Nat} {Y : mY} {L : mL} {t : List Int32} {Q : Option Value → mW → Prop} (hE : eOk (mXY Y)) :
    ∀ (f k p : Nat) (cs : List (Nat × List Int32)) (F : mF) (M : mM), k + f = 25 → PS t F M p none k → cs.length = k → CM M cs → 6 * k ≤ p → p < t.length → spc t p = p → (∀ F' M', fP F M F' M' → ((cs ++ (prs t f p).1, (prs t f p).2).2 = none → F' 29 6 = nI (cs ++ (prs t f p).1, (prs t f p).2).1.length ∧ CM M' (cs ++ (prs t f p).1, (prs t f p).2).1) → Q (some (.int (wv (cs ++ (prs t f p).1, (prs t f p).2).2))) (mXY Y, F', M', L)) → Wp (d + 8) tX5_parse 22 [some (.ref 29), some (.int (nI k))] [] (mXY Y, F, M, L) Q
  | 0, k, p, cs, F, M, hk, H, hl, hM, h6, hp, hs, hQ => by
    have h3 := H.2.2.2.2.2
    omega
  | f + 1, k, p, cs, F, M, hk, H, hl, hM, h6, hp, hs, hQ => by
    have h3 := H.2.2.2.2.2
    refine r_iload_n (p := 23) rfl rfl rfl ?_
    refine r_bipush (v := 25) (p := 25) rfl rfl rfl ?_
    refine r_icmp_ge (p := 28) rfl rfl (fun c1 => ?_) (fun c1 => ?_)
    · exact absurd c1 (nI_ge (a := k) (b := 25) (by omega) (by omega))
    · refine r_aload_n (p := 29) rfl rfl rfl ?_
      refine r_getI (p := 32) rfl rfl rfl rfl ?_
      rw [H.2.2.1]
      refine r_bipush (v := (-5)) (p := 34) rfl rfl rfl ?_
      refine r_icmp_ne (p := 37) rfl rfl (fun c2 => ?_) (fun c2 => ?_)
      · exact absurd rfl c2
      · refine r_aload_n (p := 38) rfl rfl rfl ?_
        refine r_getI (p := 41) rfl rfl rfl rfl ?_
        rw [H.2.1]
        refine r_aload_n (p := 42) rfl rfl rfl ?_
        refine r_getI (p := 45) rfl rfl rfl rfl ?_
        rw [H.1.1]
        refine r_icmp_ge (p := 48) rfl rfl (fun c3 => ?_) (fun c3 => ?_)
        · exact absurd c3 (nI_ge hp (by omega))
        · refine r_aload_n (p := 49) rfl rfl rfl ?_
          refine r_cV (p := 52) rfl rfl rfl (Nat.le_of_ble_eq_true rfl) rfl (s_X5_parseCommand (cs := cs) H hE (by omega) hl hM (fun F1 M1 R1 f1 m1 => ?_))
          refine r_iinc (v := (nI (k + 1))) (p := 55) rfl rfl (nI_1 k) rfl rfl ?_
          refine r_goto rfl ?_
          rw [hs] at R1 m1
          cases hW : (cmd t p).2.2.2 with
          | some e =>
            have ep : prs t (f + 1) p = ([], some e) := by unfold prs; rw [hW]
            rw [ep] at hQ
            rw [hW] at R1
            exact parse_end R1 (fun z => by cases z) (hQ _ _ f1 (fun z => by cases z))
          | none =>
            have hc := cmd_p hW
            rw [hW] at R1
            rw [if_neg (by omega)] at R1
            have m2 := m1 hW
            have h7 := spc_ge (t := t) (p := (cmd t p).2.2.1)
            by_cases hlt : spc t (cmd t p).2.2.1 < t.length
            · have ep : prs t (f + 1) p = (((cmd t p).1, (cmd t p).2.1) :: (prs t f (spc t (cmd t p).2.2.1)).1, (prs t f (spc t (cmd t p).2.2.1)).2) := by
                rw [prs, hW]
                exact if_pos hlt
              rw [ep] at hQ
              refine lp_X5_parse hE f (k + 1) _ (cs ++ [((cmd t p).1, (cmd t p).2.1)]) F1 M1 (by omega) R1 (by simp [hl]) m2 (by omega) hlt spc_spc (fun F' M' fr hr => hQ F' M' (f1.tr fr) (fun z => ?_))
              have := hr z
              rw [List.append_assoc] at this
              exact this
            · have ep : prs t (f + 1) p = ([((cmd t p).1, (cmd t p).2.1)], none) := by
                rw [prs, hW]
                exact if_neg hlt
              rw [ep] at hQ
              exact parse_end R1 (fun _ => hlt) (hQ _ _ f1 (fun _ => ⟨by rw [R1.2.2.2.1]; simp [hl], m2⟩))
set_option maxRecDepth 100000 in
theorem s_X5_parse {d : Nat} {Y : mY} {F : mF} {M : mM} {L : mL} {t : List Int32} {Q : Option Value → mW → Prop} (ht : LL (F 29 3) (M 32) t) (h150 : t.length ≤ 150) (hE : eOk (mXY Y)) (hQ : (∀ F' M', fP F M F' M' → ((prs t 25 (spc t 0)).2 = none → F' 29 6 = nI (prs t 25 (spc t 0)).1.length ∧ CM M' (prs t 25 (spc t 0)).1) → Q (some (.int (wv (prs t 25 (spc t 0)).2))) (mXY Y, F', M', L))) : Cw (d + 9) 156 [.ref 29] (mXY Y, F, M, L) Q := by
  have H0 : PS t (uF (uF (uF F 29 4 0) 29 5 (-5)) 29 6 0) M 0 none 0 := ⟨ht, rfl, rfl, rfl, (fun e h => by cases h), h150, Nat.zero_le _⟩
  have f0 : fP F M (uF (uF (uF F 29 4 0) 29 5 (-5)) 29 6 0) M := ((fQ.u (Or.inl rfl)).tr (fQ.u (Or.inr rfl))).p.tr fP.c
  refine Cw_in rfl rfl ?_
  refine r_aload_n (p := 1) rfl rfl rfl ?_
  refine r_iconst (v := 0) (p := 2) rfl rfl rfl ?_
  refine r_putI (p := 5) rfl rfl rfl rfl ?_
  refine r_aload_n (p := 6) rfl rfl rfl ?_
  refine r_bipush (v := (-5)) (p := 8) rfl rfl rfl ?_
  refine r_putI (p := 11) rfl rfl rfl rfl ?_
  refine r_aload_n (p := 12) rfl rfl rfl ?_
  refine r_iconst (v := 0) (p := 13) rfl rfl rfl ?_
  refine r_putI (p := 16) rfl rfl rfl rfl ?_
  refine r_aload_n (p := 17) rfl rfl rfl ?_
  refine r_cV (p := 20) rfl rfl rfl (Nat.le_of_ble_eq_true rfl) rfl (s_X5_parseCommand (cs := []) H0 hE (by omega) rfl (fun k hk => absurd hk (Nat.not_lt_zero _)) (fun F1 M1 R1 f1 m1 => ?_))
  refine r_iconst (v := 1) (p := 21) rfl rfl rfl ?_
  refine r_istore_n (p := 22) rfl rfl rfl ?_
  cases hW : (cmd t (spc t 0)).2.2.2 with
  | some e =>
    have ep : prs t 25 (spc t 0) = ([], some e) := by unfold prs; rw [hW]
    rw [ep] at hQ
    rw [hW] at R1
    exact parse_end (k := 1) R1 (fun z => by cases z) (hQ _ _ (f0.tr f1) (fun z => by cases z))
  | none =>
    have hc := cmd_p hW
    rw [hW] at R1
    rw [if_neg (by omega)] at R1
    have m2 := m1 hW
    have h7 := spc_ge (t := t) (p := (cmd t (spc t 0)).2.2.1)
    by_cases hlt : spc t (cmd t (spc t 0)).2.2.1 < t.length
    · have ep : prs t 25 (spc t 0) = (((cmd t (spc t 0)).1, (cmd t (spc t 0)).2.1) :: (prs t 24 (spc t (cmd t (spc t 0)).2.2.1)).1, (prs t 24 (spc t (cmd t (spc t 0)).2.2.1)).2) := by
        rw [prs, hW]
        exact if_pos hlt
      rw [ep] at hQ
      exact lp_X5_parse hE 24 1 _ [((cmd t (spc t 0)).1, (cmd t (spc t 0)).2.1)] F1 M1 (by omega) R1 rfl m2 (by omega) hlt spc_spc (fun F' M' fr hr => hQ F' M' (f0.tr (f1.tr fr)) hr)
    · have ep : prs t 25 (spc t 0) = ([((cmd t (spc t 0)).1, (cmd t (spc t 0)).2.1)], none) := by
        rw [prs, hW]
        exact if_neg hlt
      rw [ep] at hQ
      exact parse_end (k := 1) R1 (fun _ => hlt) (hQ _ _ (f0.tr f1) (fun _ => ⟨R1.2.2.2.1, m2⟩))
