set_option maxRecDepth 100000 in
theorem lp_X7_word {d : Nat} {Y : mY} {M : mM} {L : mL} {t : List Int32} {c : Nat} {W : Option Nat} {Q : Option Value → mW → Prop} {x : Int32} :
    ∀ (n p : Nat) (F : mF), t.length - p = n → MS t F M p W c → (∀ F', MS t F' M (lts t p) W c → fN F F' → Wp (d + 2) tX7_readWord 36 [some (.ref 34), some (.int x), none] [] (mXY Y, F', M, L) Q) → Wp (d + 2) tX7_readWord 9 [some (.ref 34), some (.int x), none] [] (mXY Y, F, M, L) Q
  | 0, p, F, hn, H, hQ => by
    have h3 := H.2.2.2.2.2
    refine r_aload_n (p := 10) rfl rfl rfl ?_
    refine r_cV (p := 13) rfl rfl rfl (Nat.le_of_ble_eq_true rfl) rfl (s_X7_here H ?_)
    refine r_bipush (v := 97) (p := 15) rfl rfl rfl ?_
    refine r_bipush (v := 122) (p := 17) rfl rfl rfl ?_
    refine r_cS1 (p := 20) rfl rfl (Nat.le_of_ble_eq_true rfl) rfl (s_X7_in ?_)
    rw [in_eq, rgm_eq (by decide)]
    refine r_if_eq (p := 23) rfl rfl (fun c1 => ?_) (fun c1 => ?_)
    · have e : lts t p = p := lts_no (fun q => absurd c1 (by rw [if_pos q]; decide))
      rw [e] at hQ
      exact hQ F H fN.rf
    · have hq : rgq t p 97 122 := Classical.byContradiction fun q => c1 (if_neg q)
      exact absurd hq.1 (by omega)
  | n + 1, p, F, hn, H, hQ => by
    have h3 := H.2.2.2.2.2
    refine r_aload_n (p := 10) rfl rfl rfl ?_
    refine r_cV (p := 13) rfl rfl rfl (Nat.le_of_ble_eq_true rfl) rfl (s_X7_here H ?_)
    refine r_bipush (v := 97) (p := 15) rfl rfl rfl ?_
    refine r_bipush (v := 122) (p := 17) rfl rfl rfl ?_
    refine r_cS1 (p := 20) rfl rfl (Nat.le_of_ble_eq_true rfl) rfl (s_X7_in ?_)
    rw [in_eq, rgm_eq (by decide)]
    refine r_if_eq (p := 23) rfl rfl (fun c1 => ?_) (fun c1 => ?_)
    · have e : lts t p = p := lts_no (fun q => absurd c1 (by rw [if_pos q]; decide))
      rw [e] at hQ
      exact hQ F H fN.rf
    · have hq : rgq t p 97 122 := Classical.byContradiction fun q => c1 (if_neg q)
      have H1 := H.mv hq.1
      rw [lts_go hq] at hQ
      refine r_aload_n (p := 24) rfl rfl rfl ?_
      refine r_dup (p := 25) rfl rfl rfl ?_
      refine r_getI (p := 28) rfl rfl rfl rfl ?_
      refine r_iconst (v := 1) (p := 29) rfl rfl rfl ?_
      refine r_iadd (p := 30) rfl rfl ?_
      refine r_putI (p := 33) rfl rfl rfl rfl ?_
      refine r_goto rfl ?_
      exact lp_X7_word n (p + 1) _ (by omega) H1 (fun F' R f => hQ F' R ((fN.u (Or.inl rfl)).tr f))
theorem slc_ltr {t : List Int32} {p : Nat} (h : lts t p ≤ t.length) : ∀ x ∈ slc t p (lts t p), ltr x := by
  intro x hx
  obtain ⟨k, hk, e⟩ := List.getElem_of_mem hx
  have hl := slc_len (t := t) (lts_ge (p := p)) h
  have g := slc_get (t := t) (p := p) (q := lts t p) (k := k) h (by omega)
  have r := lts_all (t := t) (p := p) (k := p + k) (by omega) (by omega)
  have : x = t.getD (p + k) 0 := by rw [← g, ← e]; simp [List.getD_eq_getElem?_getD, List.getElem?_eq_getElem hk]
  rw [this]
  exact r.2
set_option maxRecDepth 100000 in
theorem s_X7_readWord {d : Nat} {Y : mY} {F : mF} {M : mM} {L : mL} {t : List Int32} {p c : Nat} {W : Option Nat} {Q : Option Value → mW → Prop} (H : MS t F M p W c) (hW : W = none) (hQ : (∀ F', MS t F' M (lts t (spc t p)) (if wrd t (spc t p) (lts t (spc t p)) = 6 then some (spc t p) else none) c → fN F F' → Q (some (.int (nI (if wrd t (spc t p) (lts t (spc t p)) = 6 then 0 else wrd t (spc t p) (lts t (spc t p)) + 1)))) (mXY Y, F', M, L))) : Cw (d + 3) 64 [.ref 34] (mXY Y, F, M, L) Q := by
  subst hW
  have h3 := H.2.2.2.2.2
  have hs := spc_le h3.2
  have hg := lts_ge (t := t) (p := spc t p)
  have hl := lts_le hs
  refine Cw_in rfl rfl ?_
  refine r_aload_n (p := 1) rfl rfl rfl ?_
  refine r_cV (p := 4) rfl rfl rfl (Nat.le_of_ble_eq_true rfl) rfl (s_X7_skip H (fun F1 R1 f1 => ?_))
  refine r_aload_n (p := 5) rfl rfl rfl ?_
  refine r_getI (p := 8) rfl rfl rfl rfl ?_
  rw [R1.2.1]
  refine r_istore_n (p := 9) rfl rfl rfl ?_
  refine lp_X7_word _ (spc t p) F1 rfl R1 (fun F2 R2 f2 => ?_)
  refine r_aload_n (p := 37) rfl rfl rfl ?_
  refine r_getI (p := 40) rfl rfl rfl rfl ?_
  rw [R2.2.1]
  refine r_iload_n (p := 41) rfl rfl rfl ?_
  refine r_icmp_ne (p := 44) rfl rfl (fun c1 => ?_) (fun c1 => ?_)
  · refine r_aload_n (p := 49) rfl rfl rfl ?_
    refine r_aload_n (p := 50) rfl rfl rfl ?_
    refine r_iload_n (p := 51) rfl rfl rfl ?_
    refine r_aload_n (p := 52) rfl rfl rfl ?_
    refine r_getI (p := 55) rfl rfl rfl rfl ?_
    rw [R2.2.1]
    refine r_cV (p := 58) rfl rfl rfl (Nat.le_of_ble_eq_true rfl) rfl (s_X7_wordCode R2.1 h3.1 hl hg ?_)
    refine r_cV (p := 61) rfl rfl rfl (Nat.le_of_ble_eq_true rfl) rfl (s_X7_commandOf (Y := Y) ?_)
    refine r_istore_n (p := 62) rfl rfl rfl ?_
    have ex : wrd t (spc t p) (lts t (spc t p)) = wid (slc t (spc t p) (lts t (spc t p))) := if_neg (fun q => c1 (by rw [← q]))
    have ecm := cmo_wid (l := slc t (spc t p) (lts t (spc t p))) (fun x hx => slc_ltr hl x hx)
    rw [slc_len hg hl, ← ex] at ecm
    rw [ecm]
    refine r_iload_n (p := 63) rfl rfl rfl ?_
    refine r_if_ne (p := 66) rfl rfl (fun c2 => ?_) (fun c2 => ?_)
    · have ew : ¬ wrd t (spc t p) (lts t (spc t p)) = 6 := fun q => c2 (by rw [if_pos q]; rfl)
      refine r_iload_n (p := 72) rfl rfl rfl ?_
      rw [if_neg ew, if_neg ew] at hQ
      rw [if_neg ew]
      exact r_ireturn rfl trivial (hQ _ R2 (f1.tr f2))
    · have ew : wrd t (spc t p) (lts t (spc t p)) = 6 := Classical.byContradiction fun q => by
        have z : nI (if wrd t (spc t p) (lts t (spc t p)) = 6 then 0 else wrd t (spc t p) (lts t (spc t p)) + 1) = nI 0 := c2
        rw [if_neg q] at z
        have := nI_inj (by have := wid_le (l := slc t (spc t p) (lts t (spc t p))); omega) (by omega) z
        omega
      have ez : (if wrd t (spc t p) (lts t (spc t p)) = 6 then 0 else wrd t (spc t p) (lts t (spc t p)) + 1) = 0 := if_pos ew
      refine r_aload_n (p := 67) rfl rfl rfl ?_
      refine r_iload_n (p := 68) rfl rfl rfl ?_
      refine r_cV (p := 71) rfl rfl rfl (Nat.le_of_ble_eq_true rfl) rfl (s_X7_wrongAt (e := spc t p) R2 (by omega) rfl (fun F3 R3 f3 => ?_))
      refine r_iload_n (p := 72) rfl rfl rfl ?_
      rw [if_pos ew, if_pos ew] at hQ
      rw [ez]
      exact r_ireturn rfl trivial (hQ _ R3 (f1.tr (f2.tr f3)))
  · refine r_iconst (v := 0) (p := 45) rfl rfl rfl ?_
    refine r_goto rfl ?_
    refine r_istore_n (p := 62) rfl rfl rfl ?_
    have ew : wrd t (spc t p) (lts t (spc t p)) = 6 := if_pos (nI_inj (by omega) (by omega) c1).symm
    refine r_iload_n (p := 63) rfl rfl rfl ?_
    refine r_if_ne (p := 66) rfl rfl (fun c => absurd c (by decide)) (fun _ => ?_)
    refine r_aload_n (p := 67) rfl rfl rfl ?_
    refine r_iload_n (p := 68) rfl rfl rfl ?_
    refine r_cV (p := 71) rfl rfl rfl (Nat.le_of_ble_eq_true rfl) rfl (s_X7_wrongAt (e := spc t p) R2 (by omega) rfl (fun F3 R3 f3 => ?_))
    refine r_iload_n (p := 72) rfl rfl rfl ?_
    rw [if_pos ew, if_pos ew] at hQ
    exact r_ireturn rfl trivial (hQ _ R3 (f1.tr (f2.tr f3)))
set_option maxRecDepth 100000 in
theorem s_X7_readNumber {d : Nat} {Y : mY} {F : mF} {M : mM} {L : mL} {t : List Int32} {p c : Nat} {W : Option Nat} {Q : Option Value → mW → Prop} (H : MS t F M p W c) {g : Bool} (hW : W = none) (hg : g = true → ¬ rgq t p 48 57) (hQ : (∀ F' p' v, MS t F' M p' (num t (spc t p)).2.2 c → fN F F' → ((num t (spc t p)).2.2 = none → p' = (num t (spc t p)).2.1 ∧ v = (num t (spc t p)).1) → Q (some (.int v)) (mXY Y, F', M, L))) : Cw (d + 3) 65 [.ref 34, .int (if g = true then 1 else 0)] (mXY Y, F, M, L) Q := by
  subst hW
  have h3 := H.2.2.2.2.2
  have hs := spc_le h3.2
  refine Cw_in rfl rfl ?_
  refine r_aload_n (p := 1) rfl rfl rfl ?_
  refine r_getI (p := 4) rfl rfl rfl rfl ?_
  rw [H.2.1]
  refine r_istore_n (p := 5) rfl rfl rfl ?_
  refine r_aload_n (p := 6) rfl rfl rfl ?_
  refine r_cV (p := 9) rfl rfl rfl (Nat.le_of_ble_eq_true rfl) rfl (s_X7_skip H (fun F1 H0 f1 => ?_))
  refine r_aload_n (p := 10) rfl rfl rfl ?_
  refine r_cV (p := 13) rfl rfl rfl (Nat.le_of_ble_eq_true rfl) rfl (s_X7_here H0 ?_)
  refine r_bipush (v := 48) (p := 15) rfl rfl rfl ?_
  refine r_bipush (v := 57) (p := 17) rfl rfl rfl ?_
  refine r_cS1 (p := 20) rfl rfl (Nat.le_of_ble_eq_true rfl) rfl (s_X7_in ?_)
  rw [in_eq, rgm_eq (by decide)]
  refine r_if_eq (p := 23) rfl rfl (fun c1 => ?_) (fun c1 => ?_)
  · have e : num t (spc t p) = (0, spc t p, some (spc t p)) := if_pos (fun q => absurd c1 (by rw [if_pos q]; decide))
    rw [e] at hQ
    refine r_aload_n (p := 36) rfl rfl rfl ?_
    refine r_aload_n (p := 37) rfl rfl rfl ?_
    refine r_getI (p := 40) rfl rfl rfl rfl ?_
    rw [H0.2.1]
    refine r_cV (p := 43) rfl rfl rfl (Nat.le_of_ble_eq_true rfl) rfl (s_X7_wrongAt (e := (spc t p)) H0 (by omega) rfl (fun F9 R9 f9 => ?_))
    refine r_iconst (v := 0) (p := 44) rfl rfl rfl ?_
    exact r_ireturn rfl trivial (hQ _ _ _ R9 (f1.tr f9) (fun z => by cases z))
  · refine r_iload_n (p := 24) rfl rfl rfl ?_
    refine r_if_eq (p := 27) rfl rfl (fun c2 => ?_) (fun c2 => ?_)
    · have d0 : rgq t (spc t p) 48 57 := Classical.byContradiction fun q => c1 (if_neg q)
      refine r_iconst (v := 0) (p := 46) rfl rfl rfl ?_
      refine r_istore_n (p := 47) rfl rfl rfl ?_
      refine r_aload_n (p := 48) rfl rfl rfl ?_
      refine r_getI (p := 51) rfl rfl rfl rfl ?_
      rw [H0.2.1]
      refine r_istore (p := 53) rfl rfl rfl ?_
      refine r_aload_n (p := 54) rfl rfl rfl ?_
      refine r_cV (p := 57) rfl rfl rfl (Nat.le_of_ble_eq_true rfl) rfl (s_X7_here H0 ?_)
      refine r_bipush (v := 48) (p := 59) rfl rfl rfl ?_
      refine r_bipush (v := 57) (p := 61) rfl rfl rfl ?_
      refine r_cS1 (p := 64) rfl rfl (Nat.le_of_ble_eq_true rfl) rfl (s_X7_in ?_)
      rw [in_eq, rgm_eq (by decide)]
      refine r_if_eq (p := 67) rfl rfl (fun c1 => ?_) (fun c1 => ?_)
      · exact absurd d0 (fun q => absurd c1 (by rw [if_pos q]; decide))
      · refine r_aload_n (p := 68) rfl rfl rfl ?_
        refine r_getI (p := 71) rfl rfl rfl rfl ?_
        rw [H0.2.1]
        refine r_iload (p := 73) rfl rfl rfl ?_
        refine r_iconst (v := 3) (p := 74) rfl rfl rfl ?_
        refine r_iadd (p := 75) rfl rfl ?_
        refine r_icmp_ne (p := 78) rfl rfl (fun c2 => ?_) (fun c2 => ?_)
        · refine r_bipush (v := 10) (p := 90) rfl rfl rfl ?_
          refine r_iload_n (p := 91) rfl rfl rfl ?_
          refine r_imul (p := 92) rfl rfl ?_
          refine r_aload_n (p := 93) rfl rfl rfl ?_
          refine r_cV (p := 96) rfl rfl rfl (Nat.le_of_ble_eq_true rfl) rfl (s_X7_here H0 ?_)
          rw [hm_in d0.1]
          refine r_iadd (p := 97) rfl rfl ?_
          refine r_bipush (v := 48) (p := 99) rfl rfl rfl ?_
          refine r_isub (p := 100) rfl rfl ?_
          refine r_istore_n (p := 101) rfl rfl rfl ?_
          refine r_aload_n (p := 102) rfl rfl rfl ?_
          refine r_dup (p := 103) rfl rfl rfl ?_
          refine r_getI (p := 106) rfl rfl rfl rfl ?_
          refine r_iconst (v := 1) (p := 107) rfl rfl rfl ?_
          refine r_iadd (p := 108) rfl rfl ?_
          refine r_putI (p := 111) rfl rfl rfl rfl ?_
          have H1 := H0.mv d0.1
          refine r_goto rfl ?_
          refine r_aload_n (p := 54) rfl rfl rfl ?_
          refine r_cV (p := 57) rfl rfl rfl (Nat.le_of_ble_eq_true rfl) rfl (s_X7_here H1 ?_)
          refine r_bipush (v := 48) (p := 59) rfl rfl rfl ?_
          refine r_bipush (v := 57) (p := 61) rfl rfl rfl ?_
          refine r_cS1 (p := 64) rfl rfl (Nat.le_of_ble_eq_true rfl) rfl (s_X7_in ?_)
          rw [in_eq, rgm_eq (by decide)]
          refine r_if_eq (p := 67) rfl rfl (fun c1 => ?_) (fun c1 => ?_)
          · refine r_iload_n (p := 115) rfl rfl rfl ?_
            have e : num t (spc t p) = ((va 0 (tg0 t (spc t p))), (spc t p + 1), none) := by unfold num; rw [if_neg (not_not_intro d0)]; exact if_pos (fun q => absurd c1 (by rw [if_pos q]; decide))
            rw [e] at hQ
            exact r_ireturn rfl trivial (hQ _ _ _ H1 (f1.tr (fN.u (Or.inl rfl))) (fun _ => ⟨rfl, rfl⟩))
          · have d1 : rgq t (spc t p + 1) 48 57 := Classical.byContradiction fun q => c1 (if_neg q)
            refine r_aload_n (p := 68) rfl rfl rfl ?_
            refine r_getI (p := 71) rfl rfl rfl rfl ?_
            rw [H1.2.1]
            refine r_iload (p := 73) rfl rfl rfl ?_
            refine r_iconst (v := 3) (p := 74) rfl rfl rfl ?_
            refine r_iadd (p := 75) rfl rfl ?_
            refine r_icmp_ne (p := 78) rfl rfl (fun c2 => ?_) (fun c2 => ?_)
            · refine r_bipush (v := 10) (p := 90) rfl rfl rfl ?_
              refine r_iload_n (p := 91) rfl rfl rfl ?_
              refine r_imul (p := 92) rfl rfl ?_
              refine r_aload_n (p := 93) rfl rfl rfl ?_
              refine r_cV (p := 96) rfl rfl rfl (Nat.le_of_ble_eq_true rfl) rfl (s_X7_here H1 ?_)
              rw [hm_in d1.1]
              refine r_iadd (p := 97) rfl rfl ?_
              refine r_bipush (v := 48) (p := 99) rfl rfl rfl ?_
              refine r_isub (p := 100) rfl rfl ?_
              refine r_istore_n (p := 101) rfl rfl rfl ?_
              refine r_aload_n (p := 102) rfl rfl rfl ?_
              refine r_dup (p := 103) rfl rfl rfl ?_
              refine r_getI (p := 106) rfl rfl rfl rfl ?_
              refine r_iconst (v := 1) (p := 107) rfl rfl rfl ?_
              refine r_iadd (p := 108) rfl rfl ?_
              refine r_putI (p := 111) rfl rfl rfl rfl ?_
              have H2 := H1.mv d1.1
              refine r_goto rfl ?_
              refine r_aload_n (p := 54) rfl rfl rfl ?_
              refine r_cV (p := 57) rfl rfl rfl (Nat.le_of_ble_eq_true rfl) rfl (s_X7_here H2 ?_)
              refine r_bipush (v := 48) (p := 59) rfl rfl rfl ?_
              refine r_bipush (v := 57) (p := 61) rfl rfl rfl ?_
              refine r_cS1 (p := 64) rfl rfl (Nat.le_of_ble_eq_true rfl) rfl (s_X7_in ?_)
              rw [in_eq, rgm_eq (by decide)]
              refine r_if_eq (p := 67) rfl rfl (fun c1 => ?_) (fun c1 => ?_)
              · refine r_iload_n (p := 115) rfl rfl rfl ?_
                have e : num t (spc t p) = ((va (va 0 (tg0 t (spc t p))) (tg0 t (spc t p + 1))), (spc t p + 2), none) := by unfold num; rw [if_neg (not_not_intro d0), if_neg (not_not_intro d1)]; exact if_pos (fun q => absurd c1 (by rw [if_pos q]; decide))
                rw [e] at hQ
                exact r_ireturn rfl trivial (hQ _ _ _ H2 ((f1.tr (fN.u (Or.inl rfl))).tr (fN.u (Or.inl rfl))) (fun _ => ⟨rfl, rfl⟩))
              · have d2 : rgq t (spc t p + 2) 48 57 := Classical.byContradiction fun q => c1 (if_neg q)
                refine r_aload_n (p := 68) rfl rfl rfl ?_
                refine r_getI (p := 71) rfl rfl rfl rfl ?_
                rw [H2.2.1]
                refine r_iload (p := 73) rfl rfl rfl ?_
                refine r_iconst (v := 3) (p := 74) rfl rfl rfl ?_
                refine r_iadd (p := 75) rfl rfl ?_
                refine r_icmp_ne (p := 78) rfl rfl (fun c2 => ?_) (fun c2 => ?_)
                · refine r_bipush (v := 10) (p := 90) rfl rfl rfl ?_
                  refine r_iload_n (p := 91) rfl rfl rfl ?_
                  refine r_imul (p := 92) rfl rfl ?_
                  refine r_aload_n (p := 93) rfl rfl rfl ?_
                  refine r_cV (p := 96) rfl rfl rfl (Nat.le_of_ble_eq_true rfl) rfl (s_X7_here H2 ?_)
                  rw [hm_in d2.1]
                  refine r_iadd (p := 97) rfl rfl ?_
                  refine r_bipush (v := 48) (p := 99) rfl rfl rfl ?_
                  refine r_isub (p := 100) rfl rfl ?_
                  refine r_istore_n (p := 101) rfl rfl rfl ?_
                  refine r_aload_n (p := 102) rfl rfl rfl ?_
                  refine r_dup (p := 103) rfl rfl rfl ?_
                  refine r_getI (p := 106) rfl rfl rfl rfl ?_
                  refine r_iconst (v := 1) (p := 107) rfl rfl rfl ?_
                  refine r_iadd (p := 108) rfl rfl ?_
                  refine r_putI (p := 111) rfl rfl rfl rfl ?_
                  have H3 := H2.mv d2.1
                  refine r_goto rfl ?_
                  refine r_aload_n (p := 54) rfl rfl rfl ?_
                  refine r_cV (p := 57) rfl rfl rfl (Nat.le_of_ble_eq_true rfl) rfl (s_X7_here H3 ?_)
                  refine r_bipush (v := 48) (p := 59) rfl rfl rfl ?_
                  refine r_bipush (v := 57) (p := 61) rfl rfl rfl ?_
                  refine r_cS1 (p := 64) rfl rfl (Nat.le_of_ble_eq_true rfl) rfl (s_X7_in ?_)
                  rw [in_eq, rgm_eq (by decide)]
                  refine r_if_eq (p := 67) rfl rfl (fun c1 => ?_) (fun c1 => ?_)
                  · refine r_iload_n (p := 115) rfl rfl rfl ?_
                    have e : num t (spc t p) = ((va (va (va 0 (tg0 t (spc t p))) (tg0 t (spc t p + 1))) (tg0 t (spc t p + 2))), (spc t p + 3), none) := by unfold num; rw [if_neg (not_not_intro d0), if_neg (not_not_intro d1), if_neg (not_not_intro d2), if_neg (fun q => absurd c1 (by rw [if_pos q]; decide))]
                    rw [e] at hQ
                    exact r_ireturn rfl trivial (hQ _ _ _ H3 (((f1.tr (fN.u (Or.inl rfl))).tr (fN.u (Or.inl rfl))).tr (fN.u (Or.inl rfl))) (fun _ => ⟨rfl, rfl⟩))
                  · have d3 : rgq t (spc t p + 3) 48 57 := Classical.byContradiction fun q => c1 (if_neg q)
                    refine r_aload_n (p := 68) rfl rfl rfl ?_
                    refine r_getI (p := 71) rfl rfl rfl rfl ?_
                    rw [H3.2.1]
                    refine r_iload (p := 73) rfl rfl rfl ?_
                    refine r_iconst (v := 3) (p := 74) rfl rfl rfl ?_
                    refine r_iadd (p := 75) rfl rfl ?_
                    refine r_icmp_ne (p := 78) rfl rfl (fun c2 => ?_) (fun c2 => ?_)
                    · exact absurd (show nI (spc t p + 3) = nI (spc t p) + 3 from (nI_add _ 3).symm) c2
                    · refine r_aload_n (p := 79) rfl rfl rfl ?_
                      refine r_aload_n (p := 80) rfl rfl rfl ?_
                      refine r_getI (p := 83) rfl rfl rfl rfl ?_
                      rw [H3.2.1]
                      refine r_cV (p := 86) rfl rfl rfl (Nat.le_of_ble_eq_true rfl) rfl (s_X7_wrongAt (e := (spc t p + 3)) H3 (by have := d3.1; omega) rfl (fun F9 R9 f9 => ?_))
                      refine r_iconst (v := 0) (p := 87) rfl rfl rfl ?_
                      have e : num t (spc t p) = ((va (va (va 0 (tg0 t (spc t p))) (tg0 t (spc t p + 1))) (tg0 t (spc t p + 2))), (spc t p + 3), some (spc t p + 3)) := by unfold num; rw [if_neg (not_not_intro d0), if_neg (not_not_intro d1), if_neg (not_not_intro d2), if_pos d3]
                      rw [e] at hQ
                      exact r_ireturn rfl trivial (hQ _ _ _ R9 ((((f1.tr (fN.u (Or.inl rfl))).tr (fN.u (Or.inl rfl))).tr (fN.u (Or.inl rfl))).tr f9) (fun z => by cases z))
                · exact absurd (nI_inj (a := spc t p + 2) (b := spc t p + 3) (by omega) (by omega) (c2.trans (nI_add _ 3))) (by omega)
            · exact absurd (nI_inj (a := spc t p + 1) (b := spc t p + 3) (by omega) (by omega) (c2.trans (nI_add _ 3))) (by omega)
        · exact absurd (nI_inj (a := spc t p) (b := spc t p + 3) (by omega) (by omega) (c2.trans (nI_add _ 3))) (by omega)
    · refine r_aload_n (p := 28) rfl rfl rfl ?_
      refine r_getI (p := 31) rfl rfl rfl rfl ?_
      rw [H0.2.1]
      refine r_iload_n (p := 32) rfl rfl rfl ?_
      refine r_icmp_ne (p := 35) rfl rfl (fun c3 => ?_) (fun c3 => ?_)
      · have d0 : rgq t (spc t p) 48 57 := Classical.byContradiction fun q => c1 (if_neg q)
        refine r_iconst (v := 0) (p := 46) rfl rfl rfl ?_
        refine r_istore_n (p := 47) rfl rfl rfl ?_
        refine r_aload_n (p := 48) rfl rfl rfl ?_
        refine r_getI (p := 51) rfl rfl rfl rfl ?_
        rw [H0.2.1]
        refine r_istore (p := 53) rfl rfl rfl ?_
        refine r_aload_n (p := 54) rfl rfl rfl ?_
        refine r_cV (p := 57) rfl rfl rfl (Nat.le_of_ble_eq_true rfl) rfl (s_X7_here H0 ?_)
        refine r_bipush (v := 48) (p := 59) rfl rfl rfl ?_
        refine r_bipush (v := 57) (p := 61) rfl rfl rfl ?_
        refine r_cS1 (p := 64) rfl rfl (Nat.le_of_ble_eq_true rfl) rfl (s_X7_in ?_)
        rw [in_eq, rgm_eq (by decide)]
        refine r_if_eq (p := 67) rfl rfl (fun c1 => ?_) (fun c1 => ?_)
        · exact absurd d0 (fun q => absurd c1 (by rw [if_pos q]; decide))
        · refine r_aload_n (p := 68) rfl rfl rfl ?_
          refine r_getI (p := 71) rfl rfl rfl rfl ?_
          rw [H0.2.1]
          refine r_iload (p := 73) rfl rfl rfl ?_
          refine r_iconst (v := 3) (p := 74) rfl rfl rfl ?_
          refine r_iadd (p := 75) rfl rfl ?_
          refine r_icmp_ne (p := 78) rfl rfl (fun c2 => ?_) (fun c2 => ?_)
          · refine r_bipush (v := 10) (p := 90) rfl rfl rfl ?_
            refine r_iload_n (p := 91) rfl rfl rfl ?_
            refine r_imul (p := 92) rfl rfl ?_
            refine r_aload_n (p := 93) rfl rfl rfl ?_
            refine r_cV (p := 96) rfl rfl rfl (Nat.le_of_ble_eq_true rfl) rfl (s_X7_here H0 ?_)
            rw [hm_in d0.1]
            refine r_iadd (p := 97) rfl rfl ?_
            refine r_bipush (v := 48) (p := 99) rfl rfl rfl ?_
            refine r_isub (p := 100) rfl rfl ?_
            refine r_istore_n (p := 101) rfl rfl rfl ?_
            refine r_aload_n (p := 102) rfl rfl rfl ?_
            refine r_dup (p := 103) rfl rfl rfl ?_
            refine r_getI (p := 106) rfl rfl rfl rfl ?_
            refine r_iconst (v := 1) (p := 107) rfl rfl rfl ?_
            refine r_iadd (p := 108) rfl rfl ?_
            refine r_putI (p := 111) rfl rfl rfl rfl ?_
            have H1 := H0.mv d0.1
            refine r_goto rfl ?_
            refine r_aload_n (p := 54) rfl rfl rfl ?_
            refine r_cV (p := 57) rfl rfl rfl (Nat.le_of_ble_eq_true rfl) rfl (s_X7_here H1 ?_)
            refine r_bipush (v := 48) (p := 59) rfl rfl rfl ?_
            refine r_bipush (v := 57) (p := 61) rfl rfl rfl ?_
            refine r_cS1 (p := 64) rfl rfl (Nat.le_of_ble_eq_true rfl) rfl (s_X7_in ?_)
            rw [in_eq, rgm_eq (by decide)]
            refine r_if_eq (p := 67) rfl rfl (fun c1 => ?_) (fun c1 => ?_)
            · refine r_iload_n (p := 115) rfl rfl rfl ?_
              have e : num t (spc t p) = ((va 0 (tg0 t (spc t p))), (spc t p + 1), none) := by unfold num; rw [if_neg (not_not_intro d0)]; exact if_pos (fun q => absurd c1 (by rw [if_pos q]; decide))
              rw [e] at hQ
              exact r_ireturn rfl trivial (hQ _ _ _ H1 (f1.tr (fN.u (Or.inl rfl))) (fun _ => ⟨rfl, rfl⟩))
            · have d1 : rgq t (spc t p + 1) 48 57 := Classical.byContradiction fun q => c1 (if_neg q)
              refine r_aload_n (p := 68) rfl rfl rfl ?_
              refine r_getI (p := 71) rfl rfl rfl rfl ?_
              rw [H1.2.1]
              refine r_iload (p := 73) rfl rfl rfl ?_
              refine r_iconst (v := 3) (p := 74) rfl rfl rfl ?_
              refine r_iadd (p := 75) rfl rfl ?_
              refine r_icmp_ne (p := 78) rfl rfl (fun c2 => ?_) (fun c2 => ?_)
              · refine r_bipush (v := 10) (p := 90) rfl rfl rfl ?_
                refine r_iload_n (p := 91) rfl rfl rfl ?_
                refine r_imul (p := 92) rfl rfl ?_
                refine r_aload_n (p := 93) rfl rfl rfl ?_
                refine r_cV (p := 96) rfl rfl rfl (Nat.le_of_ble_eq_true rfl) rfl (s_X7_here H1 ?_)
                rw [hm_in d1.1]
                refine r_iadd (p := 97) rfl rfl ?_
                refine r_bipush (v := 48) (p := 99) rfl rfl rfl ?_
                refine r_isub (p := 100) rfl rfl ?_
                refine r_istore_n (p := 101) rfl rfl rfl ?_
                refine r_aload_n (p := 102) rfl rfl rfl ?_
                refine r_dup (p := 103) rfl rfl rfl ?_
                refine r_getI (p := 106) rfl rfl rfl rfl ?_
                refine r_iconst (v := 1) (p := 107) rfl rfl rfl ?_
                refine r_iadd (p := 108) rfl rfl ?_
                refine r_putI (p := 111) rfl rfl rfl rfl ?_
                have H2 := H1.mv d1.1
                refine r_goto rfl ?_
                refine r_aload_n (p := 54) rfl rfl rfl ?_
                refine r_cV (p := 57) rfl rfl rfl (Nat.le_of_ble_eq_true rfl) rfl (s_X7_here H2 ?_)
                refine r_bipush (v := 48) (p := 59) rfl rfl rfl ?_
                refine r_bipush (v := 57) (p := 61) rfl rfl rfl ?_
                refine r_cS1 (p := 64) rfl rfl (Nat.le_of_ble_eq_true rfl) rfl (s_X7_in ?_)
                rw [in_eq, rgm_eq (by decide)]
                refine r_if_eq (p := 67) rfl rfl (fun c1 => ?_) (fun c1 => ?_)
                · refine r_iload_n (p := 115) rfl rfl rfl ?_
                  have e : num t (spc t p) = ((va (va 0 (tg0 t (spc t p))) (tg0 t (spc t p + 1))), (spc t p + 2), none) := by unfold num; rw [if_neg (not_not_intro d0), if_neg (not_not_intro d1)]; exact if_pos (fun q => absurd c1 (by rw [if_pos q]; decide))
                  rw [e] at hQ
                  exact r_ireturn rfl trivial (hQ _ _ _ H2 ((f1.tr (fN.u (Or.inl rfl))).tr (fN.u (Or.inl rfl))) (fun _ => ⟨rfl, rfl⟩))
                · have d2 : rgq t (spc t p + 2) 48 57 := Classical.byContradiction fun q => c1 (if_neg q)
                  refine r_aload_n (p := 68) rfl rfl rfl ?_
                  refine r_getI (p := 71) rfl rfl rfl rfl ?_
                  rw [H2.2.1]
                  refine r_iload (p := 73) rfl rfl rfl ?_
                  refine r_iconst (v := 3) (p := 74) rfl rfl rfl ?_
                  refine r_iadd (p := 75) rfl rfl ?_
                  refine r_icmp_ne (p := 78) rfl rfl (fun c2 => ?_) (fun c2 => ?_)
                  · refine r_bipush (v := 10) (p := 90) rfl rfl rfl ?_
                    refine r_iload_n (p := 91) rfl rfl rfl ?_
                    refine r_imul (p := 92) rfl rfl ?_
                    refine r_aload_n (p := 93) rfl rfl rfl ?_
                    refine r_cV (p := 96) rfl rfl rfl (Nat.le_of_ble_eq_true rfl) rfl (s_X7_here H2 ?_)
                    rw [hm_in d2.1]
                    refine r_iadd (p := 97) rfl rfl ?_
                    refine r_bipush (v := 48) (p := 99) rfl rfl rfl ?_
                    refine r_isub (p := 100) rfl rfl ?_
                    refine r_istore_n (p := 101) rfl rfl rfl ?_
                    refine r_aload_n (p := 102) rfl rfl rfl ?_
                    refine r_dup (p := 103) rfl rfl rfl ?_
                    refine r_getI (p := 106) rfl rfl rfl rfl ?_
                    refine r_iconst (v := 1) (p := 107) rfl rfl rfl ?_
                    refine r_iadd (p := 108) rfl rfl ?_
                    refine r_putI (p := 111) rfl rfl rfl rfl ?_
                    have H3 := H2.mv d2.1
                    refine r_goto rfl ?_
                    refine r_aload_n (p := 54) rfl rfl rfl ?_
                    refine r_cV (p := 57) rfl rfl rfl (Nat.le_of_ble_eq_true rfl) rfl (s_X7_here H3 ?_)
                    refine r_bipush (v := 48) (p := 59) rfl rfl rfl ?_
                    refine r_bipush (v := 57) (p := 61) rfl rfl rfl ?_
                    refine r_cS1 (p := 64) rfl rfl (Nat.le_of_ble_eq_true rfl) rfl (s_X7_in ?_)
                    rw [in_eq, rgm_eq (by decide)]
                    refine r_if_eq (p := 67) rfl rfl (fun c1 => ?_) (fun c1 => ?_)
                    · refine r_iload_n (p := 115) rfl rfl rfl ?_
                      have e : num t (spc t p) = ((va (va (va 0 (tg0 t (spc t p))) (tg0 t (spc t p + 1))) (tg0 t (spc t p + 2))), (spc t p + 3), none) := by unfold num; rw [if_neg (not_not_intro d0), if_neg (not_not_intro d1), if_neg (not_not_intro d2), if_neg (fun q => absurd c1 (by rw [if_pos q]; decide))]
                      rw [e] at hQ
                      exact r_ireturn rfl trivial (hQ _ _ _ H3 (((f1.tr (fN.u (Or.inl rfl))).tr (fN.u (Or.inl rfl))).tr (fN.u (Or.inl rfl))) (fun _ => ⟨rfl, rfl⟩))
                    · have d3 : rgq t (spc t p + 3) 48 57 := Classical.byContradiction fun q => c1 (if_neg q)
                      refine r_aload_n (p := 68) rfl rfl rfl ?_
                      refine r_getI (p := 71) rfl rfl rfl rfl ?_
                      rw [H3.2.1]
                      refine r_iload (p := 73) rfl rfl rfl ?_
                      refine r_iconst (v := 3) (p := 74) rfl rfl rfl ?_
                      refine r_iadd (p := 75) rfl rfl ?_
                      refine r_icmp_ne (p := 78) rfl rfl (fun c2 => ?_) (fun c2 => ?_)
                      · exact absurd (show nI (spc t p + 3) = nI (spc t p) + 3 from (nI_add _ 3).symm) c2
                      · refine r_aload_n (p := 79) rfl rfl rfl ?_
                        refine r_aload_n (p := 80) rfl rfl rfl ?_
                        refine r_getI (p := 83) rfl rfl rfl rfl ?_
                        rw [H3.2.1]
                        refine r_cV (p := 86) rfl rfl rfl (Nat.le_of_ble_eq_true rfl) rfl (s_X7_wrongAt (e := (spc t p + 3)) H3 (by have := d3.1; omega) rfl (fun F9 R9 f9 => ?_))
                        refine r_iconst (v := 0) (p := 87) rfl rfl rfl ?_
                        have e : num t (spc t p) = ((va (va (va 0 (tg0 t (spc t p))) (tg0 t (spc t p + 1))) (tg0 t (spc t p + 2))), (spc t p + 3), some (spc t p + 3)) := by unfold num; rw [if_neg (not_not_intro d0), if_neg (not_not_intro d1), if_neg (not_not_intro d2), if_pos d3]
                        rw [e] at hQ
                        exact r_ireturn rfl trivial (hQ _ _ _ R9 ((((f1.tr (fN.u (Or.inl rfl))).tr (fN.u (Or.inl rfl))).tr (fN.u (Or.inl rfl))).tr f9) (fun z => by cases z))
                  · exact absurd (nI_inj (a := spc t p + 2) (b := spc t p + 3) (by omega) (by omega) (c2.trans (nI_add _ 3))) (by omega)
              · exact absurd (nI_inj (a := spc t p + 1) (b := spc t p + 3) (by omega) (by omega) (c2.trans (nI_add _ 3))) (by omega)
          · exact absurd (nI_inj (a := spc t p) (b := spc t p + 3) (by omega) (by omega) (c2.trans (nI_add _ 3))) (by omega)
      · have e : num t (spc t p) = (0, spc t p, some (spc t p)) := if_pos (fun q => hg (Classical.byContradiction fun w => c2 (if_neg w)) (by rw [← nI_inj (a := spc t p) (b := p) (by omega) (by omega) c3]; exact q))
        rw [e] at hQ
        refine r_aload_n (p := 36) rfl rfl rfl ?_
        refine r_aload_n (p := 37) rfl rfl rfl ?_
        refine r_getI (p := 40) rfl rfl rfl rfl ?_
        rw [H0.2.1]
        refine r_cV (p := 43) rfl rfl rfl (Nat.le_of_ble_eq_true rfl) rfl (s_X7_wrongAt (e := (spc t p)) H0 (by omega) rfl (fun F9 R9 f9 => ?_))
        refine r_iconst (v := 0) (p := 44) rfl rfl rfl ?_
        exact r_ireturn rfl trivial (hQ _ _ _ R9 (f1.tr f9) (fun z => by cases z))
set_option maxRecDepth 100000 in
theorem s_X7_readTarget {d : Nat} {Y : mY} {F : mF} {M : mM} {L : mL} {t : List Int32} {p c : Nat} {W : Option Nat} {Q : Option Value → mW → Prop} (H : MS t F M p W c) (hW : W = none) (hg : ¬ rgq t p 48 57) (hQ : (∀ F' p' v, MS t F' M p' (argP t true p).2.2 c → fN F F' → ((argP t true p).2.2 = none → p' = (argP t true p).2.1 ∧ v = (argP t true p).1) → Q (some (.int v)) (mXY Y, F', M, L))) : Cw (d + 4) 66 [.ref 34] (mXY Y, F, M, L) Q := by
  subst hW
  have h3 := H.2.2.2.2.2
  refine Cw_in rfl rfl ?_
  refine r_aload_n (p := 1) rfl rfl rfl ?_
  refine r_getI (p := 4) rfl rfl rfl rfl ?_
  rw [H.2.1]
  refine r_istore_n (p := 5) rfl rfl rfl ?_
  refine r_aload_n (p := 6) rfl rfl rfl ?_
  refine r_cV (p := 9) rfl rfl rfl (Nat.le_of_ble_eq_true rfl) rfl (s_X7_skip H (fun F1 R1 f1 => ?_))
  refine r_aload_n (p := 10) rfl rfl rfl ?_
  refine r_cV (p := 13) rfl rfl rfl (Nat.le_of_ble_eq_true rfl) rfl (s_X7_here R1 ?_)
  refine r_bipush (v := 45) (p := 15) rfl rfl rfl ?_
  refine r_icmp_ne (p := 18) rfl rfl (fun c1 => ?_) (fun c1 => ?_)
  · have e : argP t true p = num t (spc t p) := if_neg (fun q => c1 ((hm_c (by decide)).mpr q.2))
    rw [e] at hQ
    refine r_aload_n (p := 31) rfl rfl rfl ?_
    refine r_iload_n (p := 32) rfl rfl rfl ?_
    refine r_putI (p := 35) rfl rfl rfl rfl ?_
    have R2 := R1.to h3.2
    refine r_aload_n (p := 36) rfl rfl rfl ?_
    refine r_iconst (v := 1) (p := 37) rfl rfl rfl ?_
    refine r_cV (p := 40) rfl rfl rfl (Nat.le_of_ble_eq_true rfl) rfl (s_X7_readNumber (g := true) R2 rfl (fun _ => hg) (fun F3 p3 v3 R3 f3 h9 => ?_))
    exact r_ireturn rfl trivial (hQ _ _ _ R3 (f1.tr ((fN.u (Or.inl rfl)).tr f3)) h9)
  · have hq : chq t (spc t p) 45 := (hm_c (by decide)).mp c1
    refine r_aload_n (p := 19) rfl rfl rfl ?_
    refine r_dup (p := 20) rfl rfl rfl ?_
    refine r_getI (p := 23) rfl rfl rfl rfl ?_
    refine r_iconst (v := 1) (p := 24) rfl rfl rfl ?_
    refine r_iadd (p := 25) rfl rfl ?_
    refine r_putI (p := 28) rfl rfl rfl rfl ?_
    refine r_iconst (v := (-1)) (p := 29) rfl rfl rfl ?_
    have e : argP t true p = (-1, spc t p + 1, none) := if_pos ⟨rfl, hq⟩
    rw [e] at hQ
    exact r_ireturn rfl trivial (hQ _ _ _ (R1.mv hq.1) (f1.tr (fN.u (Or.inl rfl))) (fun _ => ⟨rfl, rfl⟩))
