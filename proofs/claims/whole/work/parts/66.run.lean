/-! ===== what a script does ===== -/
def exC (s : mSt) (c : Nat × List Int32) : Int32 × mSt := match c.1 with
  | 0 => aloc s (c.2.getD 0 0)
  | 1 => stR s (c.2.getD 0 0) (c.2.getD 1 0)
  | 2 => stF s (c.2.getD 0 0) (c.2.getD 1 0) (c.2.getD 2 0)
  | 3 => minr s
  | 4 => bgn s
  | _ => adv s (c.2.getD 0 0)
def exs (cs : List (Nat × List Int32)) : Nat → Nat → mSt → Int32 × mSt
  | 0, _, s => (nI cs.length, s)
  | n + 1, k, s => if (exC s (cs.getD k (0, []))).1 = -2 ∨ (exC s (cs.getD k (0, []))).1 = -3 ∨ (exC s (cs.getD k (0, []))).1 = -4 then (-1000 - nI k, (exC s (cs.getD k (0, []))).2) else exs cs n (k + 1) (exC s (cs.getD k (0, []))).2
def oRn (b : mBs) : mO := match (prs b.2.2.1 25 (spc b.2.2.1 0)).2 with
  | some e => (-10 - nI e, b)
  | none => ((exs (prs b.2.2.1 25 (spc b.2.2.1 0)).1 (prs b.2.2.1 25 (spc b.2.2.1 0)).1.length 0 b.1).1, ((exs (prs b.2.2.1 25 (spc b.2.2.1 0)).1 (prs b.2.2.1 25 (spc b.2.2.1 0)).1.length 0 b.1).2, b.2))
theorem Inv_exC {s : mSt} {c : Nat × List Int32} (h : Inv s) : Inv (exC s c).2 := by
  unfold exC
  split
  · exact Inv_aloc h
  · exact Inv_stR h
  · exact Inv_stF h
  · exact Inv_minr h
  · exact Inv_bgn h
  · exact Inv_adv h
def cOk (c : Nat × List Int32) : Prop := c.1 ≤ 5 ∧ c.2.length = (aT c.1).length
theorem prs_ok {t : List Int32} : ∀ {f p : Nat}, (prs t f p).1.length ≤ f ∧ ((prs t f p).2 = none → ∀ c ∈ (prs t f p).1, cOk c)
  | 0, p => ⟨Nat.le_refl _, fun _ c hc => by cases hc⟩
  | f + 1, p => by
    unfold prs
    cases hW : (cmd t p).2.2.2 with
    | some e => exact ⟨Nat.zero_le _, (fun h => by cases h)⟩
    | none =>
      have hc := cmd_p hW
      have r := prs_ok (t := t) (f := f) (p := spc t (cmd t p).2.2.1)
      show (if _ then _ else _ : List (Nat × List Int32) × Option Nat).1.length ≤ f + 1 ∧ _
      split
      · refine ⟨Nat.succ_le_succ r.1, fun h c hm => ?_⟩
        rcases List.mem_cons.mp hm with q | q
        · rw [q]; exact ⟨hc.2.2.1, hc.2.2.2.1⟩
        · exact r.2 h c q
      · refine ⟨by show 1 ≤ f + 1; omega, fun h c hm => ?_⟩
        rw [List.mem_singleton.mp hm]
        exact ⟨hc.2.2.1, hc.2.2.2.1⟩
set_option maxRecDepth 100000 in
theorem s_X5_argument {d : Nat} {Y : mY} {F : mF} {M : mM} {L : mL} {n k j : Nat} {Q : Option Value → mW → Prop} (hF : F 29 6 = nI n) (hn : n ≤ 25) (hk : k < n) (hj : j < 3) (hQ : Q (some (.int (M 31 (nI k * 3 + nI j)))) (mXY Y, F, M, L)) : Cw (d + 1) 155 [.ref 29, .int (nI k), .int (nI j)] (mXY Y, F, M, L) Q := by
  refine Cw_in rfl rfl ?_
  refine r_iload_n (p := 1) rfl rfl rfl ?_
  refine r_if_lt (p := 4) rfl rfl (fun c1 => ?_) (fun c1 => ?_)
  · exact absurd c1 (nI_pos (by omega))
  · refine r_iload_n (p := 5) rfl rfl rfl ?_
    refine r_aload_n (p := 6) rfl rfl rfl ?_
    refine r_getI (p := 9) rfl rfl rfl rfl ?_
    rw [hF]
    refine r_icmp_ge (p := 12) rfl rfl (fun c2 => ?_) (fun c2 => ?_)
    · exact absurd c2 (nI_ge hk (by omega))
    · refine r_iload_n (p := 13) rfl rfl rfl ?_
      refine r_if_lt (p := 16) rfl rfl (fun c3 => ?_) (fun c3 => ?_)
      · exact absurd c3 (nI_pos (by omega))
      · refine r_iload_n (p := 17) rfl rfl rfl ?_
        refine r_iconst (v := 3) (p := 18) rfl rfl rfl ?_
        refine r_icmp_ge (p := 21) rfl rfl (fun c4 => ?_) (fun c4 => ?_)
        · exact absurd c4 (nI_ge (a := j) (b := 3) hj (by omega))
        · refine r_iconst (v := 1) (p := 22) rfl rfl rfl ?_
          refine r_goto rfl ?_
          refine r_istore_n (p := 27) rfl rfl rfl ?_
          refine r_iload_n (p := 28) rfl rfl rfl ?_
          refine r_if_eq (p := 31) rfl rfl (fun c => absurd c (by decide)) (fun _ => ?_)
          refine r_aload_n (p := 32) rfl rfl rfl ?_
          refine r_getR (p := 35) rfl rfl rfl rfl rfl ?_
          refine r_iload_n (p := 36) rfl rfl rfl ?_
          refine r_iconst (v := 3) (p := 37) rfl rfl rfl ?_
          refine r_imul (p := 38) rfl rfl ?_
          refine r_iload_n (p := 39) rfl rfl rfl ?_
          refine r_iadd (p := 40) rfl rfl ?_
          refine r_iald (p := 41) rfl rfl rfl (vp75 (by omega) hj) rfl ?_
          refine r_goto rfl ?_
          exact r_ireturn rfl trivial hQ
set_option maxRecDepth 100000 in
theorem s_X5_wordOf {d : Nat} {Y : mY} {F : mF} {M : mM} {L : mL} {n k : Nat} {Q : Option Value → mW → Prop} (hF : F 29 6 = nI n) (hn : n ≤ 25) (hk : k < n) (hQ : Q (some (.int (M 30 (nI k)))) (mXY Y, F, M, L)) : Cw (d + 1) 154 [.ref 29, .int (nI k)] (mXY Y, F, M, L) Q := by
  refine Cw_in rfl rfl ?_
  refine r_iload_n (p := 1) rfl rfl rfl ?_
  refine r_if_lt (p := 4) rfl rfl (fun c1 => ?_) (fun c1 => ?_)
  · exact absurd c1 (nI_pos (by omega))
  · refine r_iload_n (p := 5) rfl rfl rfl ?_
    refine r_aload_n (p := 6) rfl rfl rfl ?_
    refine r_getI (p := 9) rfl rfl rfl rfl ?_
    rw [hF]
    refine r_icmp_ge (p := 12) rfl rfl (fun c2 => ?_) (fun c2 => ?_)
    · exact absurd c2 (nI_ge hk (by omega))
    · refine r_aload_n (p := 13) rfl rfl rfl ?_
      refine r_getR (p := 16) rfl rfl rfl rfl rfl ?_
      refine r_iload_n (p := 17) rfl rfl rfl ?_
      refine r_iald (p := 18) rfl rfl rfl (vp_in_nI (show k < 25 by omega) (by omega)) rfl ?_
      refine r_goto rfl ?_
      exact r_ireturn rfl trivial hQ
set_option maxRecDepth 100000 in
theorem s_X6_execute {d : Nat} {Y : mY} {F : mF} {M : mM} {L : mL} {s : mSt} {cs : List (Nat × List Int32)} {k : Nat} {Q : Option Value → mW → Prop} (H : RC s F M) (hI : Inv s) (hF : F 29 6 = nI cs.length) (hn : cs.length ≤ 25) (hk : k < cs.length) (hM : CM M cs) (hc : cOk (cs.getD k (0, []))) (hQ : ∀ F' M', RC (exC s (cs.getD k (0, []))).2 F' M' → frC F M F' M' → Q (some (.int (exC s (cs.getD k (0, []))).1)) (mXY Y, F', M', L)) : Cw (d + 6) 210 [.ref 0, .int (nI k)] (mXY Y, F, M, L) Q := by
  obtain ⟨m1, m2, m3⟩ := hM k hk
  generalize cs.getD k (0, []) = c at *
  obtain ⟨w, vs⟩ := c
  obtain ⟨hw, hl⟩ := hc
  refine Cw_in rfl rfl ?_
  refine r_aload_n (p := 1) rfl rfl rfl ?_
  refine r_getR (p := 4) rfl rfl rfl rfl rfl ?_
  refine r_iload_n (p := 5) rfl rfl rfl ?_
  refine r_iconst (v := 0) (p := 6) rfl rfl rfl ?_
  refine r_cV (p := 9) rfl rfl rfl (Nat.le_of_ble_eq_true rfl) rfl (s_X5_argument (j := 0) hF hn hk (by omega) ?_)
  refine r_istore_n (p := 10) rfl rfl rfl ?_
  refine r_aload_n (p := 11) rfl rfl rfl ?_
  refine r_getR (p := 14) rfl rfl rfl rfl rfl ?_
  refine r_iload_n (p := 15) rfl rfl rfl ?_
  refine r_iconst (v := 1) (p := 16) rfl rfl rfl ?_
  refine r_cV (p := 19) rfl rfl rfl (Nat.le_of_ble_eq_true rfl) rfl (s_X5_argument (j := 1) hF hn hk (by omega) ?_)
  refine r_istore_n (p := 20) rfl rfl rfl ?_
  refine r_aload_n (p := 21) rfl rfl rfl ?_
  refine r_getR (p := 24) rfl rfl rfl rfl rfl ?_
  refine r_iload_n (p := 25) rfl rfl rfl ?_
  refine r_cV (p := 28) rfl rfl rfl (Nat.le_of_ble_eq_true rfl) rfl (s_X5_wordOf hF hn hk ?_)
  have m1 : M 30 (nI k) = nI w := m1
  rw [m1]
  rcases (show w = 0 ∨ w = 1 ∨ w = 2 ∨ w = 3 ∨ w = 4 ∨ w = 5 by have : w ≤ 5 := hw; omega) with q | q | q | q | q | q <;> subst q
  · refine r_table (tgt := 68) rfl rfl ?_
    have v0 : M 31 (nI k * 3 + nI 0) = vs.getD 0 0 := m3 0 (by show 0 < vs.length; rw [show vs.length = 1 from hl]; omega)
    rw [v0]
    refine r_aload_n (p := 69) rfl rfl rfl ?_
    refine r_getR (p := 72) rfl rfl rfl rfl rfl ?_
    refine r_iload_n (p := 73) rfl rfl rfl ?_
    refine r_cV (p := 76) rfl rfl rfl (Nat.le_of_ble_eq_true rfl) rfl (s_X0_place H hI (fun F1 M1 R1 f1 => ?_))
    exact r_ireturn rfl trivial (hQ _ _ R1 f1)
  · refine r_table (tgt := 77) rfl rfl ?_
    have v0 : M 31 (nI k * 3 + nI 0) = vs.getD 0 0 := m3 0 (by show 0 < vs.length; rw [show vs.length = 2 from hl]; omega)
    have v1 : M 31 (nI k * 3 + nI 1) = vs.getD 1 0 := m3 1 (by show 1 < vs.length; rw [show vs.length = 2 from hl]; omega)
    rw [v0]
    rw [v1]
    refine r_aload_n (p := 78) rfl rfl rfl ?_
    refine r_iload_n (p := 79) rfl rfl rfl ?_
    refine r_iload_n (p := 80) rfl rfl rfl ?_
    refine r_cV (p := 83) rfl rfl rfl (Nat.le_of_ble_eq_true rfl) rfl (s_X6_storeInRoot H hI (fun F1 M1 R1 f1 => ?_))
    exact r_ireturn rfl trivial (hQ _ _ R1 f1)
  · refine r_table (tgt := 84) rfl rfl ?_
    have v0 : M 31 (nI k * 3 + nI 0) = vs.getD 0 0 := m3 0 (by show 0 < vs.length; rw [show vs.length = 3 from hl]; omega)
    have v1 : M 31 (nI k * 3 + nI 1) = vs.getD 1 0 := m3 1 (by show 1 < vs.length; rw [show vs.length = 3 from hl]; omega)
    have v2 : M 31 (nI k * 3 + nI 2) = vs.getD 2 0 := m3 2 (by show 2 < vs.length; rw [show vs.length = 3 from hl]; omega)
    rw [v0]
    rw [v1]
    refine r_aload_n (p := 85) rfl rfl rfl ?_
    refine r_iload_n (p := 86) rfl rfl rfl ?_
    refine r_iload_n (p := 87) rfl rfl rfl ?_
    refine r_aload_n (p := 88) rfl rfl rfl ?_
    refine r_getR (p := 91) rfl rfl rfl rfl rfl ?_
    refine r_iload_n (p := 92) rfl rfl rfl ?_
    refine r_iconst (v := 2) (p := 93) rfl rfl rfl ?_
    refine r_cV (p := 96) rfl rfl rfl (Nat.le_of_ble_eq_true rfl) rfl (s_X5_argument (j := 2) hF hn hk (by omega) ?_)
    rw [v2]
    refine r_cV (p := 99) rfl rfl rfl (Nat.le_of_ble_eq_true rfl) rfl (s_X6_storeInField H hI (fun F1 M1 R1 f1 => ?_))
    exact r_ireturn rfl trivial (hQ _ _ R1 f1)
  · refine r_table (tgt := 100) rfl rfl ?_
    refine r_aload_n (p := 101) rfl rfl rfl ?_
    refine r_getR (p := 104) rfl rfl rfl rfl rfl ?_
    refine r_cV (p := 107) rfl rfl rfl (Nat.le_of_ble_eq_true rfl) rfl (s_X3_collect H hI (fun F1 M1 R1 f1 => ?_))
    exact r_ireturn rfl trivial (hQ _ _ R1 f1)
  · refine r_table (tgt := 108) rfl rfl ?_
    refine r_aload_n (p := 109) rfl rfl rfl ?_
    refine r_getR (p := 112) rfl rfl rfl rfl rfl ?_
    refine r_cV (p := 115) rfl rfl rfl (Nat.le_of_ble_eq_true rfl) rfl (s_X2_begin H hI (fun F1 M1 R1 f1 => ?_))
    exact r_ireturn rfl trivial (hQ _ _ R1 f1)
  · refine r_table (tgt := 116) rfl rfl ?_
    have v0 : M 31 (nI k * 3 + nI 0) = vs.getD 0 0 := m3 0 (by show 0 < vs.length; rw [show vs.length = 1 from hl]; omega)
    rw [v0]
    refine r_aload_n (p := 117) rfl rfl rfl ?_
    refine r_getR (p := 120) rfl rfl rfl rfl rfl ?_
    refine r_iload_n (p := 121) rfl rfl rfl ?_
    refine r_cV (p := 124) rfl rfl rfl (Nat.le_of_ble_eq_true rfl) rfl (s_X2_advance H hI (fun F1 M1 R1 f1 => ?_))
    exact r_ireturn rfl trivial (hQ _ _ R1 f1)
theorem getD_mem2 {l : List (Nat × List Int32)} {k : Nat} {z : Nat × List Int32} (h : k < l.length) : l.getD k z ∈ l := by
  rw [List.getD_eq_getElem?_getD, List.getElem?_eq_getElem h]
  exact List.getElem_mem h
theorem CM.fr {F F' : mF} {M M' : mM} {cs : List (Nat × List Int32)} (H : CM M cs) (f : frC F M F' M') : CM M' cs := fun k hk => ⟨(f.2 _ _ (by omega)).trans (H k hk).1, (H k hk).2.1, fun i hi => (f.2 _ _ (by omega)).trans ((H k hk).2.2 i hi)⟩
theorem RC.fp {s : mSt} {F F' : mF} {M M' : mM} (H : RC s F M) (f : fP F M F' M') : RC s F' M' := H.fr (fun a k ha => f.1 a k (Or.inl (by omega))) (fun a i ha => f.2 a i (by omega) (by omega))
theorem BC.fp {b : mBs} {Y : mY} {F F' : mF} {M M' : mM} (H : BC b Y F M) (f : fP F M F' M') : BC b Y F' M' := by
  obtain ⟨h1, h2, h3, h, h4, h5⟩ := H
  exact ⟨h1.fp f, fun k hk => (f.2 _ _ (by omega) (by omega)).trans (h2 k hk), by rw [f.1 _ _ (Or.inr (by omega))]; exact h3.fr (fun i => f.2 _ _ (by omega) (by omega)), h, h4, h5.fr (fun a k ha => f.1 a k (Or.inl (by omega))) (fun a i ha => f.2 a i (by omega) (by omega))⟩
theorem fP.c2 {F F' : mF} {M M' : mM} (f : fP F M F' M') : frc F M F' M' := ⟨fun k => f.1 34 k (Or.inl (by omega)), fun a i h1 h2 => f.2 a i (by omega) (by omega)⟩
set_option maxRecDepth 100000 in
theorem lp_X6_run {d : Nat} {Y : mY} {L : mL} {cs : List (Nat × List Int32)} {x : Int32} {Q : Option Value → mW → Prop} (hn : cs.length ≤ 25) (hc : ∀ c ∈ cs, cOk c) :
    ∀ (n k : Nat) (s : mSt) (F : mF) (M : mM), k + n = cs.length → RC s F M → Inv s → F 29 6 = nI cs.length → CM M cs → (∀ F' M', RC (exs cs n k s).2 F' M' → frC F M F' M' → Q (some (.int (exs cs n k s).1)) (mXY Y, F', M', L)) → Wp (d + 9) tX6_runScript 29 [some (.ref 0), some (.int x), some (.int (nI cs.length)), some (.int (nI k))] [] (mXY Y, F, M, L) Q
  | 0, k, s, F, M, hk, H, hI, hF, hM, hQ => by
    refine r_iload_n (p := 30) rfl rfl rfl ?_
    refine r_iload_n (p := 31) rfl rfl rfl ?_
    refine r_icmp_ge (p := 34) rfl rfl (fun c1 => ?_) (fun c1 => ?_)
    · refine r_iload_n (p := 58) rfl rfl rfl ?_
      exact r_ireturn rfl trivial (hQ F M H frC.rf)
    · exact absurd (nI_le (a := cs.length) (b := k) (by omega) (by omega)) c1
  | n + 1, k, s, F, M, hk, H, hI, hF, hM, hQ => by
    have hk2 : k < cs.length := by omega
    have hm : cs.getD k (0, []) ∈ cs := getD_mem2 hk2
    refine r_iload_n (p := 30) rfl rfl rfl ?_
    refine r_iload_n (p := 31) rfl rfl rfl ?_
    refine r_icmp_ge (p := 34) rfl rfl (fun c1 => ?_) (fun c1 => ?_)
    · refine r_iload_n (p := 58) rfl rfl rfl ?_
      exact absurd c1 (nI_ge hk2 (by omega))
    · refine r_aload_n (p := 35) rfl rfl rfl ?_
      refine r_iload_n (p := 36) rfl rfl rfl ?_
      refine r_cV (p := 39) rfl rfl rfl (Nat.le_of_ble_eq_true rfl) rfl (s_X6_execute (d := d + 3) H hI hF hn hk2 hM (hc _ hm) (fun F1 M1 R1 f1 => ?_))
      refine r_cS1 (p := 42) rfl rfl (Nat.le_of_ble_eq_true rfl) rfl (s_X6_isError ?_)
      refine r_if_eq (p := 45) rfl rfl (fun c2 => ?_) (fun c2 => ?_)
      · refine r_iinc (v := (nI (k + 1))) (p := 54) rfl rfl (nI_1 k) rfl rfl ?_
        refine r_goto rfl ?_
        have e : exs cs (n + 1) k s = exs cs n (k + 1) (exC s (cs.getD k (0, []))).2 := if_neg (err_no c2)
        rw [e] at hQ
        exact lp_X6_run hn hc n (k + 1) _ F1 M1 (by omega) R1 (Inv_exC hI) ((f1.1 _ _ (by omega)).trans hF) (hM.fr f1) (fun F' M' R f => hQ F' M' R (f1.tr f))
      · refine r_sipush (v := (-1000)) (p := 48) rfl rfl rfl ?_
        refine r_iload_n (p := 49) rfl rfl rfl ?_
        refine r_isub (p := 50) rfl rfl ?_
        have e : exs cs (n + 1) k s = (-1000 - nI k, (exC s (cs.getD k (0, []))).2) := if_pos (err_in c2)
        rw [e] at hQ
        exact r_ireturn rfl trivial (hQ _ _ R1 f1)
def f_X5_commandCount (F : mF) (M : mM) : Int32 := (F 29 6)
set_option maxRecDepth 100000 in
theorem s_X5_commandCount {d : Nat} {Y : mY} {F : mF} {M : mM} {L : mL} {Q : Option Value → mW → Prop} (hQ : Q (some (.int (f_X5_commandCount F M))) ((mXY Y), F, M, L)) : Cw (d + 1) 153 [.ref 29] ((mXY Y), F, M, L) Q := by
  refine Cw_in rfl rfl ?_
  refine r_aload_n (p := 1) rfl rfl rfl ?_
  refine r_getI (p := 4) rfl rfl rfl rfl ?_
  refine r_ireturn rfl trivial ?_
  simp only [f_X5_commandCount] at hQ; exact hQ
theorem fW_e {W e : Option Nat} {x : Nat} (h : fW W e = some x) : W = some x ∨ e = some x := by
  cases W
  · exact Or.inr h
  · exact Or.inl h
theorem argP_e {t : List Int32} {g : Bool} {p e : Nat} (hp : p ≤ t.length) (h : (argP t g p).2.2 = some e) : e ≤ t.length := by
  unfold argP at h
  split at h
  · cases h
  · have n := num_p (t := t) (p := spc t p)
    rw [n.2.2.2.2 e h]
    exact n.2.2.2.1 (spc_le hp)
theorem argsP_e {t : List Int32} : ∀ {gs : List Bool} {p e : Nat} {W : Option Nat}, p ≤ t.length → (∀ x, W = some x → x ≤ t.length) → (argsP t gs p W).2.2 = some e → e ≤ t.length
  | [], p, e, W, hp, hW, h => hW e h
  | g :: r, p, e, W, hp, hW, h => argsP_e (gs := r) (argP_p.2.2.1 hp) (fun x hx => (fW_e hx).elim (hW x) (fun q => argP_e hp q)) h
theorem cmd_e {t : List Int32} {p e : Nat} (hp : p ≤ t.length) (h : (cmd t p).2.2.2 = some e) : e ≤ t.length := by
  unfold cmd at h
  split at h
  · cases h; exact hp
  · have h : (semP t _ _).2 = some e := h
    unfold semP at h
    have ha := argsP_p (t := t) (gs := aT (wrd t p (lts t p))) (p := lts t p) (W := none)
    split at h
    · exact argsP_e (lts_le hp) (fun x hx => by cases hx) h
    · rcases fW_e h with q | q
      · exact argsP_e (lts_le hp) (fun x hx => by cases hx) q
      · cases q
        exact spc_le (ha.2.2.1 (lts_le hp))
theorem prs_e' {t : List Int32} : ∀ {f p e : Nat}, p ≤ t.length → (prs t f p).2 = some e → e ≤ t.length
  | 0, p, e, hp, h => by cases h
  | f + 1, p, e, hp, h => by
    unfold prs at h
    cases hW : (cmd t p).2.2.2 with
    | some x =>
      rw [hW] at h
      cases h
      exact cmd_e hp hW
    | none =>
      rw [hW] at h
      have hc := cmd_p hW
      have h : (if spc t (cmd t p).2.2.1 < t.length then (((cmd t p).1, (cmd t p).2.1) :: (prs t f (spc t (cmd t p).2.2.1)).1, (prs t f (spc t (cmd t p).2.2.1)).2) else ([((cmd t p).1, (cmd t p).2.1)], none)).2 = some e := h
      split at h
      · exact prs_e' (f := f) (spc_le (hc.2.1 hp)) h
      · cases h
theorem prs_e {t : List Int32} {e : Nat} (h : (prs t 25 (spc t 0)).2 = some e) (ht : t.length ≤ 150) : e < 2 ^ 31 := by
  have := prs_e' (t := t) (f := 25) (p := spc t 0) (spc_le (Nat.zero_le _)) h
  omega
set_option maxRecDepth 100000 in
theorem cs_runScript {b : mBs} (hI : Inv b.1) (ht : b.2.2.1.length ≤ 150) : CS 10 201 [] b (.int (oRn b).1) (oRn b).2 := fun d Y F M L Q hY H hQ => by
  have hp := prs_ok (t := b.2.2.1) (f := 25) (p := spc b.2.2.1 0)
  refine Cw_in rfl rfl ?_
  refine r_aload_n (p := 1) rfl rfl rfl ?_
  refine r_getR (p := 4) rfl rfl rfl rfl rfl ?_
  refine r_cV (p := 7) rfl rfl rfl (Nat.le_of_ble_eq_true rfl) rfl (s_X5_parse H.2.2.1 ht hY.2.2 (fun F1 M1 f1 m1 => ?_))
  refine r_istore_n (p := 8) rfl rfl rfl ?_
  refine r_iload_n (p := 9) rfl rfl rfl ?_
  refine r_bipush (v := (-5)) (p := 11) rfl rfl rfl ?_
  refine r_icmp_eq (p := 14) rfl rfl (fun c1 => ?_) (fun c1 => ?_)
  · have hW : (prs b.2.2.1 25 (spc b.2.2.1 0)).2 = none := by
      cases hW : (prs b.2.2.1 25 (spc b.2.2.1 0)).2 with
      | none => rfl
      | some e =>
        rw [hW] at c1
        exact absurd (show nI e = -5 from c1) (fun q => nI_pos (n := e) (prs_e hW ht) (by rw [q]; decide))
    refine r_aload_n (p := 20) rfl rfl rfl ?_
    refine r_getR (p := 23) rfl rfl rfl rfl rfl ?_
    refine r_cV (p := 26) rfl rfl rfl (Nat.le_of_ble_eq_true rfl) rfl (s_X5_commandCount ?_)
    refine r_istore_n (p := 27) rfl rfl rfl ?_
    refine r_iconst (v := 0) (p := 28) rfl rfl rfl ?_
    refine r_istore_n (p := 29) rfl rfl rfl ?_
    obtain ⟨hF1, hM1⟩ := m1 hW
    rw [show f_X5_commandCount F1 M1 = nI (prs b.2.2.1 25 (spc b.2.2.1 0)).1.length from hF1]
    refine lp_X6_run hp.1 (hp.2 hW) _ 0 b.1 F1 M1 (Nat.zero_add _) (H.1.fp f1) hI hF1 hM1 (fun F2 M2 R2 f2 => ?_)
    have eo : oRn b = ((exs (prs b.2.2.1 25 (spc b.2.2.1 0)).1 (prs b.2.2.1 25 (spc b.2.2.1 0)).1.length 0 b.1).1, ((exs (prs b.2.2.1 25 (spc b.2.2.1 0)).1 (prs b.2.2.1 25 (spc b.2.2.1 0)).1.length 0 b.1).2, b.2)) := by unfold oRn; rw [hW]
    rw [eo] at hQ
    exact hQ Y _ _ L ((H.fp f1).hp R2 f2) (f1.c2.tr f2.c) gr.rf
  · refine r_bipush (v := (-10)) (p := 16) rfl rfl rfl ?_
    refine r_iload_n (p := 17) rfl rfl rfl ?_
    refine r_isub (p := 18) rfl rfl ?_
    have hW : ∃ e, (prs b.2.2.1 25 (spc b.2.2.1 0)).2 = some e := by
      cases hW : (prs b.2.2.1 25 (spc b.2.2.1 0)).2 with
      | none => exact absurd (by rw [hW]; rfl) c1
      | some e => exact ⟨e, rfl⟩
    obtain ⟨e, hW⟩ := hW
    have eo : oRn b = (-10 - nI e, b) := by unfold oRn; rw [hW]
    rw [eo] at hQ
    rw [hW]
    exact r_ireturn rfl trivial (hQ Y _ _ L (H.fp f1) f1.c2 gr.rf)
