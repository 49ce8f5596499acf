/-! ===== the reference reads a script ===== -/
def MS (t : List Int32) (F : mF) (M : mM) (p : Nat) (W : Option Nat) (c : Nat) : Prop := LL (F 34 25) (M 46) t ∧ F 34 35 = nI p ∧ F 34 36 = wv W ∧ F 34 34 = nI c ∧ (∀ e, W = some e → e ≤ 150) ∧ t.length ≤ 150 ∧ p ≤ t.length
def fN (F F' : mF) : Prop := ∀ a k, a ≠ 34 ∨ (k ≠ 35 ∧ k ≠ 36) → F' a k = F a k
theorem fN.rf {F : mF} : fN F F := fun _ _ _ => rfl
theorem fN.tr {F F1 F2 : mF} (a : fN F F1) (b : fN F1 F2) : fN F F2 := fun x k h => (b x k h).trans (a x k h)
theorem fN.u {F : mF} {x : Int32} {k : Nat} (hk : k = 35 ∨ k = 36) : fN F (uF F 34 k x) := fun a j h => by
  by_cases e : a = 34
  · exact uF_nk (by omega)
  · exact uF_ne e
theorem MS.mv {t : List Int32} {F : mF} {M : mM} {p c : Nat} {W : Option Nat} (H : MS t F M p W c) (h : p < t.length) : MS t (uF F 34 35 (F 34 35 + 1)) M (p + 1) W c := ⟨H.1, by show F 34 35 + 1 = _; rw [H.2.1, nI_1], H.2.2.1, H.2.2.2.1, H.2.2.2.2.1, H.2.2.2.2.2.1, h⟩
theorem MS.to {t : List Int32} {F : mF} {M : mM} {p q c : Nat} {W : Option Nat} (H : MS t F M p W c) (h : q ≤ t.length) : MS t (uF F 34 35 (nI q)) M q W c := ⟨H.1, rfl, H.2.2.1, H.2.2.2.1, H.2.2.2.2.1, H.2.2.2.2.2.1, h⟩
def hm (t : List Int32) (p : Nat) : Int32 := if p < t.length then t.getD p 0 else -1
theorem hm_c {t : List Int32} {p : Nat} {c : Int32} (h : ¬ c = -1) : hm t p = c ↔ chq t p c := by
  unfold hm
  split
  · exact ⟨fun q => ⟨‹_›, q⟩, fun q => q.2⟩
  · exact ⟨fun q => absurd q.symm h, fun q => absurd q.1 ‹_›⟩
theorem hm_in {t : List Int32} {p : Nat} (h : p < t.length) : hm t p = t.getD p 0 := if_pos h
theorem rgm_eq {t : List Int32} {p : Nat} {a b : Int32} (ha : -1 < a) : (if ¬ hm t p < a ∧ ¬ b < hm t p then (1 : Int32) else 0) = if rgq t p a b then 1 else 0 := by
  unfold hm
  by_cases h : p < t.length
  · rw [if_pos h]
    by_cases h1 : ¬ t.getD p 0 < a ∧ ¬ b < t.getD p 0
    · rw [if_pos h1, if_pos ⟨h, h1⟩]
    · rw [if_neg h1, if_neg (fun q => h1 q.2)]
  · rw [if_neg h, if_neg (fun q => q.1 ha), if_neg (fun q => h q.1)]
set_option maxRecDepth 100000 in
theorem s_X7_here {d : Nat} {Y : mY} {F : mF} {M : mM} {L : mL} {t : List Int32} {p c : Nat} {W : Option Nat} {Q : Option Value → mW → Prop} (H : MS t F M p W c) (hQ : Q (some (.int (hm t p))) (mXY Y, F, M, L)) : Cw (d + 1) 59 [.ref 34] (mXY Y, F, M, L) Q := by
  have h3 := H.2.2.2.2.2
  refine Cw_in rfl rfl ?_
  refine r_aload_n (p := 1) rfl rfl rfl ?_
  refine r_getI (p := 4) rfl rfl rfl rfl ?_
  rw [H.2.1]
  refine r_aload_n (p := 5) rfl rfl rfl ?_
  refine r_getI (p := 8) rfl rfl rfl rfl ?_
  rw [H.1.1]
  refine r_icmp_ge (p := 11) rfl rfl (fun c1 => ?_) (fun c1 => ?_)
  · refine r_iconst (v := (-1)) (p := 24) rfl rfl rfl ?_
    have e : hm t p = -1 := if_neg (fun q => absurd c1 (nI_ge q (by omega)))
    rw [e] at hQ
    exact r_ireturn rfl trivial hQ
  · have hlt : p < t.length := Nat.lt_of_not_le fun q => c1 (nI_le q (by omega))
    refine r_aload_n (p := 12) rfl rfl rfl ?_
    refine r_getR (p := 15) rfl rfl rfl rfl rfl ?_
    refine r_aload_n (p := 16) rfl rfl rfl ?_
    refine r_getI (p := 19) rfl rfl rfl rfl ?_
    rw [H.2.1]
    refine r_bald (p := 20) rfl rfl rfl (vp_in_nI (show p < 150 by omega) (by omega)) rfl ?_
    rw [H.1.2 p hlt]
    refine r_goto rfl ?_
    have e : hm t p = t.getD p 0 := if_pos hlt
    rw [e] at hQ
    exact r_ireturn rfl trivial hQ
set_option maxRecDepth 100000 in
theorem lp_X7_skip {d : Nat} {Y : mY} {M : mM} {L : mL} {t : List Int32} {c : Nat} {W : Option Nat} {Q : Option Value → mW → Prop} :
    ∀ (n p : Nat) (F : mF), t.length - p = n → MS t F M p W c → (∀ F', MS t F' M (spc t p) W c → fN F F' → Q none (mXY Y, F', M, L)) → Wp (d + 1) tX7_skip 0 [some (.ref 34)] [] (mXY Y, F, M, L) Q
  | 0, p, F, hn, H, hQ => by
    have h3 := H.2.2.2.2.2
    refine r_aload_n (p := 1) rfl rfl rfl ?_
    refine r_cV (p := 4) rfl rfl rfl (Nat.le_of_ble_eq_true rfl) rfl (s_X7_here H ?_)
    refine r_bipush (v := 32) (p := 6) rfl rfl rfl ?_
    refine r_icmp_ne (p := 9) rfl rfl (fun c1 => ?_) (fun c1 => ?_)
    · have e : spc t p = p := spc_no (fun q => c1 ((hm_c (by decide)).mpr q))
      rw [e] at hQ
      exact r_return rfl (hQ F H fN.rf)
    · exact absurd ((hm_c (by decide)).mp c1).1 (by omega)
  | n + 1, p, F, hn, H, hQ => by
    have h3 := H.2.2.2.2.2
    refine r_aload_n (p := 1) rfl rfl rfl ?_
    refine r_cV (p := 4) rfl rfl rfl (Nat.le_of_ble_eq_true rfl) rfl (s_X7_here H ?_)
    refine r_bipush (v := 32) (p := 6) rfl rfl rfl ?_
    refine r_icmp_ne (p := 9) rfl rfl (fun c1 => ?_) (fun c1 => ?_)
    · have e : spc t p = p := spc_no (fun q => c1 ((hm_c (by decide)).mpr q))
      rw [e] at hQ
      exact r_return rfl (hQ F H fN.rf)
    · have hq : chq t p 32 := (hm_c (by decide)).mp c1
      have H1 := H.mv hq.1
      rw [spc_go hq] at hQ
      refine r_aload_n (p := 10) rfl rfl rfl ?_
      refine r_dup (p := 11) rfl rfl rfl ?_
      refine r_getI (p := 14) rfl rfl rfl rfl ?_
      refine r_iconst (v := 1) (p := 15) rfl rfl rfl ?_
      refine r_iadd (p := 16) rfl rfl ?_
      refine r_putI (p := 19) rfl rfl rfl rfl ?_
      refine r_goto rfl ?_
      exact lp_X7_skip n (p + 1) _ (by omega) H1 (fun F' R f => hQ F' R ((fN.u (Or.inl rfl)).tr f))
set_option maxRecDepth 100000 in
theorem s_X7_skip {d : Nat} {Y : mY} {F : mF} {M : mM} {L : mL} {t : List Int32} {p c : Nat} {W : Option Nat} {Q : Option Value → mW → Prop} (H : MS t F M p W c) (hQ : (∀ F', MS t F' M (spc t p) W c → fN F F' → Q none (mXY Y, F', M, L))) : Cw (d + 2) 60 [.ref 34] (mXY Y, F, M, L) Q := by
  refine Cw_in rfl rfl ?_
  exact lp_X7_skip _ p F rfl H hQ
set_option maxRecDepth 100000 in
theorem s_X7_wrongAt {d : Nat} {Y : mY} {F : mF} {M : mM} {L : mL} {t : List Int32} {p c : Nat} {W : Option Nat} {Q : Option Value → mW → Prop} (H : MS t F M p W c) {e : Nat} (he : e ≤ 150) (hW : W = none) (hQ : (∀ F', MS t F' M p (some e) c → fN F F' → Q none (mXY Y, F', M, L))) : Cw (d + 1) 61 [.ref 34, .int (nI e)] (mXY Y, F, M, L) Q := by
  subst hW
  have h5 := H.2.2.1
  refine Cw_in rfl rfl ?_
  refine r_aload_n (p := 1) rfl rfl rfl ?_
  refine r_aload_n (p := 2) rfl rfl rfl ?_
  refine r_getI (p := 5) rfl rfl rfl rfl ?_
  refine r_bipush (v := (-5)) (p := 7) rfl rfl rfl ?_
  refine r_icmp_ne (p := 10) rfl rfl (fun c1 => ?_) (fun c1 => ?_)
  · exact absurd h5 c1
  · refine r_iload_n (p := 11) rfl rfl rfl ?_
    refine r_goto rfl ?_
    refine r_putI (p := 21) rfl rfl rfl rfl ?_
    exact r_return rfl (hQ _ ⟨H.1, H.2.1, rfl, H.2.2.2.1, (fun x hx => by cases hx; exact he), H.2.2.2.2.2⟩ (fN.u (Or.inr rfl)))
def cod (c : Int32) (l : List Int32) : Int32 := l.foldl (fun c x => 27 * c + x - 96) c
theorem slc_cons {t : List Int32} {p q : Nat} (h : p < q) (h2 : q ≤ t.length) : slc t p q = t.getD p 0 :: slc t (p + 1) q := by
  unfold slc
  rw [show q - p = (q - (p + 1)) + 1 by omega, List.drop_eq_getElem_cons (show p < t.length by omega), List.take_succ_cons]
  simp [List.getD_eq_getElem?_getD, List.getElem?_eq_getElem (show p < t.length by omega)]
theorem slc_nil {t : List Int32} {p q : Nat} (h : q ≤ p) : slc t p q = [] := by
  unfold slc
  rw [show q - p = 0 by omega]
  simp
set_option maxRecDepth 100000 in
theorem lp_X7_wordCode {d : Nat} {Y : mY} {F : mF} {M : mM} {L : mL} {t : List Int32} {p q : Nat} {Q : Option Value → mW → Prop} (ht : LL (F 34 25) (M 46) t) (h150 : t.length ≤ 150) (hqt : q ≤ t.length) (hpq : p ≤ q) :
    ∀ (n j : Nat) (x : Int32), j + n = q → Q (some (.int (if q - p > 5 then 0 else cod x (slc t j q)))) (mXY Y, F, M, L) → Wp d tX7_wordCode 5 [some (.ref 34), some (.int (nI p)), some (.int (nI q)), some (.int x), some (.int (nI j))] [] (mXY Y, F, M, L) Q
  | 0, j, x, hj, hQ => by
    rw [slc_nil (by omega)] at hQ
    refine r_iload (p := 7) rfl rfl rfl ?_
    refine r_iload_n (p := 8) rfl rfl rfl ?_
    refine r_icmp_ge (p := 11) rfl rfl (fun c1 => ?_) (fun c1 => ?_)
    · refine r_iload_n (p := 34) rfl rfl rfl ?_
      refine r_iload_n (p := 35) rfl rfl rfl ?_
      refine r_isub (p := 36) rfl rfl ?_
      rw [nI_sub hpq]
      refine r_iconst (v := 5) (p := 37) rfl rfl rfl ?_
      refine r_icmp_le (p := 40) rfl rfl (fun c2 => ?_) (fun c2 => ?_)
      · refine r_iload_n (p := 45) rfl rfl rfl ?_
        rw [if_neg (show ¬ q - p > 5 from fun z => absurd c2 (Int32.not_le.mpr ((nI_ltI (a := 5) (by omega) (by omega)).mpr z)))] at hQ
        exact r_ireturn rfl trivial hQ
      · refine r_iconst (v := 0) (p := 41) rfl rfl rfl ?_
        refine r_goto rfl ?_
        rw [if_pos (show q - p > 5 from Nat.lt_of_not_le fun z => c2 (nI_le (b := 5) z (by omega)))] at hQ
        exact r_ireturn rfl trivial hQ
    · exact absurd (nI_le (a := q) (b := j) (by omega) (by omega)) c1
  | n + 1, j, x, hj, hQ => by
    rw [slc_cons (by omega) hqt] at hQ
    refine r_iload (p := 7) rfl rfl rfl ?_
    refine r_iload_n (p := 8) rfl rfl rfl ?_
    refine r_icmp_ge (p := 11) rfl rfl (fun c1 => ?_) (fun c1 => ?_)
    · exact absurd c1 (nI_ge (a := j) (b := q) (by omega) (by omega))
    · refine r_bipush (v := 27) (p := 13) rfl rfl rfl ?_
      refine r_iload_n (p := 14) rfl rfl rfl ?_
      refine r_imul (p := 15) rfl rfl ?_
      refine r_aload_n (p := 16) rfl rfl rfl ?_
      refine r_getR (p := 19) rfl rfl rfl rfl rfl ?_
      refine r_iload (p := 21) rfl rfl rfl ?_
      refine r_bald (p := 22) rfl rfl rfl (vp_in_nI (show j < 150 by omega) (by omega)) rfl ?_
      rw [ht.2 j (by omega)]
      refine r_iadd (p := 23) rfl rfl ?_
      refine r_bipush (v := 96) (p := 25) rfl rfl rfl ?_
      refine r_isub (p := 26) rfl rfl ?_
      refine r_istore_n (p := 27) rfl rfl rfl ?_
      refine r_iinc (v := (nI (j + 1))) (p := 30) rfl rfl (nI_1 j) rfl rfl ?_
      refine r_goto rfl ?_
      exact lp_X7_wordCode ht h150 hqt hpq n (j + 1) _ (by omega) hQ
set_option maxRecDepth 100000 in
theorem s_X7_wordCode {d : Nat} {Y : mY} {F : mF} {M : mM} {L : mL} {t : List Int32} {p q : Nat} {Q : Option Value → mW → Prop} (ht : LL (F 34 25) (M 46) t) (h150 : t.length ≤ 150) (hqt : q ≤ t.length) (hpq : p ≤ q) (hQ : Q (some (.int (if q - p > 5 then 0 else cod 0 (slc t p q)))) (mXY Y, F, M, L)) : Cw (d + 1) 62 [.ref 34, .int (nI p), .int (nI q)] (mXY Y, F, M, L) Q := by
  refine Cw_in rfl rfl ?_
  refine r_iconst (v := 0) (p := 1) rfl rfl rfl ?_
  refine r_istore_n (p := 2) rfl rfl rfl ?_
  refine r_iload_n (p := 3) rfl rfl rfl ?_
  refine r_istore (p := 5) rfl rfl rfl ?_
  exact lp_X7_wordCode ht h150 hqt hpq (q - p) p 0 (by omega) hQ
def cmo (x : Int32) : Nat := if x = 776793 then 1 else if x = 365654 then 2 else if x = 12584543 then 3 else if x = 7096509 then 4 else if x = 10492274 then 5 else if x = 388708 then 6 else 0
set_option maxRecDepth 100000 in
theorem s_X7_commandOf {d : Nat} {Y : mY} {w : mW} {x : Int32} {Q : Option Value → mW → Prop} (hQ : Q (some (.int (nI (cmo x)))) w) : Cw (d + 1) 63 [.ref 34, .int x] w Q := by
  refine Cw_in rfl rfl ?_
  refine r_iload_n (p := 1) rfl rfl rfl ?_
  by_cases h0 : x = 776793
  · have e : cmo x = 1 := by unfold cmo; rw [if_pos h0]
    rw [e] at hQ
    subst h0
    refine r_lookup (tgt := 60) rfl (by decide) rfl ?_
    refine r_iconst (v := 1) (p := 61) rfl rfl rfl ?_
    exact r_ireturn rfl trivial hQ
  by_cases h1 : x = 365654
  · have e : cmo x = 2 := by unfold cmo; rw [if_neg h0, if_pos h1]
    rw [e] at hQ
    subst h1
    refine r_lookup (tgt := 62) rfl (by decide) rfl ?_
    refine r_iconst (v := 2) (p := 63) rfl rfl rfl ?_
    exact r_ireturn rfl trivial hQ
  by_cases h2 : x = 12584543
  · have e : cmo x = 3 := by unfold cmo; rw [if_neg h0, if_neg h1, if_pos h2]
    rw [e] at hQ
    subst h2
    refine r_lookup (tgt := 64) rfl (by decide) rfl ?_
    refine r_iconst (v := 3) (p := 65) rfl rfl rfl ?_
    exact r_ireturn rfl trivial hQ
  by_cases h3 : x = 7096509
  · have e : cmo x = 4 := by unfold cmo; rw [if_neg h0, if_neg h1, if_neg h2, if_pos h3]
    rw [e] at hQ
    subst h3
    refine r_lookup (tgt := 66) rfl (by decide) rfl ?_
    refine r_iconst (v := 4) (p := 67) rfl rfl rfl ?_
    exact r_ireturn rfl trivial hQ
  by_cases h4 : x = 10492274
  · have e : cmo x = 5 := by unfold cmo; rw [if_neg h0, if_neg h1, if_neg h2, if_neg h3, if_pos h4]
    rw [e] at hQ
    subst h4
    refine r_lookup (tgt := 68) rfl (by decide) rfl ?_
    refine r_iconst (v := 5) (p := 69) rfl rfl rfl ?_
    exact r_ireturn rfl trivial hQ
  by_cases h5 : x = 388708
  · have e : cmo x = 6 := by unfold cmo; rw [if_neg h0, if_neg h1, if_neg h2, if_neg h3, if_neg h4, if_pos h5]
    rw [e] at hQ
    subst h5
    refine r_lookup (tgt := 70) rfl (by decide) rfl ?_
    refine r_bipush (v := 6) (p := 72) rfl rfl rfl ?_
    exact r_ireturn rfl trivial hQ
  have e : cmo x = 0 := by unfold cmo; rw [if_neg h0, if_neg h1, if_neg h2, if_neg h3, if_neg h4, if_neg h5]
  rw [e] at hQ
  have ne : ∀ v : Int32, ¬ x = v → ¬ v.toInt = x.toInt := fun v h q => h (Int32.toInt_inj.mp q.symm)
  have em : mlku 72 #[(365654, 61), (388708, 69), (776793, 59), (7096509, 65), (10492274, 67), (12584543, 63)] 1 x = some 73 := by
    show mtn ((1 : Nat) + (if (365654 : Int) = x.toInt then 61 else if (388708 : Int) = x.toInt then 69 else if (776793 : Int) = x.toInt then 59 else if (7096509 : Int) = x.toInt then 65 else if (10492274 : Int) = x.toInt then 67 else if (12584543 : Int) = x.toInt then 63 else 72)) = _
    rw [if_neg (show ¬ (365654 : Int) = x.toInt from ne 365654 h1), if_neg (show ¬ (388708 : Int) = x.toInt from ne 388708 h5), if_neg (show ¬ (776793 : Int) = x.toInt from ne 776793 h0), if_neg (show ¬ (7096509 : Int) = x.toInt from ne 7096509 h3), if_neg (show ¬ (10492274 : Int) = x.toInt from ne 10492274 h4), if_neg (show ¬ (12584543 : Int) = x.toInt from ne 12584543 h2)]
    rfl
  refine r_lookup (tgt := 73) rfl (by decide) em ?_
  refine r_iconst (v := 0) (p := 74) rfl rfl rfl ?_
  exact r_ireturn rfl trivial hQ
def dl (x : Int32) : Nat := x.toNatClampNeg - 96
abbrev ltr (x : Int32) : Prop := ¬ x < 97 ∧ ¬ 122 < x
theorem dl_e {x : Int32} (h : ltr x) : x = nI (96 + dl x) ∧ 1 ≤ dl x ∧ dl x ≤ 26 := by
  obtain ⟨n, hn, e⟩ := nI_of2 (M := 122) (n := 122) (x := x) rfl (fun q => h.1 (Int32.lt_trans q (by decide))) (Int32.not_lt.mp h.2)
  have h97 : 97 ≤ n := Nat.le_of_not_lt fun q => h.1 (by rw [e]; exact (nI_ltI (b := 97) (by omega) (by omega)).mpr q)
  unfold dl
  rw [e, nI_clamp (by omega)]
  exact ⟨by congr 1; omega, by omega, by omega⟩
def cr : List Nat → Nat
  | [] => 0
  | x :: l => 27 * cr l + x
theorem cr_inj : ∀ {a b : List Nat}, (∀ x ∈ a, 1 ≤ x ∧ x ≤ 26) → (∀ x ∈ b, 1 ≤ x ∧ x ≤ 26) → cr a = cr b → a = b
  | [], [], _, _, _ => rfl
  | [], y :: b, _, h, e => by have := (h y List.mem_cons_self); unfold cr at e; omega
  | x :: a, [], h, _, e => by have := (h x List.mem_cons_self); unfold cr at e; omega
  | x :: a, y :: b, h1, h2, e => by
    have p1 := h1 x List.mem_cons_self
    have p2 := h2 y List.mem_cons_self
    unfold cr at e
    have ex : x = y := by omega
    have ec : cr a = cr b := by omega
    rw [ex, cr_inj (fun z hz => h1 z (List.mem_cons_of_mem _ hz)) (fun z hz => h2 z (List.mem_cons_of_mem _ hz)) ec]
theorem cod_app {c : Int32} {l : List Int32} {x : Int32} : cod c (l ++ [x]) = 27 * cod c l + x - 96 := by
  unfold cod
  rw [List.foldl_append]
  rfl
theorem cod_cr : ∀ {l : List Int32}, (∀ x ∈ l, ltr x) → cod 0 l.reverse = nI (cr (l.map dl))
  | [], _ => rfl
  | x :: l, h => by
    have hx := (dl_e (h x List.mem_cons_self)).1
    rw [List.reverse_cons, cod_app, cod_cr (fun y hy => h y (List.mem_cons_of_mem _ hy))]
    show 27 * nI (cr (l.map dl)) + x - 96 = nI (27 * cr (l.map dl) + dl x)
    rw [← nI_add, show nI (27 * cr (l.map dl)) = 27 * nI (cr (l.map dl)) by rw [show (27 : Int32) = nI 27 from rfl]; simp [nI]]
    have hx2 : x = 96 + nI (dl x) := by rw [show (96 : Int32) = nI 96 from rfl, nI_add]; exact hx
    generalize nI (cr (l.map dl)) = c
    generalize nI (dl x) = y at hx2 ⊢
    rw [hx2]
    grind
theorem cr_lt : ∀ {n : Nat} {l : List Nat}, (∀ x ∈ l, x ≤ 26) → l.length ≤ n → cr l < 27 ^ n
  | 0, [], _, _ => by show 0 < 1; omega
  | 0, x :: l, _, h => by cases h
  | n + 1, [], _, _ => Nat.pow_pos (by omega)
  | n + 1, x :: l, h, hl => by
    have := cr_lt (n := n) (l := l) (fun y hy => h y (List.mem_cons_of_mem _ hy)) (by simp at hl; omega)
    have := h x List.mem_cons_self
    show 27 * cr l + x < 27 ^ (n + 1)
    rw [Nat.pow_succ]
    omega
theorem cod_inj {a b : List Int32} (ha : ∀ x ∈ a, ltr x) (hb : ∀ x ∈ b, ltr x) (la : a.length ≤ 5) (lb : b.length ≤ 5) (e : cod 0 a = cod 0 b) : a = b := by
  have ha' : ∀ x ∈ a.reverse, ltr x := fun x hx => ha x (List.mem_reverse.mp hx)
  have hb' : ∀ x ∈ b.reverse, ltr x := fun x hx => hb x (List.mem_reverse.mp hx)
  rw [← List.reverse_reverse a, ← List.reverse_reverse b, cod_cr ha', cod_cr hb'] at e
  have da : ∀ x ∈ a.reverse.map dl, 1 ≤ x ∧ x ≤ 26 := fun x hx => by obtain ⟨y, hy, rfl⟩ := List.mem_map.mp hx; exact (dl_e (ha' y hy)).2
  have db : ∀ x ∈ b.reverse.map dl, 1 ≤ x ∧ x ≤ 26 := fun x hx => by obtain ⟨y, hy, rfl⟩ := List.mem_map.mp hx; exact (dl_e (hb' y hy)).2
  have ca := cr_lt (n := 5) (fun x hx => (da x hx).2) (by simp; omega)
  have cb := cr_lt (n := 5) (fun x hx => (db x hx).2) (by simp; omega)
  have e2 := cr_inj da db (nI_inj (by omega) (by omega) e)
  have e3 : a.reverse = b.reverse := by
    have inj : ∀ {u v : List Int32}, (∀ x ∈ u, ltr x) → (∀ x ∈ v, ltr x) → u.map dl = v.map dl → u = v := by
      intro u
      induction u with
      | nil => intro v _ _ h; cases v with
        | nil => rfl
        | cons => cases h
      | cons x u ih => intro v h1 h2 h; cases v with
        | nil => cases h
        | cons y v =>
          simp only [List.map_cons, List.cons.injEq] at h
          have ex : x = y := by rw [(dl_e (h1 x List.mem_cons_self)).1, (dl_e (h2 y List.mem_cons_self)).1, h.1]
          rw [ex, ih (fun z hz => h1 z (List.mem_cons_of_mem _ hz)) (fun z hz => h2 z (List.mem_cons_of_mem _ hz)) h.2]
    exact inj ha' hb' e2
  rw [← List.reverse_reverse a, e3, List.reverse_reverse]
theorem cmo_wid {l : List Int32} (hl : ∀ x ∈ l, ltr x) : cmo (if l.length > 5 then 0 else cod 0 l) = if wid l = 6 then 0 else wid l + 1 := by
  by_cases h5 : l.length > 5
  · rw [if_pos h5]
    have e : wid l = 6 := by
      unfold wid
      rw [if_neg (fun q => by rw [q] at h5; revert h5; decide), if_neg (fun q => by rw [q] at h5; revert h5; decide), if_neg (fun q => by rw [q] at h5; revert h5; decide), if_neg (fun q => by rw [q] at h5; revert h5; decide), if_neg (fun q => by rw [q] at h5; revert h5; decide), if_neg (fun q => by rw [q] at h5; revert h5; decide)]
    rw [if_pos e]
    rfl
  · rw [if_neg h5]
    have iff : ∀ (T : List Int32) (v : Int32), (∀ x ∈ T, ltr x) → T.length ≤ 5 → cod 0 T = v → (cod 0 l = v ↔ l = T) := fun T v hT hT5 hv => ⟨fun q => cod_inj hl hT (by omega) hT5 (q.trans hv.symm), fun q => by rw [q]; exact hv⟩
    have i0 := iff [97, 108, 108, 111, 99] 776793 (by decide) (by decide) (by decide)
    have i1 := iff [114, 111, 111, 116] 365654 (by decide) (by decide) (by decide)
    have i2 := iff [119, 114, 105, 116, 101] 12584543 (by decide) (by decide) (by decide)
    have i3 := iff [109, 105, 110, 111, 114] 7096509 (by decide) (by decide) (by decide)
    have i4 := iff [115, 116, 97, 114, 116] 10492274 (by decide) (by decide) (by decide)
    have i5 := iff [115, 116, 101, 112] 388708 (by decide) (by decide) (by decide)
    unfold cmo wid
    simp only [i0, i1, i2, i3, i4, i5]
    split
    · rfl
    · split
      · rfl
      · split
        · rfl
        · split
          · rfl
          · split
            · rfl
            · split
              · rfl
              · rfl
