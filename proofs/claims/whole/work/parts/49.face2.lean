/-! ===== what each call answers and leaves ===== -/
abbrev mO : Type := Int32 × mBs
def oRs (b : mBs) (x y z : Int32) : mO := if (x < 8 ∨ 64 < x) ∨ (y < 16 ∨ 128 < y) ∨ (z < 1 ∨ 5 < z) then (-2, bE b (-2)) else (nI (sNu b.1).length + cnt (sG b.1) 2, (rstS b.1 x y z, b.2))
def oAl (b : mBs) (v : Int32) : mO := bS b (aloc b.1 v)
def oWr (b : mBs) (i j t : Int32) : mO := bS b (stF b.1 i j t)
def oSr (b : mBs) (i t : Int32) : mO := bS b (stR b.1 i t)
def oMi (b : mBs) : mO := ((minr b.1).1, ((minr b.1).2, b.2))
def oBg (b : mBs) : mO := bS b (bgn b.1)
def oSt (b : mBs) (v : Int32) : mO := bS b (adv b.1 v)
def oEx (b : mBs) (v : Int32) : mO := (if liveP b.1 v then 1 else 0, b)
def oIo (b : mBs) (v : Int32) : mO := if liveP b.1 v then (if oldP b.1 v then 1 else 0, b) else (-2, bE b (-2))
def oAg (b : mBs) (v : Int32) : mO := if liveP b.1 v then (sA b.1 v, b) else (-2, bE b (-2))
def oRf (b : mBs) (i j : Int32) : mO := if fldP b.1 i j then (sR b.1 (4 * i + j), b) else (-2, bE b (-2))
def oRt (b : mBs) (i : Int32) : mO := if ¬ i < 0 ∧ ¬ 3 < i then (sO b.1 i, b) else (-2, bE b (-2))
def oCo (b : mBs) (v : Int32) : mO := if liveP b.1 v then (if ¬ sPh b.1 = 0 ∧ oldP b.1 v then (sC b.1 v, b) else (-3, bE b (-3))) else (-2, bE b (-2))
def oRe (b : mBs) : mO := (nI (rcc b.1).length, b)
def atL (l : List Int32) (i : Int32) : Int32 := if i < nI l.length then l.getD i.toNatClampNeg 0 else -5
def oAt (l : List Int32) (b : mBs) (i : Int32) : mO := if i < 0 then (-2, bE b (-2)) else (atL l i, b)
def oEc (b : mBs) (k : Int32) : mO := if ¬ k < 0 ∧ ¬ 2 < k then (b.2.1 k, b) else (-2, bE b (-2))
def oAp (b : mBs) (v : Int32) : mO := if v < 0 ∨ 127 < v then (-2, bE b (-2)) else if 150 ≤ b.2.2.1.length then (-4, bE b (-4)) else (nI (b.2.2.1.length + 1), (b.1, b.2.1, b.2.2.1 ++ [v], b.2.2.2))
def oCl (b : mBs) : mO := (nI b.2.2.1.length, (b.1, b.2.1, [], b.2.2.2))
theorem IL.atx {h : Nat} {l : List Int32} {F : mF} {M : mM} (H : IL h l F M) {i : Int32} (h0 : ¬ i < 0) : f_X1_at F M h i = atL l i := by
  have hl := H.len
  unfold f_X1_at atL
  rw [if_neg h0, H.1]
  by_cases h1 : nI l.length ≤ i
  · rw [if_pos h1, if_neg (Int32.not_lt.mpr h1)]
  · rw [if_neg h1, if_pos (Int32.not_le.mp h1)]
    obtain ⟨k, hk, rfl⟩ := nI_of h0
    have hk2 := (nI_ltI hk (by omega)).mp (Int32.not_le.mp h1)
    rw [H.2.2.2.1 k hk2, nI_clamp hk]
def f_X6_isError (F : mF) (M : mM) (x : Int32) : Int32 := (if x = (-2) then 1 else (if x = (-3) then 1 else (if x = (-4) then 1 else 0)))
set_option maxRecDepth 100000 in
theorem s_X6_isError {d : Nat} {X : mX} {F : mF} {M : mM} {L : mL} {x : Int32} {Q : Option Value → mW → Prop} (hQ : Q (some (.int (f_X6_isError F M x))) (X, F, M, L)) : Cw (d + 1) 205 [.int x] (X, F, M, L) Q := by
  refine Cw_in rfl rfl ?_
  refine r_iload_n (p := 1) rfl rfl rfl ?_
  refine r_bipush (v := (-2)) (p := 3) rfl rfl rfl ?_
  refine r_icmp_eq (p := 6) rfl rfl (fun c1 => ?_) (fun c1 => ?_)
  · refine r_iconst (v := 1) (p := 19) rfl rfl rfl ?_
    refine r_goto rfl ?_
    refine r_ireturn rfl mok_1 ?_
    simp only [f_X6_isError, if_pos c1] at hQ; exact hQ
  · refine r_iload_n (p := 7) rfl rfl rfl ?_
    refine r_bipush (v := (-3)) (p := 9) rfl rfl rfl ?_
    refine r_icmp_eq (p := 12) rfl rfl (fun c2 => ?_) (fun c2 => ?_)
    · refine r_iconst (v := 1) (p := 19) rfl rfl rfl ?_
      refine r_goto rfl ?_
      refine r_ireturn rfl mok_1 ?_
      simp only [f_X6_isError, if_neg c1, if_pos c2] at hQ; exact hQ
    · refine r_iload_n (p := 13) rfl rfl rfl ?_
      refine r_bipush (v := (-4)) (p := 15) rfl rfl rfl ?_
      refine r_icmp_ne (p := 18) rfl rfl (fun c3 => ?_) (fun c3 => ?_)
      · refine r_iconst (v := 0) (p := 23) rfl rfl rfl ?_
        refine r_ireturn rfl mok_0 ?_
        simp only [f_X6_isError, if_neg c1, if_neg c2, if_neg c3] at hQ; exact hQ
      · refine r_iconst (v := 1) (p := 19) rfl rfl rfl ?_
        refine r_goto rfl ?_
        refine r_ireturn rfl mok_1 ?_
        simp only [f_X6_isError, if_neg c1, if_neg c2, if_pos c3] at hQ; exact hQ
theorem err_in {F : mF} {M : mM} {x : Int32} (h : ¬ f_X6_isError F M x = 0) : x = -2 ∨ x = -3 ∨ x = -4 := by
  unfold f_X6_isError at h
  split at h
  · exact Or.inl ‹_›
  · split at h
    · exact Or.inr (Or.inl ‹_›)
    · split at h
      · exact Or.inr (Or.inr ‹_›)
      · exact absurd rfl h
theorem err_no {F : mF} {M : mM} {x : Int32} (h : f_X6_isError F M x = 0) : ¬ (x = -2 ∨ x = -3 ∨ x = -4) := by
  unfold f_X6_isError at h
  split at h
  · exact absurd h (by decide)
  · split at h
    · exact absurd h (by decide)
    · split at h
      · exact absurd h (by decide)
      · exact fun z => by rcases z with q | q | q <;> contradiction
theorem er_vp {r : Int32} (h : r = -2 ∨ r = -3 ∨ r = -4) : vp_in (-2 - r) 3 := by
  rcases h with q | q | q
  · rw [q]; exact vpf2
  · rw [q]; exact vpf3
  · rw [q]; exact vpf4
def f_X6_counted (F : mF) (M : mM) (x : Int32) : Int32 := (if (f_X6_isError F M x) = 0 then x else x)
def gM_X6_counted (F : mF) (M : mM) (x : Int32) : mM := (if (f_X6_isError F M x) = 0 then M else (uM M 33 ((-2) - x) ((M 33 ((-2) - x)) + 1)))
set_option maxRecDepth 100000 in
theorem s_X6_counted {d : Nat} {Y : mY} {F : mF} {M : mM} {L : mL} {x : Int32} {Q : Option Value → mW → Prop} (hQ : Q (some (.int (f_X6_counted F M x))) ((mXY Y), F, gM_X6_counted F M x, L)) : Cw (d + 2) 206 [.ref 0, .int x] ((mXY Y), F, M, L) Q := by
  refine Cw_in rfl rfl ?_
  refine r_iload_n (p := 1) rfl rfl rfl ?_
  refine r_cS1 (p := 4) rfl rfl (Nat.le_of_ble_eq_true rfl) rfl (s_X6_isError  ?_)
  refine r_if_eq (p := 7) rfl rfl (fun c1 => ?_) (fun c1 => ?_)
  · refine r_iload_n (p := 21) rfl rfl rfl ?_
    refine r_ireturn rfl trivial ?_
    simp only [f_X6_counted, gM_X6_counted, if_pos c1] at hQ; exact hQ
  · refine r_aload_n (p := 8) rfl rfl rfl ?_
    refine r_getR (p := 11) rfl rfl rfl rfl rfl ?_
    refine r_bipush (v := (-2)) (p := 13) rfl rfl rfl ?_
    refine r_iload_n (p := 14) rfl rfl rfl ?_
    refine r_isub (p := 15) rfl rfl ?_
    refine r_dup2 (p := 16) rfl rfl rfl rfl ?_
    refine r_iald (p := 17) rfl rfl rfl (er_vp (err_in c1)) rfl ?_
    refine r_iconst (v := 1) (p := 18) rfl rfl rfl ?_
    refine r_iadd (p := 19) rfl rfl ?_
    refine r_iast (p := 20) rfl rfl rfl (er_vp (err_in c1)) (by decide) rfl ?_
    refine r_iload_n (p := 21) rfl rfl rfl ?_
    refine r_ireturn rfl trivial ?_
    simp only [f_X6_counted, gM_X6_counted, if_neg c1] at hQ; exact hQ
theorem f_cnt {F : mF} {M : mM} {r : Int32} : f_X6_counted F M r = r := by
  unfold f_X6_counted
  split <;> rfl
theorem BC.cnt {b : mBs} {Y : mY} {F : mF} {M : mM} (H : BC b Y F M) (r : Int32) : BC (bE b r) Y F (gM_X6_counted F M r) ∧ frc F M F (gM_X6_counted F M r) := by
  unfold gM_X6_counted
  by_cases h : f_X6_isError F M r = 0
  · rw [if_pos h]
    refine ⟨?_, frc.rf⟩
    show BC (b.1, (if r = -2 ∨ r = -3 ∨ r = -4 then _ else b.2.1), b.2.2) Y F _
    rw [if_neg (err_no h)]
    exact H
  · rw [if_neg h]
    have h := err_in h
    obtain ⟨h1, h2, h3, x, h4, h5⟩ := H
    obtain ⟨j, hj, e⟩ := er_ix h
    refine ⟨?_, fun _ => rfl, fun a i ha hb => uM_ne (by omega)⟩
    show BC (b.1, (if r = -2 ∨ r = -3 ∨ r = -4 then up1 b.2.1 (-2 - r) (b.2.1 (-2 - r) + 1) else b.2.1), b.2.2) Y F _
    rw [if_pos h]
    refine ⟨h1.fr (fun _ _ _ => rfl) (fun a i ha => uM_ne (by omega)), fun k hk => ?_, h3.fr (fun i => uM_ne (by omega)), x, h4, h5.fr (fun _ _ _ => rfl) (fun a i ha => uM_ne (by omega))⟩
    rw [uM_at, h2 k hk, e, h2 j hj]
def f_X6_exists (F : mF) (M : mM) (v : Int32) : Int32 := (if (f_X4_isLive F M v) = 0 then 0 else 1)
set_option maxRecDepth 100000 in
theorem s_X6_exists {d : Nat} {Y : mY} {F : mF} {M : mM} {L : mL} {v : Int32} {Q : Option Value → mW → Prop} (hQ : Q (some (.int (f_X6_exists F M v))) ((mXY Y), F, M, L)) : Cw (d + 2) 179 [.ref 0, .int v] ((mXY Y), F, M, L) Q := by
  refine Cw_in rfl rfl ?_
  refine r_aload_n (p := 1) rfl rfl rfl ?_
  refine r_getR (p := 4) rfl rfl rfl rfl rfl ?_
  refine r_iload_n (p := 5) rfl rfl rfl ?_
  refine r_cV (p := 8) rfl rfl rfl (Nat.le_of_ble_eq_true rfl) rfl (s_X4_isLive  ?_)
  refine r_if_eq (p := 11) rfl rfl (fun c1 => ?_) (fun c1 => ?_)
  · refine r_iconst (v := 0) (p := 16) rfl rfl rfl ?_
    refine r_ireturn rfl trivial ?_
    simp only [f_X6_exists, if_pos c1] at hQ; exact hQ
  · refine r_iconst (v := 1) (p := 12) rfl rfl rfl ?_
    refine r_goto rfl ?_
    refine r_ireturn rfl trivial ?_
    simp only [f_X6_exists, if_neg c1] at hQ; exact hQ
def f_X6_isOld (F : mF) (M : mM) (v : Int32) : Int32 := (if (f_X4_isLive F M v) = 0 then (f_X6_counted F M (-2)) else (if (f_X4_inOldGeneration F M v) = 0 then 0 else 1))
def gM_X6_isOld (F : mF) (M : mM) (v : Int32) : mM := (if (f_X4_isLive F M v) = 0 then (gM_X6_counted F M (-2)) else (if (f_X4_inOldGeneration F M v) = 0 then M else M))
set_option maxRecDepth 100000 in
theorem s_X6_isOld {d : Nat} {Y : mY} {F : mF} {M : mM} {L : mL} {v : Int32} {Q : Option Value → mW → Prop} (hQ : Q (some (.int (f_X6_isOld F M v))) ((mXY Y), F, gM_X6_isOld F M v, L)) : Cw (d + 3) 180 [.ref 0, .int v] ((mXY Y), F, M, L) Q := by
  refine Cw_in rfl rfl ?_
  refine r_aload_n (p := 1) rfl rfl rfl ?_
  refine r_getR (p := 4) rfl rfl rfl rfl rfl ?_
  refine r_iload_n (p := 5) rfl rfl rfl ?_
  refine r_cV (p := 8) rfl rfl rfl (Nat.le_of_ble_eq_true rfl) rfl (s_X4_isLive  ?_)
  refine r_if_ne (p := 11) rfl rfl (fun c1 => ?_) (fun c1 => ?_)
  · refine r_aload_n (p := 19) rfl rfl rfl ?_
    refine r_getR (p := 22) rfl rfl rfl rfl rfl ?_
    refine r_iload_n (p := 23) rfl rfl rfl ?_
    refine r_cV (p := 26) rfl rfl rfl (Nat.le_of_ble_eq_true rfl) rfl (s_X4_inOldGeneration  ?_)
    refine r_if_eq (p := 29) rfl rfl (fun c2 => ?_) (fun c2 => ?_)
    · refine r_iconst (v := 0) (p := 34) rfl rfl rfl ?_
      refine r_ireturn rfl trivial ?_
      simp only [f_X6_isOld, gM_X6_isOld, if_neg c1, if_pos c2] at hQ; exact hQ
    · refine r_iconst (v := 1) (p := 30) rfl rfl rfl ?_
      refine r_goto rfl ?_
      refine r_ireturn rfl trivial ?_
      simp only [f_X6_isOld, gM_X6_isOld, if_neg c1, if_neg c2] at hQ; exact hQ
  · refine r_aload_n (p := 12) rfl rfl rfl ?_
    refine r_bipush (v := (-2)) (p := 14) rfl rfl rfl ?_
    refine r_cV (p := 17) rfl rfl rfl (Nat.le_of_ble_eq_true rfl) rfl (s_X6_counted  ?_)
    refine r_ireturn rfl trivial ?_
    simp only [f_X6_isOld, gM_X6_isOld, if_pos c1] at hQ; exact hQ
def f_X6_age (F : mF) (M : mM) (v : Int32) : Int32 := (if (f_X4_isLive F M v) = 0 then (f_X6_counted F M (-2)) else (f_X4_ageOf F M v))
def gM_X6_age (F : mF) (M : mM) (v : Int32) : mM := (if (f_X4_isLive F M v) = 0 then (gM_X6_counted F M (-2)) else M)
set_option maxRecDepth 100000 in
theorem s_X6_age {d : Nat} {Y : mY} {F : mF} {M : mM} {L : mL} {v : Int32} {Q : Option Value → mW → Prop} (hQ : Q (some (.int (f_X6_age F M v))) ((mXY Y), F, gM_X6_age F M v, L)) : Cw (d + 3) 181 [.ref 0, .int v] ((mXY Y), F, M, L) Q := by
  refine Cw_in rfl rfl ?_
  refine r_aload_n (p := 1) rfl rfl rfl ?_
  refine r_getR (p := 4) rfl rfl rfl rfl rfl ?_
  refine r_iload_n (p := 5) rfl rfl rfl ?_
  refine r_cV (p := 8) rfl rfl rfl (Nat.le_of_ble_eq_true rfl) rfl (s_X4_isLive  ?_)
  refine r_if_eq (p := 11) rfl rfl (fun c1 => ?_) (fun c1 => ?_)
  · refine r_aload_n (p := 23) rfl rfl rfl ?_
    refine r_bipush (v := (-2)) (p := 25) rfl rfl rfl ?_
    refine r_cV (p := 28) rfl rfl rfl (Nat.le_of_ble_eq_true rfl) rfl (s_X6_counted  ?_)
    refine r_ireturn rfl trivial ?_
    simp only [f_X6_age, gM_X6_age, if_pos c1] at hQ; exact hQ
  · refine r_aload_n (p := 12) rfl rfl rfl ?_
    refine r_getR (p := 15) rfl rfl rfl rfl rfl ?_
    refine r_iload_n (p := 16) rfl rfl rfl ?_
    refine r_cV (p := 19) rfl rfl rfl (Nat.le_of_ble_eq_true rfl) rfl (s_X4_ageOf  ?_)
    refine r_goto rfl ?_
    refine r_ireturn rfl trivial ?_
    simp only [f_X6_age, gM_X6_age, if_neg c1] at hQ; exact hQ
def f_X6_reference (F : mF) (M : mM) (i : Int32) (j : Int32) : Int32 := (if (f_X4_hasField F M i j) = 0 then (f_X6_counted F M (-2)) else (f_X4_fieldOf F M i j))
def gM_X6_reference (F : mF) (M : mM) (i : Int32) (j : Int32) : mM := (if (f_X4_hasField F M i j) = 0 then (gM_X6_counted F M (-2)) else M)
set_option maxRecDepth 100000 in
theorem s_X6_reference {d : Nat} {Y : mY} {F : mF} {M : mM} {L : mL} {i : Int32} {j : Int32} {Q : Option Value → mW → Prop} (hQ : Q (some (.int (f_X6_reference F M i j))) ((mXY Y), F, gM_X6_reference F M i j, L)) : Cw (d + 3) 182 [.ref 0, .int i, .int j] ((mXY Y), F, M, L) Q := by
  refine Cw_in rfl rfl ?_
  refine r_aload_n (p := 1) rfl rfl rfl ?_
  refine r_getR (p := 4) rfl rfl rfl rfl rfl ?_
  refine r_iload_n (p := 5) rfl rfl rfl ?_
  refine r_iload_n (p := 6) rfl rfl rfl ?_
  refine r_cV (p := 9) rfl rfl rfl (Nat.le_of_ble_eq_true rfl) rfl (s_X4_hasField  ?_)
  refine r_if_eq (p := 12) rfl rfl (fun c1 => ?_) (fun c1 => ?_)
  · refine r_aload_n (p := 25) rfl rfl rfl ?_
    refine r_bipush (v := (-2)) (p := 27) rfl rfl rfl ?_
    refine r_cV (p := 30) rfl rfl rfl (Nat.le_of_ble_eq_true rfl) rfl (s_X6_counted  ?_)
    refine r_ireturn rfl trivial ?_
    simp only [f_X6_reference, gM_X6_reference, if_pos c1] at hQ; exact hQ
  · refine r_aload_n (p := 13) rfl rfl rfl ?_
    refine r_getR (p := 16) rfl rfl rfl rfl rfl ?_
    refine r_iload_n (p := 17) rfl rfl rfl ?_
    refine r_iload_n (p := 18) rfl rfl rfl ?_
    refine r_cV (p := 21) rfl rfl rfl (Nat.le_of_ble_eq_true rfl) rfl (s_X4_fieldOf  ?_)
    refine r_goto rfl ?_
    refine r_ireturn rfl trivial ?_
    simp only [f_X6_reference, gM_X6_reference, if_neg c1] at hQ; exact hQ
def f_X6_root (F : mF) (M : mM) (i : Int32) : Int32 := (if (f_X0_hasRoot F M i) = 0 then (f_X6_counted F M (-2)) else (f_X0_rootAt F M i))
def gM_X6_root (F : mF) (M : mM) (i : Int32) : mM := (if (f_X0_hasRoot F M i) = 0 then (gM_X6_counted F M (-2)) else M)
set_option maxRecDepth 100000 in
theorem s_X6_root {d : Nat} {Y : mY} {F : mF} {M : mM} {L : mL} {i : Int32} {Q : Option Value → mW → Prop} (hQ : Q (some (.int (f_X6_root F M i))) ((mXY Y), F, gM_X6_root F M i, L)) : Cw (d + 3) 183 [.ref 0, .int i] ((mXY Y), F, M, L) Q := by
  refine Cw_in rfl rfl ?_
  refine r_aload_n (p := 1) rfl rfl rfl ?_
  refine r_getR (p := 4) rfl rfl rfl rfl rfl ?_
  refine r_iload_n (p := 5) rfl rfl rfl ?_
  refine r_cV (p := 8) rfl rfl rfl (Nat.le_of_ble_eq_true rfl) rfl (s_X0_hasRoot  ?_)
  refine r_if_eq (p := 11) rfl rfl (fun c1 => ?_) (fun c1 => ?_)
  · refine r_aload_n (p := 23) rfl rfl rfl ?_
    refine r_bipush (v := (-2)) (p := 25) rfl rfl rfl ?_
    refine r_cV (p := 28) rfl rfl rfl (Nat.le_of_ble_eq_true rfl) rfl (s_X6_counted  ?_)
    refine r_ireturn rfl trivial ?_
    simp only [f_X6_root, gM_X6_root, if_pos c1] at hQ; exact hQ
  · refine r_aload_n (p := 12) rfl rfl rfl ?_
    refine r_getR (p := 15) rfl rfl rfl rfl rfl ?_
    refine r_iload_n (p := 16) rfl rfl rfl ?_
    refine r_cV (p := 19) rfl rfl rfl (Nat.le_of_ble_eq_true rfl) rfl (s_X0_rootAt  ?_)
    refine r_goto rfl ?_
    refine r_ireturn rfl trivial ?_
    simp only [f_X6_root, gM_X6_root, if_neg c1] at hQ; exact hQ
def f_X6_colour (F : mF) (M : mM) (v : Int32) : Int32 := (if (f_X4_isLive F M v) = 0 then (f_X6_counted F M (-2)) else (if (f_X2_hasColour F M v) = 0 then (f_X6_counted F M (-3)) else (f_X4_colourOf F M v)))
def gM_X6_colour (F : mF) (M : mM) (v : Int32) : mM := (if (f_X4_isLive F M v) = 0 then (gM_X6_counted F M (-2)) else (if (f_X2_hasColour F M v) = 0 then (gM_X6_counted F M (-3)) else M))
set_option maxRecDepth 100000 in
theorem s_X6_colour {d : Nat} {Y : mY} {F : mF} {M : mM} {L : mL} {v : Int32} {Q : Option Value → mW → Prop} (hQ : Q (some (.int (f_X6_colour F M v))) ((mXY Y), F, gM_X6_colour F M v, L)) : Cw (d + 3) 184 [.ref 0, .int v] ((mXY Y), F, M, L) Q := by
  refine Cw_in rfl rfl ?_
  refine r_aload_n (p := 1) rfl rfl rfl ?_
  refine r_getR (p := 4) rfl rfl rfl rfl rfl ?_
  refine r_iload_n (p := 5) rfl rfl rfl ?_
  refine r_cV (p := 8) rfl rfl rfl (Nat.le_of_ble_eq_true rfl) rfl (s_X4_isLive  ?_)
  refine r_if_ne (p := 11) rfl rfl (fun c1 => ?_) (fun c1 => ?_)
  · refine r_aload_n (p := 19) rfl rfl rfl ?_
    refine r_getR (p := 22) rfl rfl rfl rfl rfl ?_
    refine r_iload_n (p := 23) rfl rfl rfl ?_
    refine r_cV (p := 26) rfl rfl rfl (Nat.le_of_ble_eq_true rfl) rfl (s_X2_hasColour  ?_)
    refine r_if_eq (p := 29) rfl rfl (fun c2 => ?_) (fun c2 => ?_)
    · refine r_aload_n (p := 41) rfl rfl rfl ?_
      refine r_bipush (v := (-3)) (p := 43) rfl rfl rfl ?_
      refine r_cV (p := 46) rfl rfl rfl (Nat.le_of_ble_eq_true rfl) rfl (s_X6_counted  ?_)
      refine r_ireturn rfl trivial ?_
      simp only [f_X6_colour, gM_X6_colour, if_neg c1, if_pos c2] at hQ; exact hQ
    · refine r_aload_n (p := 30) rfl rfl rfl ?_
      refine r_getR (p := 33) rfl rfl rfl rfl rfl ?_
      refine r_iload_n (p := 34) rfl rfl rfl ?_
      refine r_cV (p := 37) rfl rfl rfl (Nat.le_of_ble_eq_true rfl) rfl (s_X4_colourOf  ?_)
      refine r_goto rfl ?_
      refine r_ireturn rfl trivial ?_
      simp only [f_X6_colour, gM_X6_colour, if_neg c1, if_neg c2] at hQ; exact hQ
  · refine r_aload_n (p := 12) rfl rfl rfl ?_
    refine r_bipush (v := (-2)) (p := 14) rfl rfl rfl ?_
    refine r_cV (p := 17) rfl rfl rfl (Nat.le_of_ble_eq_true rfl) rfl (s_X6_counted  ?_)
    refine r_ireturn rfl trivial ?_
    simp only [f_X6_colour, gM_X6_colour, if_pos c1] at hQ; exact hQ
def f_X6_youngCount (F : mF) (M : mM) : Int32 := (f_X1_size F M 9)
set_option maxRecDepth 100000 in
theorem s_X6_youngCount {d : Nat} {Y : mY} {F : mF} {M : mM} {L : mL} {Q : Option Value → mW → Prop} (hQ : Q (some (.int (f_X6_youngCount F M))) ((mXY Y), F, M, L)) : Cw (d + 2) 186 [.ref 0] ((mXY Y), F, M, L) Q := by
  refine Cw_in rfl rfl ?_
  refine r_aload_n (p := 1) rfl rfl rfl ?_
  refine r_getR (p := 4) rfl rfl rfl rfl rfl ?_
  refine r_cV (p := 7) rfl rfl rfl (Nat.le_of_ble_eq_true rfl) rfl (s_X0_nursery  ?_)
  refine r_cV (p := 10) rfl rfl rfl (Nat.le_of_ble_eq_true rfl) rfl (s_X1_size (mIL_9 Y) ?_)
  refine r_ireturn rfl trivial ?_
  simp only [f_X6_youngCount] at hQ; exact hQ
def f_X6_youngObject (F : mF) (M : mM) (i : Int32) : Int32 := (if 0 ≤ i then (f_X1_at F M 9 i) else (f_X6_counted F M (-2)))
def gM_X6_youngObject (F : mF) (M : mM) (i : Int32) : mM := (if 0 ≤ i then M else (gM_X6_counted F M (-2)))
set_option maxRecDepth 100000 in
theorem s_X6_youngObject {d : Nat} {Y : mY} {F : mF} {M : mM} {L : mL} {i : Int32} {Q : Option Value → mW → Prop} (h9 : F 9 2 ≤ 100) (hQ : Q (some (.int (f_X6_youngObject F M i))) ((mXY Y), F, gM_X6_youngObject F M i, L)) : Cw (d + 3) 187 [.ref 0, .int i] ((mXY Y), F, M, L) Q := by
  refine Cw_in rfl rfl ?_
  refine r_iload_n (p := 1) rfl rfl rfl ?_
  refine r_if_ge (p := 4) rfl rfl (fun c1 => ?_) (fun c1 => ?_)
  · refine r_aload_n (p := 14) rfl rfl rfl ?_
    refine r_getR (p := 17) rfl rfl rfl rfl rfl ?_
    refine r_cV (p := 20) rfl rfl rfl (Nat.le_of_ble_eq_true rfl) rfl (s_X0_nursery  ?_)
    refine r_iload_n (p := 21) rfl rfl rfl ?_
    refine r_cV (p := 24) rfl rfl rfl (Nat.le_of_ble_eq_true rfl) rfl (s_X1_at (mIL_9 Y) h9 ?_)
    refine r_ireturn rfl trivial ?_
    simp only [f_X6_youngObject, gM_X6_youngObject, if_pos c1] at hQ; exact hQ
  · refine r_aload_n (p := 5) rfl rfl rfl ?_
    refine r_bipush (v := (-2)) (p := 7) rfl rfl rfl ?_
    refine r_cV (p := 10) rfl rfl rfl (Nat.le_of_ble_eq_true rfl) rfl (s_X6_counted  ?_)
    refine r_goto rfl ?_
    refine r_ireturn rfl trivial ?_
    simp only [f_X6_youngObject, gM_X6_youngObject, if_neg c1] at hQ; exact hQ
def f_X6_youngWords (F : mF) (M : mM) : Int32 := (f_X4_wordsYoung F M)
set_option maxRecDepth 100000 in
theorem s_X6_youngWords {d : Nat} {Y : mY} {F : mF} {M : mM} {L : mL} {Q : Option Value → mW → Prop} (hQ : Q (some (.int (f_X6_youngWords F M))) ((mXY Y), F, M, L)) : Cw (d + 2) 188 [.ref 0] ((mXY Y), F, M, L) Q := by
  refine Cw_in rfl rfl ?_
  refine r_aload_n (p := 1) rfl rfl rfl ?_
  refine r_getR (p := 4) rfl rfl rfl rfl rfl ?_
  refine r_cV (p := 7) rfl rfl rfl (Nat.le_of_ble_eq_true rfl) rfl (s_X4_wordsYoung  ?_)
  refine r_ireturn rfl trivial ?_
  simp only [f_X6_youngWords] at hQ; exact hQ
def f_X6_oldCount (F : mF) (M : mM) : Int32 := (f_X4_oldObjects F M)
set_option maxRecDepth 100000 in
theorem s_X6_oldCount {d : Nat} {Y : mY} {F : mF} {M : mM} {L : mL} {Q : Option Value → mW → Prop} (hQ : Q (some (.int (f_X6_oldCount F M))) ((mXY Y), F, M, L)) : Cw (d + 2) 189 [.ref 0] ((mXY Y), F, M, L) Q := by
  refine Cw_in rfl rfl ?_
  refine r_aload_n (p := 1) rfl rfl rfl ?_
  refine r_getR (p := 4) rfl rfl rfl rfl rfl ?_
  refine r_cV (p := 7) rfl rfl rfl (Nat.le_of_ble_eq_true rfl) rfl (s_X4_oldObjects  ?_)
  refine r_ireturn rfl trivial ?_
  simp only [f_X6_oldCount] at hQ; exact hQ
def f_X6_oldWords (F : mF) (M : mM) : Int32 := (f_X4_wordsOld F M)
set_option maxRecDepth 100000 in
theorem s_X6_oldWords {d : Nat} {Y : mY} {F : mF} {M : mM} {L : mL} {Q : Option Value → mW → Prop} (hQ : Q (some (.int (f_X6_oldWords F M))) ((mXY Y), F, M, L)) : Cw (d + 2) 190 [.ref 0] ((mXY Y), F, M, L) Q := by
  refine Cw_in rfl rfl ?_
  refine r_aload_n (p := 1) rfl rfl rfl ?_
  refine r_getR (p := 4) rfl rfl rfl rfl rfl ?_
  refine r_cV (p := 7) rfl rfl rfl (Nat.le_of_ble_eq_true rfl) rfl (s_X4_wordsOld  ?_)
  refine r_ireturn rfl trivial ?_
  simp only [f_X6_oldWords] at hQ; exact hQ
def f_X6_rememberedCount (F : mF) (M : mM) : Int32 := (f_X1_size F M 12)
set_option maxRecDepth 100000 in
theorem s_X6_rememberedCount {d : Nat} {Y : mY} {F : mF} {M : mM} {L : mL} {Q : Option Value → mW → Prop} (hQ : Q (some (.int (f_X6_rememberedCount F M))) ((mXY Y), F, M, L)) : Cw (d + 2) 191 [.ref 0] ((mXY Y), F, M, L) Q := by
  refine Cw_in rfl rfl ?_
  refine r_aload_n (p := 1) rfl rfl rfl ?_
  refine r_getR (p := 4) rfl rfl rfl rfl rfl ?_
  refine r_cV (p := 7) rfl rfl rfl (Nat.le_of_ble_eq_true rfl) rfl (s_X0_rememberedSet  ?_)
  refine r_cV (p := 10) rfl rfl rfl (Nat.le_of_ble_eq_true rfl) rfl (s_X1_size (mIL_12 Y) ?_)
  refine r_ireturn rfl trivial ?_
  simp only [f_X6_rememberedCount] at hQ; exact hQ
def f_X6_remembered (F : mF) (M : mM) (i : Int32) : Int32 := (if 0 ≤ i then (f_X1_at F M 12 i) else (f_X6_counted F M (-2)))
def gM_X6_remembered (F : mF) (M : mM) (i : Int32) : mM := (if 0 ≤ i then M else (gM_X6_counted F M (-2)))
set_option maxRecDepth 100000 in
theorem s_X6_remembered {d : Nat} {Y : mY} {F : mF} {M : mM} {L : mL} {i : Int32} {Q : Option Value → mW → Prop} (h12 : F 12 2 ≤ 100) (hQ : Q (some (.int (f_X6_remembered F M i))) ((mXY Y), F, gM_X6_remembered F M i, L)) : Cw (d + 3) 192 [.ref 0, .int i] ((mXY Y), F, M, L) Q := by
  refine Cw_in rfl rfl ?_
  refine r_iload_n (p := 1) rfl rfl rfl ?_
  refine r_if_ge (p := 4) rfl rfl (fun c1 => ?_) (fun c1 => ?_)
  · refine r_aload_n (p := 14) rfl rfl rfl ?_
    refine r_getR (p := 17) rfl rfl rfl rfl rfl ?_
    refine r_cV (p := 20) rfl rfl rfl (Nat.le_of_ble_eq_true rfl) rfl (s_X0_rememberedSet  ?_)
    refine r_iload_n (p := 21) rfl rfl rfl ?_
    refine r_cV (p := 24) rfl rfl rfl (Nat.le_of_ble_eq_true rfl) rfl (s_X1_at (mIL_12 Y) h12 ?_)
    refine r_ireturn rfl trivial ?_
    simp only [f_X6_remembered, gM_X6_remembered, if_pos c1] at hQ; exact hQ
  · refine r_aload_n (p := 5) rfl rfl rfl ?_
    refine r_bipush (v := (-2)) (p := 7) rfl rfl rfl ?_
    refine r_cV (p := 10) rfl rfl rfl (Nat.le_of_ble_eq_true rfl) rfl (s_X6_counted  ?_)
    refine r_goto rfl ?_
    refine r_ireturn rfl trivial ?_
    simp only [f_X6_remembered, gM_X6_remembered, if_neg c1] at hQ; exact hQ
def f_X6_phase (F : mF) (M : mM) : Int32 := (f_X2_currentPhase F M)
set_option maxRecDepth 100000 in
theorem s_X6_phase {d : Nat} {Y : mY} {F : mF} {M : mM} {L : mL} {Q : Option Value → mW → Prop} (hQ : Q (some (.int (f_X6_phase F M))) ((mXY Y), F, M, L)) : Cw (d + 2) 193 [.ref 0] ((mXY Y), F, M, L) Q := by
  refine Cw_in rfl rfl ?_
  refine r_aload_n (p := 1) rfl rfl rfl ?_
  refine r_getR (p := 4) rfl rfl rfl rfl rfl ?_
  refine r_cV (p := 7) rfl rfl rfl (Nat.le_of_ble_eq_true rfl) rfl (s_X2_currentPhase  ?_)
  refine r_ireturn rfl trivial ?_
  simp only [f_X6_phase] at hQ; exact hQ
def f_X6_greyCount (F : mF) (M : mM) : Int32 := (f_X2_greyObjects F M)
set_option maxRecDepth 100000 in
theorem s_X6_greyCount {d : Nat} {Y : mY} {F : mF} {M : mM} {L : mL} {Q : Option Value → mW → Prop} (hQ : Q (some (.int (f_X6_greyCount F M))) ((mXY Y), F, M, L)) : Cw (d + 3) 194 [.ref 0] ((mXY Y), F, M, L) Q := by
  refine Cw_in rfl rfl ?_
  refine r_aload_n (p := 1) rfl rfl rfl ?_
  refine r_getR (p := 4) rfl rfl rfl rfl rfl ?_
  refine r_cV (p := 7) rfl rfl rfl (Nat.le_of_ble_eq_true rfl) rfl (s_X2_greyObjects  ?_)
  refine r_ireturn rfl trivial ?_
  simp only [f_X6_greyCount] at hQ; exact hQ
def f_X6_promotionFailures (F : mF) (M : mM) : Int32 := (f_X3_failedPromotions F M)
set_option maxRecDepth 100000 in
theorem s_X6_promotionFailures {d : Nat} {Y : mY} {F : mF} {M : mM} {L : mL} {Q : Option Value → mW → Prop} (hQ : Q (some (.int (f_X6_promotionFailures F M))) ((mXY Y), F, M, L)) : Cw (d + 2) 195 [.ref 0] ((mXY Y), F, M, L) Q := by
  refine Cw_in rfl rfl ?_
  refine r_aload_n (p := 1) rfl rfl rfl ?_
  refine r_getR (p := 4) rfl rfl rfl rfl rfl ?_
  refine r_cV (p := 7) rfl rfl rfl (Nat.le_of_ble_eq_true rfl) rfl (s_X3_failedPromotions  ?_)
  refine r_ireturn rfl trivial ?_
  simp only [f_X6_promotionFailures] at hQ; exact hQ
def f_X6_majorCount (F : mF) (M : mM) : Int32 := (f_X2_completedCycles F M)
set_option maxRecDepth 100000 in
theorem s_X6_majorCount {d : Nat} {Y : mY} {F : mF} {M : mM} {L : mL} {Q : Option Value → mW → Prop} (hQ : Q (some (.int (f_X6_majorCount F M))) ((mXY Y), F, M, L)) : Cw (d + 2) 196 [.ref 0] ((mXY Y), F, M, L) Q := by
  refine Cw_in rfl rfl ?_
  refine r_aload_n (p := 1) rfl rfl rfl ?_
  refine r_getR (p := 4) rfl rfl rfl rfl rfl ?_
  refine r_cV (p := 7) rfl rfl rfl (Nat.le_of_ble_eq_true rfl) rfl (s_X2_completedCycles  ?_)
  refine r_ireturn rfl trivial ?_
  simp only [f_X6_majorCount] at hQ; exact hQ
theorem C_exists {b : mBs} {Y : mY} {F : mF} {M : mM} {v : Int32} (H : BC b Y F M) : f_X6_exists F M v = (oEx b v).1 ∧ BC (oEx b v).2 Y F M ∧ frc F M F M := by
  refine ⟨?_, H, frc.rf⟩
  unfold f_X6_exists oEx
  rw [H.1.live]
  by_cases h : liveP b.1 v
  · rw [if_pos h, if_neg (by decide)]
  · rw [if_neg h, if_pos rfl]
theorem C_isOld {b : mBs} {Y : mY} {F : mF} {M : mM} {v : Int32} (H : BC b Y F M) : f_X6_isOld F M v = (oIo b v).1 ∧ BC (oIo b v).2 Y F (gM_X6_isOld F M v) ∧ frc F M F (gM_X6_isOld F M v) := by
  unfold f_X6_isOld gM_X6_isOld oIo
  rw [H.1.live, H.1.old]
  by_cases h : liveP b.1 v
  · simp only [if_pos h, if_neg (show ¬ (1 : Int32) = 0 by decide)]
    refine ⟨?_, by split <;> exact H, by split <;> exact frc.rf⟩
    by_cases h2 : oldP b.1 v
    · simp only [if_pos h2, if_neg (show ¬ (1 : Int32) = 0 by decide)]
    · simp only [if_neg h2, if_true]
  · simp only [if_neg h, if_true]
    exact ⟨f_cnt, H.cnt (-2)⟩
theorem C_age {b : mBs} {Y : mY} {F : mF} {M : mM} {v : Int32} (H : BC b Y F M) : f_X6_age F M v = (oAg b v).1 ∧ BC (oAg b v).2 Y F (gM_X6_age F M v) ∧ frc F M F (gM_X6_age F M v) := by
  unfold f_X6_age gM_X6_age oAg
  rw [H.1.live]
  by_cases h : liveP b.1 v
  · simp only [if_pos h, if_neg (show ¬ (1 : Int32) = 0 by decide)]
    exact ⟨H.1.ag h.1, H, frc.rf⟩
  · simp only [if_neg h, if_true]
    exact ⟨f_cnt, H.cnt (-2)⟩
theorem RC.fld2 {s : mSt} {F : mF} {M : mM} (H : RC s F M) (hI : Inv s) {i j : Int32} (h : fldP s i j) : f_X4_fieldOf F M i j = sR s (4 * i + j) := by
  obtain ⟨n, hn, hn2⟩ := hI.2.2.1 i h.1.1
  exact H.fld h.1 h.2.1 (fun q => absurd (Int32.lt_of_lt_of_le h.2.2 (by rw [hn2]; exact nI_le (a := n) (b := 4) hn (by omega))) (Int32.not_lt.mpr q)) h.2.2
theorem C_reference {b : mBs} {Y : mY} {F : mF} {M : mM} {i j : Int32} (H : BC b Y F M) (hI : Inv b.1) : f_X6_reference F M i j = (oRf b i j).1 ∧ BC (oRf b i j).2 Y F (gM_X6_reference F M i j) ∧ frc F M F (gM_X6_reference F M i j) := by
  unfold f_X6_reference gM_X6_reference oRf
  rw [H.1.hf]
  by_cases h : fldP b.1 i j
  · simp only [if_pos h, if_neg (show ¬ (1 : Int32) = 0 by decide)]
    exact ⟨H.1.fld2 hI h, H, frc.rf⟩
  · simp only [if_neg h, if_true]
    exact ⟨f_cnt, H.cnt (-2)⟩
theorem C_root {b : mBs} {Y : mY} {F : mF} {M : mM} {i : Int32} (H : BC b Y F M) : f_X6_root F M i = (oRt b i).1 ∧ BC (oRt b i).2 Y F (gM_X6_root F M i) ∧ frc F M F (gM_X6_root F M i) := by
  unfold f_X6_root gM_X6_root oRt
  rw [hr_eq]
  by_cases h : ¬ i < 0 ∧ ¬ 3 < i
  · simp only [if_pos h, if_neg (show ¬ (1 : Int32) = 0 by decide)]
    refine ⟨?_, H, frc.rf⟩
    obtain ⟨n, hn, e⟩ := nI_of2 (M := 3) (n := 3) (x := i) rfl h.1 (Int32.not_lt.mp h.2)
    rw [e]
    exact H.1.rt (by omega)
  · simp only [if_neg h, if_true]
    exact ⟨f_cnt, H.cnt (-2)⟩
theorem C_colour {b : mBs} {Y : mY} {F : mF} {M : mM} {v : Int32} (H : BC b Y F M) : f_X6_colour F M v = (oCo b v).1 ∧ BC (oCo b v).2 Y F (gM_X6_colour F M v) ∧ frc F M F (gM_X6_colour F M v) := by
  have hph := H.1.2.2.2.2.2.2.2.2.2.2.2.2.1.1
  unfold f_X6_colour gM_X6_colour oCo f_X2_hasColour
  rw [H.1.live, H.1.old, hph]
  by_cases h : liveP b.1 v
  · simp only [if_pos h, if_neg (show ¬ (1 : Int32) = 0 by decide)]
    by_cases h1 : sPh b.1 = 0
    · simp only [if_pos h1, if_neg (show ¬ (¬ sPh b.1 = 0 ∧ oldP b.1 v) from fun q => q.1 h1), if_true]
      exact ⟨f_cnt, H.cnt (-3)⟩
    · simp only [if_neg h1]
      by_cases h2 : oldP b.1 v
      · simp only [if_pos h2, if_neg (show ¬ (1 : Int32) = 0 by decide), if_pos (show ¬ sPh b.1 = 0 ∧ oldP b.1 v from ⟨h1, h2⟩)]
        refine ⟨?_, H, frc.rf⟩
        unfold f_X4_colourOf
        rw [if_neg h2.1.1, if_neg h2.1.2]
        exact H.1.2.2.2.1 v h2.1 h2.2 h1
      · simp only [if_neg h2, if_true, if_neg (show ¬ (¬ sPh b.1 = 0 ∧ oldP b.1 v) from fun q => h2 q.2)]
        exact ⟨f_cnt, H.cnt (-3)⟩
  · simp only [if_neg h, if_true]
    exact ⟨f_cnt, H.cnt (-2)⟩
theorem C_youngObject {b : mBs} {Y : mY} {F : mF} {M : mM} {i : Int32} (H : BC b Y F M) : f_X6_youngObject F M i = (oAt (sNu b.1) b i).1 ∧ BC (oAt (sNu b.1) b i).2 Y F (gM_X6_youngObject F M i) ∧ frc F M F (gM_X6_youngObject F M i) := by
  unfold f_X6_youngObject gM_X6_youngObject oAt
  by_cases h : i < 0
  · simp only [if_pos h, if_neg (Int32.not_le.mpr h)]
    exact ⟨f_cnt, H.cnt (-2)⟩
  · simp only [if_neg h, if_pos (Int32.not_lt.mp h)]
    exact ⟨(H.1.2.2.2.2.2.2.1).atx h, H, frc.rf⟩
theorem C_remembered {b : mBs} {Y : mY} {F : mF} {M : mM} {i : Int32} (H : BC b Y F M) : f_X6_remembered F M i = (oAt (sKn b.1) b i).1 ∧ BC (oAt (sKn b.1) b i).2 Y F (gM_X6_remembered F M i) ∧ frc F M F (gM_X6_remembered F M i) := by
  unfold f_X6_remembered gM_X6_remembered oAt
  by_cases h : i < 0
  · simp only [if_pos h, if_neg (Int32.not_le.mpr h)]
    exact ⟨f_cnt, H.cnt (-2)⟩
  · simp only [if_neg h, if_pos (Int32.not_lt.mp h)]
    exact ⟨(H.1.2.2.2.2.2.2.2.1).atx h, H, frc.rf⟩
theorem C_youngCount {b : mBs} {Y : mY} {F : mF} {M : mM} (H : BC b Y F M) : f_X6_youngCount F M = nI (sNu b.1).length := H.1.2.2.2.2.2.2.1.1
theorem C_rememberedCount {b : mBs} {Y : mY} {F : mF} {M : mM} (H : BC b Y F M) : f_X6_rememberedCount F M = nI (sKn b.1).length := H.1.2.2.2.2.2.2.2.1.1
theorem C_greyCount {b : mBs} {Y : mY} {F : mF} {M : mM} (H : BC b Y F M) : f_X6_greyCount F M = nI (sQu b.1).length := H.1.2.2.2.2.2.2.2.2.1.1
theorem C_youngWords {b : mBs} {Y : mY} {F : mF} {M : mM} (H : BC b Y F M) : f_X6_youngWords F M = wds (sG b.1) (sN b.1) 1 := H.1.2.2.2.2.2.2.2.2.2.2.2.1.2.1
theorem C_oldWords {b : mBs} {Y : mY} {F : mF} {M : mM} (H : BC b Y F M) : f_X6_oldWords F M = wds (sG b.1) (sN b.1) 2 := H.1.2.2.2.2.2.2.2.2.2.2.2.1.2.2.1
theorem C_oldCount {b : mBs} {Y : mY} {F : mF} {M : mM} (H : BC b Y F M) : f_X6_oldCount F M = cnt (sG b.1) 2 := H.1.2.2.2.2.2.2.2.2.2.2.2.1.2.2.2
theorem C_phase {b : mBs} {Y : mY} {F : mF} {M : mM} (H : BC b Y F M) : f_X6_phase F M = sPh b.1 := H.1.2.2.2.2.2.2.2.2.2.2.2.2.1.1
theorem C_majorCount {b : mBs} {Y : mY} {F : mF} {M : mM} (H : BC b Y F M) : f_X6_majorCount F M = sMa b.1 := H.1.2.2.2.2.2.2.2.2.2.2.2.2.1.2
theorem C_promotionFailures {b : mBs} {Y : mY} {F : mF} {M : mM} (H : BC b Y F M) : f_X6_promotionFailures F M = sFa b.1 := H.1.2.2.2.2.2.2.2.2.2.2.2.2.2.1
