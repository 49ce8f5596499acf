/-! ===== describe and outputByte of the class ===== -/
def fT : List Int32 → Nat → List Int32
  | [], _ => []
  | t :: ts, j => (if j = 0 then [] else [44]) ++ (if t = -1 then [45] else dgn t.toNatClampNeg) ++ fT ts (j + 1)
def dsc (s : mSt) (v : Int32) : List Int32 := [35] ++ dgn v.toNatClampNeg ++ (if sG s v = 2 then [32, 111, 108, 100] else [32, 121, 111, 117, 110, 103]) ++ [32, 97, 103, 101, 61] ++ dgn (sA s v).toNatClampNeg ++ [32, 91] ++ fT (flds s v) 0 ++ [93]
/-- ages are small -/
def aOk (T : Nat) (s : mSt) : Prop := ∀ i, inR i → ∃ m, m ≤ T ∧ sA s i = nI m
theorem fT_len : ∀ {l : List Int32} {j : Nat}, (fT l j).length ≤ 6 * l.length
  | [], _ => Nat.le_refl _
  | t :: ts, j => by
    have h := fT_len (l := ts) (j := j + 1)
    have h1 : ((if j = 0 then [] else [44]) : List Int32).length ≤ 1 := by split <;> simp
    have h2 : (if t = -1 then [45] else dgn t.toNatClampNeg).length ≤ 5 := by
      split
      · simp
      · exact dgn_len.2
    unfold fT
    simp only [List.length_append, List.length_cons]
    omega
theorem fT_b : ∀ {l : List Int32} {j : Nat}, ∀ x ∈ fT l j, byt x
  | [], _, x, hx => by cases hx
  | t :: ts, j, x, hx => by
    unfold fT at hx
    rcases List.mem_append.mp hx with q | q
    · rcases List.mem_append.mp q with q | q
      · split at q
        · cases q
        · rw [List.mem_singleton.mp q]; exact ⟨by decide, by decide⟩
      · split at q
        · rw [List.mem_singleton.mp q]; exact ⟨by decide, by decide⟩
        · exact dgn_b x q
    · exact fT_b x q
theorem st_tx {j : Nat} (hj : j ≤ 10) (X : mX) (F : mF) (M : mM) : tx X F M (1000000 + j) (1000100 + j) (mByt.getD j []) := by
  have e : mkd X (1000100 + j) = mroK X.2.2.2.2 (1000100 + j) := by unfold mkd; rw [blt_f (by unfold mB; omega)]; rfl
  refine ⟨Or.inr ⟨blt_f (by unfold mB; omega), blt_t (by omega), by omega⟩, ?_, fun k hk => ?_, ?_⟩
  · rw [e]
    unfold mroK
    rw [blt_f (show 1000011 ≤ 1000100 + j by omega), blt_f (show 1000100 ≤ 1000100 + j by omega), blt_t (show 1000100 + j < 1000111 by omega), Nat.add_sub_cancel_left]
    show (3, mLen.getD j 0) = _
    rcases (show j = 0 ∨ j = 1 ∨ j = 2 ∨ j = 3 ∨ j = 4 ∨ j = 5 ∨ j = 6 ∨ j = 7 ∨ j = 8 ∨ j = 9 ∨ j = 10 by omega) with q | q | q | q | q | q | q | q | q | q | q <;> subst q <;> rfl
  · have hk2 : k < 2 ^ 31 := by
      have : (mByt.getD j []).length ≤ 10 := by
        rcases (show j = 0 ∨ j = 1 ∨ j = 2 ∨ j = 3 ∨ j = 4 ∨ j = 5 ∨ j = 6 ∨ j = 7 ∨ j = 8 ∨ j = 9 ∨ j = 10 by omega) with q | q | q | q | q | q | q | q | q | q | q <;> subst q <;> decide
      omega
    unfold mgM mroM
    rw [blt_f (show mB ≤ 1000100 + j by unfold mB; omega), blt_t (show 1000100 + j < 1000111 by omega), Nat.add_sub_cancel_left, nI_clamp hk2]
    rfl
  · rcases (show j = 0 ∨ j = 1 ∨ j = 2 ∨ j = 3 ∨ j = 4 ∨ j = 5 ∨ j = 6 ∨ j = 7 ∨ j = 8 ∨ j = 9 ∨ j = 10 by omega) with q | q | q | q | q | q | q | q | q | q | q <;> subst q <;> decide
theorem st_b {j : Nat} (hj : j ≤ 10) : ∀ x ∈ mByt.getD j [], byt x := by
  have : ∀ j : Fin 11, ∀ x ∈ mByt.getD j.1 [], ¬ x < 0 ∧ ¬ 127 < x := by decide
  exact this ⟨j, by omega⟩
set_option maxRecDepth 100000 in
theorem lp_X6_description {d : Nat} {s : mSt} {v : Int32} {h k : Nat} {Q : Option Value → mW → Prop} (hI : Inv s) (hv : liveP s v) (hk : k ≤ 4) (hn : sN s v = nI k) :
    ∀ (n j : Nat) (l : List Int32) (Y : mY) (F : mF) (M : mM) (L : mL) (z : Option Value), j + n = k → RC s F M → SB Y F M h l 0 → l.length + 6 * n ≤ 60 → Y.1 + 2 * n < 690000 → (∀ Y' F' M' L' l3 z, SB Y' F' M' h (l ++ fT ((seqI n j).map (fun q => sR s (4 * v + q))) j) 0 → f53 F M F' M' → gq (2 * n) Y Y' → Wp (d + 6) tX6_description 130 [some (.ref 0), some (.int v), some (.ref h), some l3, z] [] (mXY Y', F', M', L') Q) → Wp (d + 6) tX6_description 67 [some (.ref 0), some (.int v), some (.ref h), some (.int (nI j)), z] [] (mXY Y, F, M, L) Q
  | 0, j, l, Y, F, M, L, z, hj, HC, H, hl, hY, hQ => by
    rw [seqI, List.map_nil, fT, List.append_nil] at hQ
    refine r_iload_n (p := 68) rfl rfl rfl ?_
    refine r_aload_n (p := 69) rfl rfl rfl ?_
    refine r_getR (p := 72) rfl rfl rfl rfl rfl ?_
    refine r_iload_n (p := 73) rfl rfl rfl ?_
    refine r_cV (p := 76) rfl rfl rfl (Nat.le_of_ble_eq_true rfl) rfl (s_X4_fieldsOf ?_)
    rw [HC.fc hv.1, hn]
    refine r_icmp_ge (p := 79) rfl rfl (fun c1 => ?_) (fun c1 => ?_)
    · exact hQ _ _ _ _ _ _ H f53.rf gq.rf
    · exact absurd (nI_le (a := k) (b := j) (by omega) (by omega)) c1
  | n + 1, j, l, Y, F, M, L, z, hj, HC, H, hl, hY, hQ => by
    have hx := nI_x (j := j) (k := k) (by omega) (by omega) hk
    have eT : fT ((seqI (n + 1) j).map (fun q => sR s (4 * v + q))) j = (if j = 0 then [] else [44]) ++ (if sR s (4 * v + nI j) = -1 then [45] else dgn (sR s (4 * v + nI j)).toNatClampNeg) ++ fT ((seqI n (j + 1)).map (fun q => sR s (4 * v + q))) (j + 1) := rfl
    rw [eT] at hQ
    refine r_iload_n (p := 68) rfl rfl rfl ?_
    refine r_aload_n (p := 69) rfl rfl rfl ?_
    refine r_getR (p := 72) rfl rfl rfl rfl rfl ?_
    refine r_iload_n (p := 73) rfl rfl rfl ?_
    refine r_cV (p := 76) rfl rfl rfl (Nat.le_of_ble_eq_true rfl) rfl (s_X4_fieldsOf ?_)
    rw [HC.fc hv.1, hn]
    refine r_icmp_ge (p := 79) rfl rfl (fun c1 => ?_) (fun c1 => ?_)
    · exact absurd c1 (nI_ge (a := j) (b := k) (by omega) (by omega))
    · refine r_iload_n (p := 80) rfl rfl rfl ?_
      refine r_if_le (p := 83) rfl rfl (fun c2 => ?_) (fun c2 => ?_)
      · have hj0 : j = 0 := Nat.eq_zero_of_not_pos fun q => absurd c2 (Int32.not_le.mpr ((nI_ltI (a := 0) (by omega) (by omega)).mpr q))
        rw [if_pos hj0] at hQ
        refine r_aload_n (p := 91) rfl rfl rfl ?_
        refine r_getR (p := 94) rfl rfl rfl rfl rfl ?_
        refine r_iload_n (p := 95) rfl rfl rfl ?_
        refine r_iload_n (p := 96) rfl rfl rfl ?_
        refine r_cV (p := 99) rfl rfl rfl (Nat.le_of_ble_eq_true rfl) rfl (s_X4_fieldOf ?_)
        rw [HC.fld hv hx.1 hx.2.1 (by rw [hn]; exact hx.2.2)]
        refine r_istore (p := 101) rfl rfl rfl ?_
        refine r_iload (p := 103) rfl rfl rfl ?_
        refine r_iconst (v := (-1)) (p := 104) rfl rfl rfl ?_
        refine r_icmp_ne (p := 107) rfl rfl (fun c1 => ?_) (fun c1 => ?_)
        · have hti := (hI.2.2.2.1 (4 * v + nI j)).elim (fun q => absurd q c1) id
          have hte := nI_clampI hti.1
          have hmm : (sR s (4 * v + nI j)).toNatClampNeg < 100000 := by obtain ⟨q, hq, e⟩ := inR_of hti; rw [e, nI_clamp (by omega)]; omega
          refine r_aload_n (p := 118) rfl rfl rfl ?_
          refine r_iload (p := 120) rfl rfl rfl ?_
          rw [← hte]
          refine r_cV (p := 123) rfl rfl (mkd_o (blt_t (by unfold mB; have := H.1; omega)) ((Yk H.1.1).trans H.2.1)) (Nat.le_of_ble_eq_true rfl) rfl (s_J4_appendI (m := (sR s (4 * v + nI j)).toNatClampNeg) H hmm (by omega) (by omega) (fun Y2 F2 M2 L2 H2 f2 g2 => ?_))
          have HC2 : RC s F2 M2 := HC.fr (fun a k ha => f2.1 a k (by omega)) (fun a i ha => f2.2 a i (by omega))
          have hd5 := (dgn_len (m := (sR s (4 * v + nI j)).toNatClampNeg)).2
          refine r_pop (p := 124) rfl rfl rfl ?_
          refine r_iinc (v := (nI (j + 1))) (p := 127) rfl rfl (nI_1 j) rfl rfl ?_
          refine r_goto rfl ?_
          rw [if_neg c1] at hQ
          exact lp_X6_description hI hv hk hn n (j + 1) _ Y2 F2 M2 L2 _ (by omega) HC2 H2 (by simp only [List.length_append]; omega) (by have := g2.2.1; omega) (fun Y' F' M' L' l3 z R f g => hQ Y' F' M' L' l3 z (by rw [List.nil_append, ← List.append_assoc]; exact R) (f2.tr f) ((g2.tr g).up (by omega)))
        · refine r_aload_n (p := 108) rfl rfl rfl ?_
          refine r_bipush (v := 45) (p := 110) rfl rfl rfl ?_
          refine r_cV (p := 113) rfl rfl (mkd_o (blt_t (by unfold mB; have := H.1; omega)) ((Yk H.1.1).trans H.2.1)) (Nat.le_of_ble_eq_true rfl) rfl (s_J4_appendC H ⟨by decide, by decide⟩ (by omega) (by omega) (fun Y2 F2 M2 L2 H2 f2 g2 => ?_))
          have HC2 : RC s F2 M2 := HC.fr (fun a k ha => f2.1 a k (by omega)) (fun a i ha => f2.2 a i (by omega))
          have hd5 : ([45] : List Int32).length ≤ 5 := by simp
          refine r_pop (p := 114) rfl rfl rfl ?_
          refine r_goto rfl ?_
          refine r_iinc (v := (nI (j + 1))) (p := 127) rfl rfl (nI_1 j) rfl rfl ?_
          refine r_goto rfl ?_
          rw [if_pos c1] at hQ
          exact lp_X6_description hI hv hk hn n (j + 1) _ Y2 F2 M2 L2 _ (by omega) HC2 H2 (by simp only [List.length_append]; omega) (by have := g2.2.1; omega) (fun Y' F' M' L' l3 z R f g => hQ Y' F' M' L' l3 z (by rw [List.nil_append, ← List.append_assoc]; exact R) (f2.tr f) ((g2.tr g).up (by omega)))
      · have hj0 : ¬ j = 0 := fun q => c2 (by rw [q]; decide)
        rw [if_neg hj0] at hQ
        refine r_aload_n (p := 84) rfl rfl rfl ?_
        refine r_bipush (v := 44) (p := 86) rfl rfl rfl ?_
        refine r_cV (p := 89) rfl rfl (mkd_o (blt_t (by unfold mB; have := H.1; omega)) ((Yk H.1.1).trans H.2.1)) (Nat.le_of_ble_eq_true rfl) rfl (s_J4_appendC H ⟨by decide, by decide⟩ (by omega) (by omega) (fun Y1 F1 M1 L1 H1 f1 g1 => ?_))
        have HC1 : RC s F1 M1 := HC.fr (fun a k ha => f1.1 a k (by omega)) (fun a i ha => f1.2 a i (by omega))
        refine r_pop (p := 90) rfl rfl rfl ?_
        refine r_aload_n (p := 91) rfl rfl rfl ?_
        refine r_getR (p := 94) rfl rfl rfl rfl rfl ?_
        refine r_iload_n (p := 95) rfl rfl rfl ?_
        refine r_iload_n (p := 96) rfl rfl rfl ?_
        refine r_cV (p := 99) rfl rfl rfl (Nat.le_of_ble_eq_true rfl) rfl (s_X4_fieldOf ?_)
        rw [HC1.fld hv hx.1 hx.2.1 (by rw [hn]; exact hx.2.2)]
        refine r_istore (p := 101) rfl rfl rfl ?_
        refine r_iload (p := 103) rfl rfl rfl ?_
        refine r_iconst (v := (-1)) (p := 104) rfl rfl rfl ?_
        refine r_icmp_ne (p := 107) rfl rfl (fun c1 => ?_) (fun c1 => ?_)
        · have hti := (hI.2.2.2.1 (4 * v + nI j)).elim (fun q => absurd q c1) id
          have hte := nI_clampI hti.1
          have hmm : (sR s (4 * v + nI j)).toNatClampNeg < 100000 := by obtain ⟨q, hq, e⟩ := inR_of hti; rw [e, nI_clamp (by omega)]; omega
          refine r_aload_n (p := 118) rfl rfl rfl ?_
          refine r_iload (p := 120) rfl rfl rfl ?_
          rw [← hte]
          refine r_cV (p := 123) rfl rfl (mkd_o (blt_t (by unfold mB; have := H1.1; omega)) ((Yk H1.1.1).trans H1.2.1)) (Nat.le_of_ble_eq_true rfl) rfl (s_J4_appendI (m := (sR s (4 * v + nI j)).toNatClampNeg) H1 hmm (by simp only [List.length_append, List.length_singleton]; omega) (by have := g1.2.1; omega) (fun Y2 F2 M2 L2 H2 f2 g2 => ?_))
          have HC2 : RC s F2 M2 := HC1.fr (fun a k ha => f2.1 a k (by omega)) (fun a i ha => f2.2 a i (by omega))
          have hd5 := (dgn_len (m := (sR s (4 * v + nI j)).toNatClampNeg)).2
          refine r_pop (p := 124) rfl rfl rfl ?_
          refine r_iinc (v := (nI (j + 1))) (p := 127) rfl rfl (nI_1 j) rfl rfl ?_
          refine r_goto rfl ?_
          rw [if_neg c1] at hQ
          exact lp_X6_description hI hv hk hn n (j + 1) _ Y2 F2 M2 L2 _ (by omega) HC2 H2 (by simp only [List.length_append, List.length_singleton]; omega) (by have := g2.2.1; have := g1.2.1; omega) (fun Y' F' M' L' l3 z R f g => hQ Y' F' M' L' l3 z (by rw [← List.append_assoc, ← List.append_assoc]; exact R) (f1.tr (f2.tr f)) (((g1.tr g2).tr g).up (by omega)))
        · refine r_aload_n (p := 108) rfl rfl rfl ?_
          refine r_bipush (v := 45) (p := 110) rfl rfl rfl ?_
          refine r_cV (p := 113) rfl rfl (mkd_o (blt_t (by unfold mB; have := H1.1; omega)) ((Yk H1.1.1).trans H1.2.1)) (Nat.le_of_ble_eq_true rfl) rfl (s_J4_appendC H1 ⟨by decide, by decide⟩ (by simp only [List.length_append, List.length_singleton]; omega) (by have := g1.2.1; omega) (fun Y2 F2 M2 L2 H2 f2 g2 => ?_))
          have HC2 : RC s F2 M2 := HC1.fr (fun a k ha => f2.1 a k (by omega)) (fun a i ha => f2.2 a i (by omega))
          have hd5 : ([45] : List Int32).length ≤ 5 := by simp
          refine r_pop (p := 114) rfl rfl rfl ?_
          refine r_goto rfl ?_
          refine r_iinc (v := (nI (j + 1))) (p := 127) rfl rfl (nI_1 j) rfl rfl ?_
          refine r_goto rfl ?_
          rw [if_pos c1] at hQ
          exact lp_X6_description hI hv hk hn n (j + 1) _ Y2 F2 M2 L2 _ (by omega) HC2 H2 (by simp only [List.length_append, List.length_singleton]; omega) (by have := g2.2.1; have := g1.2.1; omega) (fun Y' F' M' L' l3 z R f g => hQ Y' F' M' L' l3 z (by rw [← List.append_assoc, ← List.append_assoc]; exact R) (f1.tr (f2.tr f)) (((g1.tr g2).tr g).up (by omega)))
set_option maxRecDepth 100000 in
theorem s_X6_description {d : Nat} {Y : mY} {F : mF} {M : mM} {L : mL} {s : mSt} {v : Int32} {T : Nat} {Q : Option Value → mW → Prop} (HC : RC s F M) (hI : Inv s) (hA : aOk T s) (hT : T < 100000) (hv : liveP s v) (hY : 53 ≤ Y.1 ∧ Y.1 ≤ 600000) (hQ : ∀ y Y' F' M' L', STR (mXY Y') F' M' y (dsc s v) → f53 F M F' M' → gq 30 Y Y' → Q (some (.ref y)) (mXY Y', F', M', L')) : Cw (d + 7) 211 [.ref 0, .int v] (mXY Y, F, M, L) Q := by
  obtain ⟨kf, hk, hn⟩ := hI.2.2.1 _ hv.1
  obtain ⟨mi, hmi, ei⟩ := inR_of hv.1
  obtain ⟨ma, hma, ea⟩ := hA v hv.1
  have hd1 := dgn_len (m := mi)
  have hd2 := dgn_len (m := ma)
  refine Cw_in rfl rfl ?_
  refine r_new (p := 3) rfl rfl ?_
  rw [pX_Y hY.1]
  show Wp _ _ _ _ [.ref Y.1] (mXY (pY Y (0, 1) 4), zF F Y.1, M, zL L Y.1) _
  refine r_dup (p := 4) rfl rfl rfl ?_
  refine r_cI (p := 7) rfl rfl (Nat.le_of_ble_eq_true rfl) rfl (s_J4_init (Y := pY Y (0, 1) 4) ⟨by omega, by show Y.1 < Y.1 + 1; omega, by show Y.1 + 1 < 700000; omega⟩ pY_n zF_at (fun Y1 F1 M1 L1 H1 f1 g1 => ?_))
  have R1 : RC s F1 M1 := HC.fr (fun a k ha => (f1.1 a k (by omega)).trans (zF_ne (by omega))) (fun a i ha => f1.2 a i (by omega))
  have y1 : Y1.1 ≤ Y.1 + 2 := by have := g1.2.1; have : (pY Y (0, 1) 4).1 = Y.1 + 1 := rfl; omega
  refine r_astore_n (p := 8) rfl rfl rfl ?_
  refine r_aload_n (p := 9) rfl rfl rfl ?_
  refine r_bipush (v := 35) (p := 11) rfl rfl rfl ?_
  refine r_cV (p := 14) rfl rfl (mkd_o (blt_t (by unfold mB; have := H1.1; omega)) ((Yk H1.1.1).trans H1.2.1)) (Nat.le_of_ble_eq_true rfl) rfl (s_J4_appendC H1 ⟨by decide, by decide⟩ (by simp only [List.length_append, List.length_cons, List.length_nil]; omega) (by omega) (fun Y2 F2 M2 L2 H2 f2 g2 => ?_))
  have R2 : RC s F2 M2 := R1.fr (fun a k ha => f2.1 a k (by omega)) (fun a i ha => f2.2 a i (by omega))
  have y2 : Y2.1 ≤ Y.1 + 3 := by have := g2.2.1; have := y1; omega
  refine r_iload_n (p := 15) rfl rfl rfl ?_
  rw [ei]
  refine r_cV (p := 18) rfl rfl (mkd_o (blt_t (by unfold mB; have := H2.1; omega)) ((Yk H2.1.1).trans H2.2.1)) (Nat.le_of_ble_eq_true rfl) rfl (s_J4_appendI (m := mi) H2 (by omega) (by simp only [List.length_append, List.length_cons, List.length_nil]; omega) (by omega) (fun Y3 F3 M3 L3 H3 f3 g3 => ?_))
  have R3 : RC s F3 M3 := R2.fr (fun a k ha => f3.1 a k (by omega)) (fun a i ha => f3.2 a i (by omega))
  have y3 : Y3.1 ≤ Y.1 + 4 := by have := g3.2.1; have := y2; omega
  have hcont : ∀ (t : List Int32) (Y4 : mY) (F4 : mF) (M4 : mM) (L4 : mL), t.length ≤ 6 → t = (if sG s v = 2 then [32, 111, 108, 100] else [32, 121, 111, 117, 110, 103]) → SB Y4 F4 M4 Y.1 ([] ++ [35] ++ dgn mi ++ t) 0 → f53 F3 M3 F4 M4 → gq 1 Y3 Y4 → Wp (d + 6) tX6_description 42 [some (.ref 0), some (.int (nI mi)), some (.ref Y.1), none, none] [] (mXY Y4, F4, M4, L4) Q := by
    intro t Y4 F4 M4 L4 ht et H4 f4 g4
    rw [← ei]
    have R4 : RC s F4 M4 := R3.fr (fun a k ha => f4.1 a k (by omega)) (fun a i ha => f4.2 a i (by omega))
    have y4 : Y4.1 ≤ Y.1 + 5 := by have := g4.2.1; have := y3; omega
    refine r_aload_n (p := 43) rfl rfl rfl ?_
    refine r_ldcS (y := 1000003) (p := 45) rfl rfl rfl ?_
    refine r_cV (p := 48) rfl rfl (mkd_o (blt_t (by unfold mB; have := H4.1; omega)) ((Yk H4.1.1).trans H4.2.1)) (Nat.le_of_ble_eq_true rfl) rfl (s_J4_appendS (fun X F M => st_tx (j := 3) (by omega) X F M) (st_b (j := 3) (by omega)) (by show _ + 5 ≤ 80; simp only [List.length_append, List.length_cons, List.length_nil]; omega) (by omega) H4 (by omega) (fun Y5 F5 M5 L5 H5 f5 g5 => ?_))
    have R5 : RC s F5 M5 := R4.fr (fun a k ha => f5.1 a k (by omega)) (fun a i ha => f5.2 a i (by omega))
    have y5 : Y5.1 ≤ Y.1 + 6 := by have := g5.2.1; have := y4; omega
    have e5 : ([] : List Int32) ++ [35] ++ dgn mi ++ t ++ mByt.getD 3 [] = [] ++ [35] ++ dgn mi ++ t ++ [32, 97, 103, 101, 61] := rfl
    rw [e5] at H5
    refine r_aload_n (p := 49) rfl rfl rfl ?_
    refine r_getR (p := 52) rfl rfl rfl rfl rfl ?_
    refine r_iload_n (p := 53) rfl rfl rfl ?_
    refine r_cV (p := 56) rfl rfl rfl (Nat.le_of_ble_eq_true rfl) rfl (s_X4_ageOf ?_)
    rw [R5.ag hv.1, ea]
    refine r_cV (p := 59) rfl rfl (mkd_o (blt_t (by unfold mB; have := H5.1; omega)) ((Yk H5.1.1).trans H5.2.1)) (Nat.le_of_ble_eq_true rfl) rfl (s_J4_appendI (m := ma) H5 (by omega) (by simp only [List.length_append, List.length_cons, List.length_nil]; omega) (by omega) (fun Y6 F6 M6 L6 H6 f6 g6 => ?_))
    have R6 : RC s F6 M6 := R5.fr (fun a k ha => f6.1 a k (by omega)) (fun a i ha => f6.2 a i (by omega))
    have y6 : Y6.1 ≤ Y.1 + 7 := by have := g6.2.1; have := y5; omega
    refine r_ldcS (y := 1000004) (p := 61) rfl rfl rfl ?_
    refine r_cV (p := 64) rfl rfl (mkd_o (blt_t (by unfold mB; have := H6.1; omega)) ((Yk H6.1.1).trans H6.2.1)) (Nat.le_of_ble_eq_true rfl) rfl (s_J4_appendS (fun X F M => st_tx (j := 4) (by omega) X F M) (st_b (j := 4) (by omega)) (by show _ + 2 ≤ 80; simp only [List.length_append, List.length_cons, List.length_nil]; omega) (by omega) H6 (by omega) (fun Y7 F7 M7 L7 H7 f7 g7 => ?_))
    have R7 : RC s F7 M7 := R6.fr (fun a k ha => f7.1 a k (by omega)) (fun a i ha => f7.2 a i (by omega))
    have y7 : Y7.1 ≤ Y.1 + 8 := by have := g7.2.1; have := y6; omega
    have e7 : ([] : List Int32) ++ [35] ++ dgn mi ++ t ++ [32, 97, 103, 101, 61] ++ dgn ma ++ mByt.getD 4 [] = [] ++ [35] ++ dgn mi ++ t ++ [32, 97, 103, 101, 61] ++ dgn ma ++ [32, 91] := rfl
    rw [e7] at H7
    refine r_pop (p := 65) rfl rfl rfl ?_
    refine r_iconst (v := 0) (p := 66) rfl rfl rfl ?_
    refine r_istore_n (p := 67) rfl rfl rfl ?_
    refine lp_X6_description hI hv hk hn kf 0 _ Y7 F7 M7 L7 none (by omega) R7 H7 (by simp only [List.length_append, List.length_cons, List.length_nil]; omega) (by omega) (fun Y8 F8 M8 L8 l8 z8 H8 f8 g8 => ?_)
    have y8 : Y8.1 ≤ Y.1 + 20 := by have := g8.2.1; omega
    have el : ((seqI kf 0).map (fun q => sR s (4 * v + q))) = flds s v := by unfold flds; rw [hn, nI_clamp (by omega)]
    rw [el] at H8
    have hl8 := fT_len (l := flds s v) (j := 0)
    have hl9 : (flds s v).length ≤ 4 := by rw [← el]; simp [seqI_len]; omega
    refine r_aload_n (p := 131) rfl rfl rfl ?_
    refine r_bipush (v := 93) (p := 133) rfl rfl rfl ?_
    refine r_cV (p := 136) rfl rfl (mkd_o (blt_t (by unfold mB; have := H8.1; omega)) ((Yk H8.1.1).trans H8.2.1)) (Nat.le_of_ble_eq_true rfl) rfl (s_J4_appendC H8 ⟨by decide, by decide⟩ (by simp only [List.length_append, List.length_cons, List.length_nil]; omega) (by omega) (fun Y9 F9 M9 L9 H9 f9 g9 => ?_))
    have y9 : Y9.1 ≤ Y.1 + 21 := by have := g9.2.1; omega
    refine r_cV (p := 139) rfl rfl (mkd_o (blt_t (by unfold mB; have := H9.1; omega)) ((Yk H9.1.1).trans H9.2.1)) (Nat.le_of_ble_eq_true rfl) rfl (s_J4_toString H9 (by omega) (fun y Y10 F10 M10 L10 H10 f10 g10 => ?_))
    have ed : [] ++ [35] ++ dgn mi ++ t ++ [32, 97, 103, 101, 61] ++ dgn ma ++ [32, 91] ++ fT (flds s v) 0 ++ [93] = dsc s v := by unfold dsc; rw [ea, nI_clamp (show ma < 2 ^ 31 by omega), et, List.nil_append]; rw [show v.toNatClampNeg = mi by rw [ei]; exact nI_clamp (by omega)]
    rw [ed] at H10
    refine r_areturn rfl ?_
    have f0 : f53 F M F1 M1 := f53.tr ⟨fun a k ha => zF_ne (by omega), fun _ _ _ => rfl⟩ f1
    refine hQ y Y10 F10 M10 L10 H10 (f0.tr (f2.tr (f3.tr (f4.tr (f5.tr (f6.tr (f7.tr (f8.tr (f9.tr f10))))))))) ?_
    have g0 : gq 1 Y (pY Y (0, 1) 4) := ⟨by show Y.1 ≤ Y.1 + 1; omega, Nat.le_refl _, by show Y.2.1 + 4 ≤ _; omega, rfl, rfl⟩
    exact (((((((((g0.tr g1).tr g2).tr g3).tr g4).tr g5).tr g6).tr g7).tr g8).tr (g9.tr g10)).up (by omega)
  refine r_pop (p := 19) rfl rfl rfl ?_
  refine r_aload_n (p := 20) rfl rfl rfl ?_
  refine r_aload_n (p := 21) rfl rfl rfl ?_
  refine r_getR (p := 24) rfl rfl rfl rfl rfl ?_
  refine r_iload_n (p := 25) rfl rfl rfl ?_
  refine r_cV (p := 28) rfl rfl rfl (Nat.le_of_ble_eq_true rfl) rfl (s_X4_inOldGeneration ?_)
  rw [R3.old]
  refine r_if_eq (p := 31) rfl rfl (fun c1 => ?_) (fun c1 => ?_)
  · refine r_ldcS (y := 1000002) (p := 38) rfl rfl rfl ?_
    refine r_cV (p := 41) rfl rfl (mkd_o (blt_t (by unfold mB; have := H3.1; omega)) ((Yk H3.1.1).trans H3.2.1)) (Nat.le_of_ble_eq_true rfl) rfl (s_J4_appendS (fun X F M => st_tx (j := 2) (by omega) X F M) (st_b (j := 2) (by omega)) (by show _ + 6 ≤ 80; simp only [List.length_append, List.length_cons, List.length_nil]; omega) (by omega) H3 (by omega) (fun Y4 F4 M4 L4 H4 f4 g4 => ?_))
    refine r_pop (p := 42) rfl rfl rfl ?_
    rw [← ei] at c1
    have hg : ¬ sG s v = 2 := fun q => absurd c1 (by rw [if_pos ⟨hv.1, q⟩]; decide)
    exact hcont [32, 121, 111, 117, 110, 103] Y4 F4 M4 L4 (by simp) (if_neg hg).symm H4 f4 g4
  · refine r_ldcS (y := 1000001) (p := 33) rfl rfl rfl ?_
    refine r_goto rfl ?_
    refine r_cV (p := 41) rfl rfl (mkd_o (blt_t (by unfold mB; have := H3.1; omega)) ((Yk H3.1.1).trans H3.2.1)) (Nat.le_of_ble_eq_true rfl) rfl (s_J4_appendS (fun X F M => st_tx (j := 1) (by omega) X F M) (st_b (j := 1) (by omega)) (by show _ + 4 ≤ 80; simp only [List.length_append, List.length_cons, List.length_nil]; omega) (by omega) H3 (by omega) (fun Y4 F4 M4 L4 H4 f4 g4 => ?_))
    refine r_pop (p := 42) rfl rfl rfl ?_
    rw [← ei] at c1
    have hg : sG s v = 2 := (Classical.byContradiction fun q => c1 (if_neg q) : oldP s v).2
    exact hcont [32, 111, 108, 100] Y4 F4 M4 L4 (by simp) (if_pos hg).symm H4 f4 g4
def oDe (b : mBs) (v : Int32) : mO := if liveP b.1 v then (nI (dsc b.1 v).length, (b.1, b.2.1, b.2.2.1, dsc b.1 v)) else (-2, bE b (-2))
theorem dsc_len {s : mSt} (hI : Inv s) {v : Int32} (hv : inR v) : (dsc s v).length ≤ 54 := by
  obtain ⟨k, hk, hn⟩ := hI.2.2.1 v hv
  have h1 := (dgn_len (m := v.toNatClampNeg)).2
  have h2 := (dgn_len (m := (sA s v).toNatClampNeg)).2
  have h3 := fT_len (l := flds s v) (j := 0)
  have h4 : (flds s v).length ≤ 4 := by unfold flds; rw [hn, nI_clamp (by omega)]; simp [seqI_len]; omega
  have h5 : (if sG s v = 2 then [32, 111, 108, 100] else [32, 121, 111, 117, 110, 103] : List Int32).length ≤ 6 := by split <;> simp
  unfold dsc
  simp only [List.length_append, List.length_cons, List.length_nil] at *
  omega
theorem dsc_b {s : mSt} {v : Int32} : ∀ x ∈ dsc s v, byt x := by
  intro x hx
  unfold dsc at hx
  have c : ∀ l : List Int32, (∀ x ∈ l, ¬ x < 0 ∧ ¬ 127 < x) → x ∈ l → byt x := fun l h hx => h x hx
  rcases List.mem_append.mp hx with hx | hx
  · rcases List.mem_append.mp hx with hx | hx
    · rcases List.mem_append.mp hx with hx | hx
      · rcases List.mem_append.mp hx with hx | hx
        · rcases List.mem_append.mp hx with hx | hx
          · rcases List.mem_append.mp hx with hx | hx
            · rcases List.mem_append.mp hx with hx | hx
              · exact c _ (by decide) hx
              · exact dgn_b x hx
            · split at hx
              · exact c _ (by decide) hx
              · exact c _ (by decide) hx
          · exact c _ (by decide) hx
        · exact dgn_b x hx
      · exact c _ (by decide) hx
    · exact fT_b x hx
  · exact c _ (by decide) hx
theorem STR.oY {Y : mY} {F : mF} {M : mM} {h : Nat} {l : List Int32} {o : Option Nat} (H : STR (mXY Y) F M h l) : STR (mXY (oY Y o)) F M h l := by
  rcases H with q | ⟨v, h1, h2, h3, h4, h5, h6, h7, h8, h9⟩
  · exact Or.inl q
  · have e : (mXY Y).2.2.2.1 h 0 = Y.2.2.2.2.1 h 0 := Yr h1
    exact Or.inr ⟨v, h1, h2, h3, (Yr h1).trans (e.symm.trans h4), h5, h6, h7, h8, h9⟩
set_option maxRecDepth 100000 in
theorem cs_describe {b : mBs} {v : Int32} {T : Nat} (hI : Inv b.1) (hA : aOk T b.1) (hT : T < 100000) : CS 8 197 [.int v] b (.int (oDe b v).1) (oDe b v).2 := fun d Y F M L Q hY H hQ => by
  refine Cw_in rfl rfl ?_
  refine r_aload_n (p := 1) rfl rfl rfl ?_
  refine r_getR (p := 4) rfl rfl rfl rfl rfl ?_
  refine r_iload_n (p := 5) rfl rfl rfl ?_
  refine r_cV (p := 8) rfl rfl rfl (Nat.le_of_ble_eq_true rfl) rfl (s_X4_isLive ?_)
  rw [H.1.live]
  refine r_if_ne (p := 11) rfl rfl (fun c1 => ?_) (fun c1 => ?_)
  · have hv : liveP b.1 v := Classical.byContradiction fun q => c1 (if_neg q)
    refine r_aload_n (p := 19) rfl rfl rfl ?_
    refine r_aload_n (p := 20) rfl rfl rfl ?_
    refine r_iload_n (p := 21) rfl rfl rfl ?_
    refine r_cV (p := 24) rfl rfl rfl (Nat.le_of_ble_eq_true rfl) rfl (s_X6_description H.1 hI hA hT hv ⟨hY.1, hY.2.1⟩ (fun y Y1 F1 M1 L1 H1 f1 g1 => ?_))
    refine r_putR (p := 27) rfl rfl rfl rfl ?_
    rw [rX_o]
    have hs2 : STR (mXY (oY Y1 (some y))) F1 M1 y (dsc b.1 v) := H1.oY
    obtain ⟨hv1, hT1⟩ := hs2.tx (by have := dsc_len hI hv.1; omega)
    refine r_aload_n (p := 28) rfl rfl rfl ?_
    refine r_getR (y := y) (p := 31) rfl rfl rfl rfl rfl ?_
    refine r_cV (p := 34) rfl rfl hT1.kd (Nat.le_of_ble_eq_true rfl) rfl (s_J0_length hT1 ?_)
    have e : oDe b v = (nI (dsc b.1 v).length, (b.1, b.2.1, b.2.2.1, dsc b.1 v)) := if_pos hv
    rw [e] at hQ
    refine r_ireturn rfl trivial ?_
    refine hQ (oY Y1 (some y)) F1 M1 L1 ⟨?_, ?_, ?_, y, rfl, hs2⟩ ⟨fun k => f1.1 34 k (by omega), fun a i ha hb => f1.2 a i (by omega)⟩ ⟨g1.1, by have : (oY Y1 (some y)).1 = Y1.1 := rfl; have := g1.2.1; omega, by have : (oY Y1 (some y)).2.1 = Y1.2.1 := rfl; have := g1.2.2.1; omega, g1.2.2.2.2⟩
    · exact H.1.fr (fun a k ha => f1.1 a k (by omega)) (fun a i ha => f1.2 a i (by omega))
    · exact fun k hk => (f1.2 _ _ (by omega)).trans (H.2.1 k hk)
    · show LL (F1 29 3) (M1 32) b.2.2.1
      rw [f1.1 _ _ (by omega)]
      exact H.2.2.1.fr (fun i => f1.2 _ _ (by omega))
  · refine r_aload_n (p := 12) rfl rfl rfl ?_
    refine r_bipush (v := (-2)) (p := 14) rfl rfl rfl ?_
    refine r_cV (p := 17) rfl rfl rfl (Nat.le_of_ble_eq_true rfl) rfl (s_X6_counted ?_)
    rw [f_cnt]
    have e : oDe b v = (-2, bE b (-2)) := if_neg (fun q => absurd c1 (by rw [if_pos q]; decide))
    rw [e] at hQ
    have z := H.cnt (-2)
    refine r_ireturn rfl trivial ?_
    exact hQ Y F _ L z.1 z.2 gr.rf
set_option maxRecDepth 100000 in
theorem cs_outputByte {b : mBs} {i : Int32} (hl : b.2.2.2.length ≤ 64) (hc : ∀ x ∈ b.2.2.2, byt x) : CS 5 198 [.int i] b (.int (oAt b.2.2.2 b i).1) (oAt b.2.2.2 b i).2 := fun d Y F M L Q hY H hQ => by
  obtain ⟨ho, hy, hs⟩ := H.2.2.2
  obtain ⟨hv, hT⟩ := hs.tx (by omega)
  have hro : (mXY Y).2.2.2.1 0 6 = some ho := hy
  refine Cw_in rfl rfl ?_
  refine r_iload_n (p := 1) rfl rfl rfl ?_
  refine r_if_ge (p := 4) rfl rfl (fun c1 => ?_) (fun c1 => ?_)
  · refine r_iload_n (p := 12) rfl rfl rfl ?_
    refine r_aload_n (p := 13) rfl rfl rfl ?_
    refine r_getR (p := 16) rfl rfl rfl hro rfl ?_
    refine r_cV (p := 19) rfl rfl hT.kd (Nat.le_of_ble_eq_true rfl) rfl (s_J0_length hT ?_)
    refine r_icmp_lt (p := 22) rfl rfl (fun c2 => ?_) (fun c2 => ?_)
    · obtain ⟨j, hj, ej⟩ := nI_of (Int32.not_lt.mpr c1)
      have hjl : j < b.2.2.2.length := (nI_ltI hj (by omega)).mp (by rw [← ej]; exact c2)
      refine r_aload_n (p := 26) rfl rfl rfl ?_
      refine r_getR (p := 29) rfl rfl rfl hro rfl ?_
      refine r_iload_n (p := 30) rfl rfl rfl ?_
      rw [ej]
      refine r_cV (p := 33) rfl rfl hT.kd (Nat.le_of_ble_eq_true rfl) rfl (s_J0_charAt hT hjl hY.2.2 (hc _ (getD_mem hjl)) ?_)
      have e : oAt b.2.2.2 b i = (b.2.2.2.getD j 0, b) := by unfold oAt atL; rw [if_neg (Int32.not_lt.mpr c1), if_pos c2, ej, nI_clamp hj]
      rw [e] at hQ
      refine r_ireturn rfl trivial ?_
      exact hQ Y F _ L H frc.rf gr.rf
    · refine r_bipush (v := (-5)) (p := 24) rfl rfl rfl ?_
      have e : oAt b.2.2.2 b i = (-5, b) := by unfold oAt atL; rw [if_neg (Int32.not_lt.mpr c1), if_neg c2]
      rw [e] at hQ
      refine r_ireturn rfl trivial ?_
      exact hQ Y F _ L H frc.rf gr.rf
  · refine r_aload_n (p := 5) rfl rfl rfl ?_
    refine r_bipush (v := (-2)) (p := 7) rfl rfl rfl ?_
    refine r_cV (p := 10) rfl rfl rfl (Nat.le_of_ble_eq_true rfl) rfl (s_X6_counted ?_)
    rw [f_cnt]
    have e : oAt b.2.2.2 b i = (-2, bE b (-2)) := if_pos (Int32.not_le.mp c1)
    rw [e] at hQ
    have z := H.cnt (-2)
    refine r_ireturn rfl trivial ?_
    exact hQ Y F _ L z.1 z.2 gr.rf
