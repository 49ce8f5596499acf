def slo (w : Nat) (vs : List Int32) : List (Nat × Int32) := match w with
  | 0 => [(1, vs.getD 0 0)]
  | 1 => [(1, vs.getD 0 0), (3, vs.getD 1 0)]
  | 2 => [(1, vs.getD 0 0), (2, vs.getD 1 0), (3, vs.getD 2 0)]
  | 5 => [(1, vs.getD 0 0)]
  | _ => []
def MC (M : mM) (cs : List (Nat × List Int32)) : Prop := ∀ k, k < cs.length → M 52 (4 * nI k) = nI ((cs.getD k (0, [])).1 + 1) ∧ ∀ x ∈ slo (cs.getD k (0, [])).1 (cs.getD k (0, [])).2, M 52 (4 * nI k + nI x.1) = x.2
def fM (F : mF) (M : mM) (F' : mF) (M' : mM) : Prop := (∀ a k, a ≠ 34 ∨ k < 34 ∨ 36 < k → F' a k = F a k) ∧ ∀ a i, a ≠ 52 → M' a i = M a i
theorem fM.rf {F : mF} {M : mM} : fM F M F M := ⟨fun _ _ _ => rfl, fun _ _ _ => rfl⟩
theorem fM.tr {F F1 F2 : mF} {M M1 M2 : mM} (a : fM F M F1 M1) (b : fM F1 M1 F2 M2) : fM F M F2 M2 := ⟨fun x k h => (b.1 x k h).trans (a.1 x k h), fun x k h => (b.2 x k h).trans (a.2 x k h)⟩
theorem fN.p {F F' : mF} {M : mM} (a : fN F F') : fM F M F' M := ⟨fun x k h => a x k (by omega), fun _ _ _ => rfl⟩
theorem fM.m {F : mF} {M : mM} {i x : Int32} : fM F M F (uM M 52 i x) := ⟨fun _ _ _ => rfl, fun a j h1 => uM_ne h1⟩
theorem fM.c {F : mF} {M : mM} {x : Int32} : fM F M (uF F 34 34 x) M := ⟨fun a j h => by
  by_cases e : a = 34
  · exact uF_nk (by omega)
  · exact uF_ne e, fun _ _ _ => rfl⟩
theorem ix5 (k i : Nat) : 4 * nI k + nI i = nI (4 * k + i) := by
  rw [← nI_add, show (4 : Int32) = nI 4 from rfl]
  congr 1
  simp [nI]
theorem ix5' (k : Nat) : 4 * nI k = nI (4 * k) := by
  rw [show (4 : Int32) = nI 4 from rfl]
  simp [nI]
theorem ix5_ne {k i c j : Nat} (hk : k < 100) (hc : c < 100) (hi : i < 4) (hj : j < 4) (h : ¬ (k = c ∧ i = j)) : ¬ 4 * nI k + nI i = 4 * nI c + nI j := fun q => by
  rw [ix5, ix5] at q
  have := nI_inj (by omega) (by omega) q
  omega
theorem ix5_0 (k : Nat) : 4 * nI k = 4 * nI k + nI 0 := (Int32.add_zero _).symm
theorem ix5_n0 {c j : Nat} (hc : c < 100) (h1 : 1 ≤ j) (hj : j < 4) : ¬ 4 * nI c = 4 * nI c + nI j := fun q => by
  rw [ix5, ix5'] at q
  have := nI_inj (by omega) (by omega) q
  omega
theorem ix5_0n {k i c : Nat} (hk : k < 100) (hc : c < 100) (hi : i < 4) (h : ¬ k = c) : ¬ 4 * nI k + nI i = 4 * nI c := fun q => by
  rw [ix5, ix5'] at q
  have := nI_inj (by omega) (by omega) q
  omega
theorem slo_i {w : Nat} {vs : List Int32} : ∀ x ∈ slo w vs, 1 ≤ x.1 ∧ x.1 < 4 := by
  intro x hx
  unfold slo at hx
  split at hx
  · rw [List.mem_singleton.mp hx]; exact ⟨by show 1 ≤ 1; omega, by show 1 < 4; omega⟩
  · simp only [List.mem_cons, List.not_mem_nil, or_false] at hx
    rcases hx with q | q <;> rw [q] <;> exact ⟨by show 1 ≤ _; omega, by show _ < 4; omega⟩
  · simp only [List.mem_cons, List.not_mem_nil, or_false] at hx
    rcases hx with q | q | q <;> rw [q] <;> exact ⟨by show 1 ≤ _; omega, by show _ < 4; omega⟩
  · rw [List.mem_singleton.mp hx]; exact ⟨by show 1 ≤ 1; omega, by show 1 < 4; omega⟩
  · cases hx
theorem MC.app {M M' : mM} {cs : List (Nat × List Int32)} {w : Nat} {vs : List Int32} (H : MC M cs) (hc : cs.length < 100) (h1 : ∀ k i, k < cs.length → i < 4 → M' 52 (4 * nI k + nI i) = M 52 (4 * nI k + nI i)) (h3 : M' 52 (4 * nI cs.length) = nI (w + 1)) (h4 : ∀ x ∈ slo w vs, M' 52 (4 * nI cs.length + nI x.1) = x.2) : MC M' (cs ++ [(w, vs)]) := by
  intro k hk
  simp only [List.length_append, List.length_singleton] at hk
  by_cases e : k < cs.length
  · have z := H k e
    have eg : (cs ++ [(w, vs)]).getD k (0, []) = cs.getD k (0, []) := by simp [List.getD_eq_getElem?_getD, List.getElem?_append_left e]
    rw [eg]
    refine ⟨?_, fun x hx => (h1 k x.1 e (slo_i x hx).2).trans (z.2 x hx)⟩
    have := h1 k 0 e (by omega)
    rw [← ix5_0] at this
    exact this.trans z.1
  · have ek : k = cs.length := by omega
    subst ek
    have eg : (cs ++ [(w, vs)]).getD cs.length (0, []) = (w, vs) := by simp [List.getD_eq_getElem?_getD]
    rw [eg]
    exact ⟨h3, h4⟩
theorem MS.m {t : List Int32} {F : mF} {M : mM} {p c : Nat} {W : Option Nat} (H : MS t F M p W c) {i x : Int32} : MS t F (uM M 52 i x) p W c := ⟨H.1.fr (fun i => uM_ne (by omega)), H.2⟩
theorem MS.inc {t : List Int32} {F : mF} {M : mM} {p c : Nat} {W : Option Nat} (H : MS t F M p W c) : MS t (uF F 34 34 (F 34 34 + 1)) M p W (c + 1) := ⟨H.1, H.2.1, H.2.2.1, by show F 34 34 + 1 = _; rw [H.2.2.2.1, nI_1], H.2.2.2.2⟩
theorem MS.er {t : List Int32} {F : mF} {M : mM} {p c e : Nat} (H : MS t F M p (some e) c) : ¬ F 34 36 = -5 := fun q => by
  have h5 := H.2.2.1
  have hx := H.2.2.2.2.1 e rfl
  exact nI_pos (n := e) (by omega) (by rw [show nI e = -5 from h5.symm.trans q]; decide)
theorem argP_f {t : List Int32} {p : Nat} : argP t false p = num t (spc t p) := if_neg (fun q => by cases q.1)
theorem semP_some {t : List Int32} {p e : Nat} : (semP t p (some e)).2 = some e := by
  unfold semP
  split <;> rfl
theorem vp160 {c j : Nat} (hc : c < 25) (hj : j < 4) : vp_in (4 * nI c + nI j) 160 := by rw [ix5]; exact vp_in_nI (by omega) (by omega)
theorem vp160' {c : Nat} (hc : c < 25) : vp_in (4 * nI c) 160 := by rw [ix5']; exact vp_in_nI (by omega) (by omega)
set_option maxRecDepth 100000 in
theorem rc_err109 {d : Nat} {Y : mY} {F : mF} {M : mM} {L : mL} {t : List Int32} {p c e : Nat} {x y : Int32} {Q : Option Value → mW → Prop} (H : MS t F M p (some e) c) (hQ : Q none (mXY Y, F, M, L)) : Wp (d + 4) tX7_readCommand 109 [some (.ref 34), some (.int x), some (.int y)] [] (mXY Y, F, M, L) Q := by
  refine r_aload_n (p := 110) rfl rfl rfl ?_
  refine r_getI (p := 113) rfl rfl rfl rfl ?_
  refine r_bipush (v := (-5)) (p := 115) rfl rfl rfl ?_
  refine r_icmp_eq (p := 118) rfl rfl (fun c1 => ?_) (fun c1 => ?_)
  · exact absurd c1 H.er
  · exact r_return rfl hQ
set_option maxRecDepth 100000 in
theorem rc_err78 {d : Nat} {Y : mY} {F : mF} {M : mM} {L : mL} {t : List Int32} {p c e : Nat} {x y : Int32} {Q : Option Value → mW → Prop} (H : MS t F M p (some e) c) (hQ : Q none (mXY Y, F, M, L)) : Wp (d + 4) tX7_readCommand 78 [some (.ref 34), some (.int x), some (.int y)] [] (mXY Y, F, M, L) Q := by
  refine r_aload_n (p := 79) rfl rfl rfl ?_
  refine r_getI (p := 82) rfl rfl rfl rfl ?_
  refine r_bipush (v := (-5)) (p := 84) rfl rfl rfl ?_
  refine r_icmp_ne (p := 87) rfl rfl (fun c1 => ?_) (fun c1 => ?_)
  · exact rc_err109 H hQ
  · exact absurd c1 H.er
set_option maxRecDepth 100000 in
theorem rc_err51 {d : Nat} {Y : mY} {F : mF} {M : mM} {L : mL} {t : List Int32} {p c e : Nat} {x y : Int32} {Q : Option Value → mW → Prop} (H : MS t F M p (some e) c) (hQ : Q none (mXY Y, F, M, L)) : Wp (d + 4) tX7_readCommand 51 [some (.ref 34), some (.int x), some (.int y)] [] (mXY Y, F, M, L) Q := by
  refine r_aload_n (p := 52) rfl rfl rfl ?_
  refine r_getI (p := 55) rfl rfl rfl rfl ?_
  refine r_bipush (v := (-5)) (p := 57) rfl rfl rfl ?_
  refine r_icmp_ne (p := 60) rfl rfl (fun c1 => ?_) (fun c1 => ?_)
  · exact rc_err78 H hQ
  · exact absurd c1 H.er
set_option maxRecDepth 100000 in
theorem rc_w0 {d : Nat} {Y : mY} {F : mF} {M : mM} {L : mL} {t : List Int32} {p c : Nat} {cs : List (Nat × List Int32)} {Q : Option Value → mW → Prop} (H : MS t F M p none c) (hc : c < 25) (hcs : cs.length = c) (hM : MC M cs) {F2 : mF} (ew : wrd t (spc t p) (lts t (spc t p)) = 0) (R2 : MS t F2 M (lts t (spc t p)) none c) (f2 : fN F F2) (hQ : (∀ F' M' p' c', MS t F' M' p' (cmd t (spc t p)).2.2.2 c' → fM F M F' M' → ((cmd t (spc t p)).2.2.2 = none → p' = (cmd t (spc t p)).2.2.1 ∧ c' = c + 1 ∧ MC M' (cs ++ [((cmd t (spc t p)).1, (cmd t (spc t p)).2.1)])) → Q none (mXY Y, F', M', L))) : Wp (d + 4) tX7_readCommand 4 [some (.ref 34), none, none] [.int 1] (mXY Y, F2, M, L) Q := by
  have h3 := H.2.2.2.2.2
  refine r_istore_n (p := 5) rfl rfl rfl ?_
  refine r_iconst (v := 4) (p := 6) rfl rfl rfl ?_
  refine r_aload_n (p := 7) rfl rfl rfl ?_
  refine r_getI (p := 10) rfl rfl rfl rfl ?_
  rw [R2.2.2.2.1]
  refine r_imul (p := 11) rfl rfl ?_
  refine r_istore_n (p := 12) rfl rfl rfl ?_
  refine r_aload_n (p := 13) rfl rfl rfl ?_
  refine r_getR (p := 16) rfl rfl rfl rfl rfl ?_
  refine r_iload_n (p := 17) rfl rfl rfl ?_
  refine r_iload_n (p := 18) rfl rfl rfl ?_
  refine r_iast (p := 19) rfl rfl rfl (vp160' hc) (by decide) rfl ?_
  have ec : cmd t (spc t p) = (0, (argsP t (aT 0) (lts t (spc t p)) none).1, semP t (argsP t (aT 0) (lts t (spc t p)) none).2.1 (argsP t (aT 0) (lts t (spc t p)) none).2.2) := by
    unfold cmd
    rw [if_neg (by rw [ew]; decide), ew]
  rw [ec] at hQ
  have R2 := R2.m (i := 4 * nI c) (x := 1)
  refine r_aload_n (p := 20) rfl rfl rfl ?_
  refine r_getI (p := 23) rfl rfl rfl rfl ?_
  rw [R2.2.2.1]
  show Wp _ _ _ _ (.int (-5) :: _) _ _
  refine r_bipush (v := (-5)) (p := 25) rfl rfl rfl ?_
  refine r_icmp_ne (p := 28) rfl rfl (fun c => absurd c (by decide)) (fun _ => ?_)
  refine r_iload_n (p := 29) rfl rfl rfl ?_
  refine r_iconst (v := 4) (p := 30) rfl rfl rfl ?_
  refine r_icmp_eq (p := 33) rfl rfl (fun c => absurd c (by decide)) (fun _ => ?_)
  refine r_iload_n (p := 34) rfl rfl rfl ?_
  refine r_iconst (v := 5) (p := 35) rfl rfl rfl ?_
  refine r_icmp_eq (p := 38) rfl rfl (fun c => absurd c (by decide)) (fun _ => ?_)
  refine r_aload_n (p := 39) rfl rfl rfl ?_
  refine r_getR (p := 42) rfl rfl rfl rfl rfl ?_
  refine r_iload_n (p := 43) rfl rfl rfl ?_
  refine r_iconst (v := 1) (p := 44) rfl rfl rfl ?_
  refine r_iadd (p := 45) rfl rfl ?_
  refine r_aload_n (p := 46) rfl rfl rfl ?_
  refine r_iconst (v := 0) (p := 47) rfl rfl rfl ?_
  refine r_cV (p := 50) rfl rfl rfl (Nat.le_of_ble_eq_true rfl) rfl (s_X7_readNumber (g := false) R2 rfl (fun q => by cases q) (fun F3 p0 v0 R3 f3 h0 => ?_))
  rw [← argP_f] at R3 h0
  refine r_iast (p := 51) rfl rfl rfl (vp160 (j := 1) hc (by omega)) (by decide) rfl ?_
  cases hn0 : (argP t false (lts t (spc t p))).2.2 with
  | some e =>
    rw [hn0] at R3
    have ea : (argsP t (aT 0) (lts t (spc t p)) none).2.2 = some e := by
      show (fW none (argP t false (lts t (spc t p))).2.2) = some e
      rw [hn0]
      rfl
    have ew2 : (semP t (argsP t (aT 0) (lts t (spc t p)) none).2.1 (argsP t (aT 0) (lts t (spc t p)) none).2.2).2 = some e := by rw [ea]; exact semP_some
    rw [ew2] at hQ
    have R3 := R3.m (i := 4 * nI c + 1) (x := v0)
    exact rc_err51 R3 (hQ _ _ _ _ R3 (((f2.p.tr fM.m).tr f3.p).tr fM.m) (fun z => by cases z))
  | none =>
    obtain ⟨hp0, hv0⟩ := h0 hn0
    subst hp0 hv0
    rw [hn0] at R3
    have R3 := R3.m (i := 4 * nI c + 1) (x := (argP t false (lts t (spc t p))).1)
    have ea : (argsP t (aT 0) (lts t (spc t p)) none).2.2 = none := by
      show (fW none (argP t false (lts t (spc t p))).2.2) = none
      rw [hn0]
      rfl
    have ep : (argsP t (aT 0) (lts t (spc t p)) none).2.1 = (argP t false (lts t (spc t p))).2.1 := rfl
    rw [ep, ea] at hQ
    refine r_aload_n (p := 52) rfl rfl rfl ?_
    refine r_getI (p := 55) rfl rfl rfl rfl ?_
    rw [R3.2.2.1]
    show Wp _ _ _ _ (.int (-5) :: _) _ _
    refine r_bipush (v := (-5)) (p := 57) rfl rfl rfl ?_
    refine r_icmp_ne (p := 60) rfl rfl (fun c => absurd c (by decide)) (fun _ => ?_)
    refine r_iload_n (p := 61) rfl rfl rfl ?_
    refine r_iconst (v := 3) (p := 62) rfl rfl rfl ?_
    refine r_icmp_ne (p := 65) rfl rfl (fun _ => ?_) (fun c => absurd c (by decide))
    refine r_aload_n (p := 79) rfl rfl rfl ?_
    refine r_getI (p := 82) rfl rfl rfl rfl ?_
    rw [R3.2.2.1]
    show Wp _ _ _ _ (.int (-5) :: _) _ _
    refine r_bipush (v := (-5)) (p := 84) rfl rfl rfl ?_
    refine r_icmp_ne (p := 87) rfl rfl (fun c => absurd c (by decide)) (fun _ => ?_)
    refine r_iload_n (p := 88) rfl rfl rfl ?_
    refine r_iconst (v := 3) (p := 89) rfl rfl rfl ?_
    refine r_icmp_eq (p := 92) rfl rfl (fun c => absurd c (by decide)) (fun _ => ?_)
    refine r_iload_n (p := 93) rfl rfl rfl ?_
    refine r_iconst (v := 2) (p := 94) rfl rfl rfl ?_
    refine r_icmp_ne (p := 97) rfl rfl (fun _ => ?_) (fun c => absurd c (by decide))
    refine r_aload_n (p := 110) rfl rfl rfl ?_
    refine r_getI (p := 113) rfl rfl rfl rfl ?_
    rw [R3.2.2.1]
    show Wp _ _ _ _ (.int (-5) :: _) _ _
    refine r_bipush (v := (-5)) (p := 115) rfl rfl rfl ?_
    refine r_icmp_eq (p := 118) rfl rfl (fun _ => ?_) (fun c => absurd c (by decide))
    refine r_aload_n (p := 120) rfl rfl rfl ?_
    refine r_cV (p := 123) rfl rfl rfl (Nat.le_of_ble_eq_true rfl) rfl (s_X7_skip R3 (fun F8 R8 f8 => ?_))
    refine r_aload_n (p := 124) rfl rfl rfl ?_
    refine r_cV (p := 127) rfl rfl rfl (Nat.le_of_ble_eq_true rfl) rfl (s_X7_here R8 ?_)
    refine r_bipush (v := 59) (p := 129) rfl rfl rfl ?_
    refine r_icmp_ne (p := 132) rfl rfl (fun c1 => ?_) (fun c1 => ?_)
    · refine r_aload_n (p := 156) rfl rfl rfl ?_
      refine r_aload_n (p := 157) rfl rfl rfl ?_
      refine r_getI (p := 160) rfl rfl rfl rfl ?_
      rw [R8.2.1]
      refine r_cV (p := 163) rfl rfl rfl (Nat.le_of_ble_eq_true rfl) rfl (s_X7_wrongAt (e := spc t (argP t false (lts t (spc t p))).2.1) R8 (by have := R8.2.2.2.2.2; omega) rfl (fun F9 R9 f9 => ?_))
      have es : semP t (argP t false (lts t (spc t p))).2.1 none = (spc t (argP t false (lts t (spc t p))).2.1, some (spc t (argP t false (lts t (spc t p))).2.1)) := if_neg (fun q => c1 ((hm_c (by decide)).mpr q))
      rw [es] at hQ
      exact r_return rfl (hQ _ _ _ _ R9 (((((f2.p.tr fM.m).tr f3.p).tr fM.m).tr f8.p).tr f9.p) (fun z => by cases z))
    · have hq : chq t (spc t (argP t false (lts t (spc t p))).2.1) 59 := (hm_c (by decide)).mp c1
      refine r_aload_n (p := 133) rfl rfl rfl ?_
      refine r_dup (p := 134) rfl rfl rfl ?_
      refine r_getI (p := 137) rfl rfl rfl rfl ?_
      refine r_iconst (v := 1) (p := 138) rfl rfl rfl ?_
      refine r_iadd (p := 139) rfl rfl ?_
      refine r_putI (p := 142) rfl rfl rfl rfl ?_
      refine r_aload_n (p := 143) rfl rfl rfl ?_
      refine r_dup (p := 144) rfl rfl rfl ?_
      refine r_getI (p := 147) rfl rfl rfl rfl ?_
      refine r_iconst (v := 1) (p := 148) rfl rfl rfl ?_
      refine r_iadd (p := 149) rfl rfl ?_
      refine r_putI (p := 152) rfl rfl rfl rfl ?_
      refine r_goto rfl ?_
      have es : semP t (argP t false (lts t (spc t p))).2.1 none = (spc t (argP t false (lts t (spc t p))).2.1 + 1, none) := if_pos hq
      rw [es] at hQ
      have RI := (R8.mv hq.1).inc
      subst hcs
      refine r_return rfl (hQ _ _ _ _ RI ((((((f2.p.tr fM.m).tr f3.p).tr fM.m).tr f8.p).tr (fN.u (Or.inl rfl)).p).tr fM.c) (fun z => ⟨rfl, rfl, MC.app hM (by omega) (fun k i hk hi => (uM_at.trans (if_neg (ix5_ne (by omega) (by omega) hi (show 1 < 4 by omega) (by omega)))).trans (uM_at.trans (if_neg (ix5_0n (by omega) (by omega) hi (by omega))))) ((uM_at.trans (if_neg (ix5_n0 (j := 1) (by omega) (by omega) (by omega)))).trans (uM_at.trans (if_pos rfl))) (fun x hx => ?_)⟩))
      have hx : x ∈ [(1, (argP t false (lts t (spc t p))).1)] := hx
      simp only [List.mem_cons, List.not_mem_nil, or_false] at hx
      rw [hx]; exact uM_at.trans (if_pos rfl)
set_option maxRecDepth 100000 in
theorem rc_w1 {d : Nat} {Y : mY} {F : mF} {M : mM} {L : mL} {t : List Int32} {p c : Nat} {cs : List (Nat × List Int32)} {Q : Option Value → mW → Prop} (H : MS t F M p none c) (hc : c < 25) (hcs : cs.length = c) (hM : MC M cs) {F2 : mF} (ew : wrd t (spc t p) (lts t (spc t p)) = 1) (R2 : MS t F2 M (lts t (spc t p)) none c) (f2 : fN F F2) (hQ : (∀ F' M' p' c', MS t F' M' p' (cmd t (spc t p)).2.2.2 c' → fM F M F' M' → ((cmd t (spc t p)).2.2.2 = none → p' = (cmd t (spc t p)).2.2.1 ∧ c' = c + 1 ∧ MC M' (cs ++ [((cmd t (spc t p)).1, (cmd t (spc t p)).2.1)])) → Q none (mXY Y, F', M', L))) : Wp (d + 4) tX7_readCommand 4 [some (.ref 34), none, none] [.int 2] (mXY Y, F2, M, L) Q := by
  have h3 := H.2.2.2.2.2
  refine r_istore_n (p := 5) rfl rfl rfl ?_
  refine r_iconst (v := 4) (p := 6) rfl rfl rfl ?_
  refine r_aload_n (p := 7) rfl rfl rfl ?_
  refine r_getI (p := 10) rfl rfl rfl rfl ?_
  rw [R2.2.2.2.1]
  refine r_imul (p := 11) rfl rfl ?_
  refine r_istore_n (p := 12) rfl rfl rfl ?_
  refine r_aload_n (p := 13) rfl rfl rfl ?_
  refine r_getR (p := 16) rfl rfl rfl rfl rfl ?_
  refine r_iload_n (p := 17) rfl rfl rfl ?_
  refine r_iload_n (p := 18) rfl rfl rfl ?_
  refine r_iast (p := 19) rfl rfl rfl (vp160' hc) (by decide) rfl ?_
  have ec : cmd t (spc t p) = (1, (argsP t (aT 1) (lts t (spc t p)) none).1, semP t (argsP t (aT 1) (lts t (spc t p)) none).2.1 (argsP t (aT 1) (lts t (spc t p)) none).2.2) := by
    unfold cmd
    rw [if_neg (by rw [ew]; decide), ew]
  rw [ec] at hQ
  have R2 := R2.m (i := 4 * nI c) (x := 2)
  refine r_aload_n (p := 20) rfl rfl rfl ?_
  refine r_getI (p := 23) rfl rfl rfl rfl ?_
  rw [R2.2.2.1]
  show Wp _ _ _ _ (.int (-5) :: _) _ _
  refine r_bipush (v := (-5)) (p := 25) rfl rfl rfl ?_
  refine r_icmp_ne (p := 28) rfl rfl (fun c => absurd c (by decide)) (fun _ => ?_)
  refine r_iload_n (p := 29) rfl rfl rfl ?_
  refine r_iconst (v := 4) (p := 30) rfl rfl rfl ?_
  refine r_icmp_eq (p := 33) rfl rfl (fun c => absurd c (by decide)) (fun _ => ?_)
  refine r_iload_n (p := 34) rfl rfl rfl ?_
  refine r_iconst (v := 5) (p := 35) rfl rfl rfl ?_
  refine r_icmp_eq (p := 38) rfl rfl (fun c => absurd c (by decide)) (fun _ => ?_)
  refine r_aload_n (p := 39) rfl rfl rfl ?_
  refine r_getR (p := 42) rfl rfl rfl rfl rfl ?_
  refine r_iload_n (p := 43) rfl rfl rfl ?_
  refine r_iconst (v := 1) (p := 44) rfl rfl rfl ?_
  refine r_iadd (p := 45) rfl rfl ?_
  refine r_aload_n (p := 46) rfl rfl rfl ?_
  refine r_iconst (v := 0) (p := 47) rfl rfl rfl ?_
  refine r_cV (p := 50) rfl rfl rfl (Nat.le_of_ble_eq_true rfl) rfl (s_X7_readNumber (g := false) R2 rfl (fun q => by cases q) (fun F3 p0 v0 R3 f3 h0 => ?_))
  rw [← argP_f] at R3 h0
  refine r_iast (p := 51) rfl rfl rfl (vp160 (j := 1) hc (by omega)) (by decide) rfl ?_
  cases hn0 : (argP t false (lts t (spc t p))).2.2 with
  | some e =>
    rw [hn0] at R3
    have ea : (argsP t (aT 1) (lts t (spc t p)) none).2.2 = some e := by
      show (fW (fW none (argP t false (lts t (spc t p))).2.2) (argP t true (argP t false (lts t (spc t p))).2.1).2.2) = some e
      rw [hn0]
      rfl
    have ew2 : (semP t (argsP t (aT 1) (lts t (spc t p)) none).2.1 (argsP t (aT 1) (lts t (spc t p)) none).2.2).2 = some e := by rw [ea]; exact semP_some
    rw [ew2] at hQ
    have R3 := R3.m (i := 4 * nI c + 1) (x := v0)
    exact rc_err51 R3 (hQ _ _ _ _ R3 (((f2.p.tr fM.m).tr f3.p).tr fM.m) (fun z => by cases z))
  | none =>
    obtain ⟨hp0, hv0⟩ := h0 hn0
    subst hp0 hv0
    rw [hn0] at R3
    have hd0 := (argP_p (t := t) (g := false) (p := (lts t (spc t p)))).2.2.2 hn0 rfl
    have R3 := R3.m (i := 4 * nI c + 1) (x := (argP t false (lts t (spc t p))).1)
    refine r_aload_n (p := 52) rfl rfl rfl ?_
    refine r_getI (p := 55) rfl rfl rfl rfl ?_
    rw [R3.2.2.1]
    show Wp _ _ _ _ (.int (-5) :: _) _ _
    refine r_bipush (v := (-5)) (p := 57) rfl rfl rfl ?_
    refine r_icmp_ne (p := 60) rfl rfl (fun c => absurd c (by decide)) (fun _ => ?_)
    refine r_iload_n (p := 61) rfl rfl rfl ?_
    refine r_iconst (v := 3) (p := 62) rfl rfl rfl ?_
    refine r_icmp_ne (p := 65) rfl rfl (fun _ => ?_) (fun c => absurd c (by decide))
    refine r_aload_n (p := 79) rfl rfl rfl ?_
    refine r_getI (p := 82) rfl rfl rfl rfl ?_
    rw [R3.2.2.1]
    show Wp _ _ _ _ (.int (-5) :: _) _ _
    refine r_bipush (v := (-5)) (p := 84) rfl rfl rfl ?_
    refine r_icmp_ne (p := 87) rfl rfl (fun c => absurd c (by decide)) (fun _ => ?_)
    refine r_iload_n (p := 88) rfl rfl rfl ?_
    refine r_iconst (v := 3) (p := 89) rfl rfl rfl ?_
    refine r_icmp_eq (p := 92) rfl rfl (fun c => absurd c (by decide)) (fun _ => ?_)
    refine r_iload_n (p := 93) rfl rfl rfl ?_
    refine r_iconst (v := 2) (p := 94) rfl rfl rfl ?_
    refine r_icmp_ne (p := 97) rfl rfl (fun c => absurd c (by decide)) (fun _ => ?_)
    refine r_aload_n (p := 98) rfl rfl rfl ?_
    refine r_getR (p := 101) rfl rfl rfl rfl rfl ?_
    refine r_iload_n (p := 102) rfl rfl rfl ?_
    refine r_iconst (v := 3) (p := 103) rfl rfl rfl ?_
    refine r_iadd (p := 104) rfl rfl ?_
    refine r_aload_n (p := 105) rfl rfl rfl ?_
    refine r_cV (p := 108) rfl rfl rfl (Nat.le_of_ble_eq_true rfl) rfl (s_X7_readTarget R3 rfl hd0 (fun F4 p1 v1 R4 f4 h1 => ?_))
    refine r_iast (p := 109) rfl rfl rfl (vp160 (j := 3) hc (by omega)) (by decide) rfl ?_
    cases hn1 : (argP t true (argP t false (lts t (spc t p))).2.1).2.2 with
    | some e =>
      rw [hn1] at R4
      have ea : (argsP t (aT 1) (lts t (spc t p)) none).2.2 = some e := by
        show (fW (fW none (argP t false (lts t (spc t p))).2.2) (argP t true (argP t false (lts t (spc t p))).2.1).2.2) = some e
        rw [hn0]
        rw [hn1]
        rfl
      have ew2 : (semP t (argsP t (aT 1) (lts t (spc t p)) none).2.1 (argsP t (aT 1) (lts t (spc t p)) none).2.2).2 = some e := by rw [ea]; exact semP_some
      rw [ew2] at hQ
      have R4 := R4.m (i := 4 * nI c + 3) (x := v1)
      exact rc_err109 R4 (hQ _ _ _ _ R4 (((((f2.p.tr fM.m).tr f3.p).tr fM.m).tr f4.p).tr fM.m) (fun z => by cases z))
    | none =>
      obtain ⟨hp1, hv1⟩ := h1 hn1
      subst hp1 hv1
      rw [hn1] at R4
      have R4 := R4.m (i := 4 * nI c + 3) (x := (argP t true (argP t false (lts t (spc t p))).2.1).1)
      have ea : (argsP t (aT 1) (lts t (spc t p)) none).2.2 = none := by
        show (fW (fW none (argP t false (lts t (spc t p))).2.2) (argP t true (argP t false (lts t (spc t p))).2.1).2.2) = none
        rw [hn0]
        rw [hn1]
        rfl
      have ep : (argsP t (aT 1) (lts t (spc t p)) none).2.1 = (argP t true (argP t false (lts t (spc t p))).2.1).2.1 := rfl
      rw [ep, ea] at hQ
      refine r_aload_n (p := 110) rfl rfl rfl ?_
      refine r_getI (p := 113) rfl rfl rfl rfl ?_
      rw [R4.2.2.1]
      show Wp _ _ _ _ (.int (-5) :: _) _ _
      refine r_bipush (v := (-5)) (p := 115) rfl rfl rfl ?_
      refine r_icmp_eq (p := 118) rfl rfl (fun _ => ?_) (fun c => absurd c (by decide))
      refine r_aload_n (p := 120) rfl rfl rfl ?_
      refine r_cV (p := 123) rfl rfl rfl (Nat.le_of_ble_eq_true rfl) rfl (s_X7_skip R4 (fun F8 R8 f8 => ?_))
      refine r_aload_n (p := 124) rfl rfl rfl ?_
      refine r_cV (p := 127) rfl rfl rfl (Nat.le_of_ble_eq_true rfl) rfl (s_X7_here R8 ?_)
      refine r_bipush (v := 59) (p := 129) rfl rfl rfl ?_
      refine r_icmp_ne (p := 132) rfl rfl (fun c1 => ?_) (fun c1 => ?_)
      · refine r_aload_n (p := 156) rfl rfl rfl ?_
        refine r_aload_n (p := 157) rfl rfl rfl ?_
        refine r_getI (p := 160) rfl rfl rfl rfl ?_
        rw [R8.2.1]
        refine r_cV (p := 163) rfl rfl rfl (Nat.le_of_ble_eq_true rfl) rfl (s_X7_wrongAt (e := spc t (argP t true (argP t false (lts t (spc t p))).2.1).2.1) R8 (by have := R8.2.2.2.2.2; omega) rfl (fun F9 R9 f9 => ?_))
        have es : semP t (argP t true (argP t false (lts t (spc t p))).2.1).2.1 none = (spc t (argP t true (argP t false (lts t (spc t p))).2.1).2.1, some (spc t (argP t true (argP t false (lts t (spc t p))).2.1).2.1)) := if_neg (fun q => c1 ((hm_c (by decide)).mpr q))
        rw [es] at hQ
        exact r_return rfl (hQ _ _ _ _ R9 (((((((f2.p.tr fM.m).tr f3.p).tr fM.m).tr f4.p).tr fM.m).tr f8.p).tr f9.p) (fun z => by cases z))
      · have hq : chq t (spc t (argP t true (argP t false (lts t (spc t p))).2.1).2.1) 59 := (hm_c (by decide)).mp c1
        refine r_aload_n (p := 133) rfl rfl rfl ?_
        refine r_dup (p := 134) rfl rfl rfl ?_
        refine r_getI (p := 137) rfl rfl rfl rfl ?_
        refine r_iconst (v := 1) (p := 138) rfl rfl rfl ?_
        refine r_iadd (p := 139) rfl rfl ?_
        refine r_putI (p := 142) rfl rfl rfl rfl ?_
        refine r_aload_n (p := 143) rfl rfl rfl ?_
        refine r_dup (p := 144) rfl rfl rfl ?_
        refine r_getI (p := 147) rfl rfl rfl rfl ?_
        refine r_iconst (v := 1) (p := 148) rfl rfl rfl ?_
        refine r_iadd (p := 149) rfl rfl ?_
        refine r_putI (p := 152) rfl rfl rfl rfl ?_
        refine r_goto rfl ?_
        have es : semP t (argP t true (argP t false (lts t (spc t p))).2.1).2.1 none = (spc t (argP t true (argP t false (lts t (spc t p))).2.1).2.1 + 1, none) := if_pos hq
        rw [es] at hQ
        have RI := (R8.mv hq.1).inc
        subst hcs
        refine r_return rfl (hQ _ _ _ _ RI ((((((((f2.p.tr fM.m).tr f3.p).tr fM.m).tr f4.p).tr fM.m).tr f8.p).tr (fN.u (Or.inl rfl)).p).tr fM.c) (fun z => ⟨rfl, rfl, MC.app hM (by omega) (fun k i hk hi => (uM_at.trans (if_neg (ix5_ne (by omega) (by omega) hi (show 3 < 4 by omega) (by omega)))).trans ((uM_at.trans (if_neg (ix5_ne (by omega) (by omega) hi (show 1 < 4 by omega) (by omega)))).trans (uM_at.trans (if_neg (ix5_0n (by omega) (by omega) hi (by omega)))))) ((uM_at.trans (if_neg (ix5_n0 (j := 3) (by omega) (by omega) (by omega)))).trans ((uM_at.trans (if_neg (ix5_n0 (j := 1) (by omega) (by omega) (by omega)))).trans (uM_at.trans (if_pos rfl)))) (fun x hx => ?_)⟩))
        have hx : x ∈ [(1, (argP t false (lts t (spc t p))).1), (3, (argP t true (argP t false (lts t (spc t p))).2.1).1)] := hx
        simp only [List.mem_cons, List.not_mem_nil, or_false] at hx
        rcases hx with q | q
        · rw [q]; exact (uM_at.trans (if_neg (ix5_ne (by omega) (by omega) (show 1 < 4 by omega) (show 3 < 4 by omega) (by omega)))).trans (uM_at.trans (if_pos rfl))
        · rw [q]; exact uM_at.trans (if_pos rfl)
set_option maxRecDepth 100000 in
theorem rc_w2 {d : Nat} {Y : mY} {F : mF} {M : mM} {L : mL} {t : List Int32} {p c : Nat} {cs : List (Nat × List Int32)} {Q : Option Value → mW → Prop} (H : MS t F M p none c) (hc : c < 25) (hcs : cs.length = c) (hM : MC M cs) {F2 : mF} (ew : wrd t (spc t p) (lts t (spc t p)) = 2) (R2 : MS t F2 M (lts t (spc t p)) none c) (f2 : fN F F2) (hQ : (∀ F' M' p' c', MS t F' M' p' (cmd t (spc t p)).2.2.2 c' → fM F M F' M' → ((cmd t (spc t p)).2.2.2 = none → p' = (cmd t (spc t p)).2.2.1 ∧ c' = c + 1 ∧ MC M' (cs ++ [((cmd t (spc t p)).1, (cmd t (spc t p)).2.1)])) → Q none (mXY Y, F', M', L))) : Wp (d + 4) tX7_readCommand 4 [some (.ref 34), none, none] [.int 3] (mXY Y, F2, M, L) Q := by
  have h3 := H.2.2.2.2.2
  refine r_istore_n (p := 5) rfl rfl rfl ?_
  refine r_iconst (v := 4) (p := 6) rfl rfl rfl ?_
  refine r_aload_n (p := 7) rfl rfl rfl ?_
  refine r_getI (p := 10) rfl rfl rfl rfl ?_
  rw [R2.2.2.2.1]
  refine r_imul (p := 11) rfl rfl ?_
  refine r_istore_n (p := 12) rfl rfl rfl ?_
  refine r_aload_n (p := 13) rfl rfl rfl ?_
  refine r_getR (p := 16) rfl rfl rfl rfl rfl ?_
  refine r_iload_n (p := 17) rfl rfl rfl ?_
  refine r_iload_n (p := 18) rfl rfl rfl ?_
  refine r_iast (p := 19) rfl rfl rfl (vp160' hc) (by decide) rfl ?_
  have ec : cmd t (spc t p) = (2, (argsP t (aT 2) (lts t (spc t p)) none).1, semP t (argsP t (aT 2) (lts t (spc t p)) none).2.1 (argsP t (aT 2) (lts t (spc t p)) none).2.2) := by
    unfold cmd
    rw [if_neg (by rw [ew]; decide), ew]
  rw [ec] at hQ
  have R2 := R2.m (i := 4 * nI c) (x := 3)
  refine r_aload_n (p := 20) rfl rfl rfl ?_
  refine r_getI (p := 23) rfl rfl rfl rfl ?_
  rw [R2.2.2.1]
  show Wp _ _ _ _ (.int (-5) :: _) _ _
  refine r_bipush (v := (-5)) (p := 25) rfl rfl rfl ?_
  refine r_icmp_ne (p := 28) rfl rfl (fun c => absurd c (by decide)) (fun _ => ?_)
  refine r_iload_n (p := 29) rfl rfl rfl ?_
  refine r_iconst (v := 4) (p := 30) rfl rfl rfl ?_
  refine r_icmp_eq (p := 33) rfl rfl (fun c => absurd c (by decide)) (fun _ => ?_)
  refine r_iload_n (p := 34) rfl rfl rfl ?_
  refine r_iconst (v := 5) (p := 35) rfl rfl rfl ?_
  refine r_icmp_eq (p := 38) rfl rfl (fun c => absurd c (by decide)) (fun _ => ?_)
  refine r_aload_n (p := 39) rfl rfl rfl ?_
  refine r_getR (p := 42) rfl rfl rfl rfl rfl ?_
  refine r_iload_n (p := 43) rfl rfl rfl ?_
  refine r_iconst (v := 1) (p := 44) rfl rfl rfl ?_
  refine r_iadd (p := 45) rfl rfl ?_
  refine r_aload_n (p := 46) rfl rfl rfl ?_
  refine r_iconst (v := 0) (p := 47) rfl rfl rfl ?_
  refine r_cV (p := 50) rfl rfl rfl (Nat.le_of_ble_eq_true rfl) rfl (s_X7_readNumber (g := false) R2 rfl (fun q => by cases q) (fun F3 p0 v0 R3 f3 h0 => ?_))
  rw [← argP_f] at R3 h0
  refine r_iast (p := 51) rfl rfl rfl (vp160 (j := 1) hc (by omega)) (by decide) rfl ?_
  cases hn0 : (argP t false (lts t (spc t p))).2.2 with
  | some e =>
    rw [hn0] at R3
    have ea : (argsP t (aT 2) (lts t (spc t p)) none).2.2 = some e := by
      show (fW (fW (fW none (argP t false (lts t (spc t p))).2.2) (argP t false (argP t false (lts t (spc t p))).2.1).2.2) (argP t true (argP t false (argP t false (lts t (spc t p))).2.1).2.1).2.2) = some e
      rw [hn0]
      rfl
    have ew2 : (semP t (argsP t (aT 2) (lts t (spc t p)) none).2.1 (argsP t (aT 2) (lts t (spc t p)) none).2.2).2 = some e := by rw [ea]; exact semP_some
    rw [ew2] at hQ
    have R3 := R3.m (i := 4 * nI c + 1) (x := v0)
    exact rc_err51 R3 (hQ _ _ _ _ R3 (((f2.p.tr fM.m).tr f3.p).tr fM.m) (fun z => by cases z))
  | none =>
    obtain ⟨hp0, hv0⟩ := h0 hn0
    subst hp0 hv0
    rw [hn0] at R3
    have hd0 := (argP_p (t := t) (g := false) (p := (lts t (spc t p)))).2.2.2 hn0 rfl
    have R3 := R3.m (i := 4 * nI c + 1) (x := (argP t false (lts t (spc t p))).1)
    refine r_aload_n (p := 52) rfl rfl rfl ?_
    refine r_getI (p := 55) rfl rfl rfl rfl ?_
    rw [R3.2.2.1]
    show Wp _ _ _ _ (.int (-5) :: _) _ _
    refine r_bipush (v := (-5)) (p := 57) rfl rfl rfl ?_
    refine r_icmp_ne (p := 60) rfl rfl (fun c => absurd c (by decide)) (fun _ => ?_)
    refine r_iload_n (p := 61) rfl rfl rfl ?_
    refine r_iconst (v := 3) (p := 62) rfl rfl rfl ?_
    refine r_icmp_ne (p := 65) rfl rfl (fun c => absurd c (by decide)) (fun _ => ?_)
    refine r_aload_n (p := 66) rfl rfl rfl ?_
    refine r_getR (p := 69) rfl rfl rfl rfl rfl ?_
    refine r_iload_n (p := 70) rfl rfl rfl ?_
    refine r_iconst (v := 2) (p := 71) rfl rfl rfl ?_
    refine r_iadd (p := 72) rfl rfl ?_
    refine r_aload_n (p := 73) rfl rfl rfl ?_
    refine r_iconst (v := 1) (p := 74) rfl rfl rfl ?_
    refine r_cV (p := 77) rfl rfl rfl (Nat.le_of_ble_eq_true rfl) rfl (s_X7_readNumber (g := true) R3 rfl (fun _ => hd0) (fun F4 p1 v1 R4 f4 h1 => ?_))
    rw [← argP_f] at R4 h1
    refine r_iast (p := 78) rfl rfl rfl (vp160 (j := 2) hc (by omega)) (by decide) rfl ?_
    cases hn1 : (argP t false (argP t false (lts t (spc t p))).2.1).2.2 with
    | some e =>
      rw [hn1] at R4
      have ea : (argsP t (aT 2) (lts t (spc t p)) none).2.2 = some e := by
        show (fW (fW (fW none (argP t false (lts t (spc t p))).2.2) (argP t false (argP t false (lts t (spc t p))).2.1).2.2) (argP t true (argP t false (argP t false (lts t (spc t p))).2.1).2.1).2.2) = some e
        rw [hn0]
        rw [hn1]
        rfl
      have ew2 : (semP t (argsP t (aT 2) (lts t (spc t p)) none).2.1 (argsP t (aT 2) (lts t (spc t p)) none).2.2).2 = some e := by rw [ea]; exact semP_some
      rw [ew2] at hQ
      have R4 := R4.m (i := 4 * nI c + 2) (x := v1)
      exact rc_err78 R4 (hQ _ _ _ _ R4 (((((f2.p.tr fM.m).tr f3.p).tr fM.m).tr f4.p).tr fM.m) (fun z => by cases z))
    | none =>
      obtain ⟨hp1, hv1⟩ := h1 hn1
      subst hp1 hv1
      rw [hn1] at R4
      have hd1 := (argP_p (t := t) (g := false) (p := (argP t false (lts t (spc t p))).2.1)).2.2.2 hn1 rfl
      have R4 := R4.m (i := 4 * nI c + 2) (x := (argP t false (argP t false (lts t (spc t p))).2.1).1)
      refine r_aload_n (p := 79) rfl rfl rfl ?_
      refine r_getI (p := 82) rfl rfl rfl rfl ?_
      rw [R4.2.2.1]
      show Wp _ _ _ _ (.int (-5) :: _) _ _
      refine r_bipush (v := (-5)) (p := 84) rfl rfl rfl ?_
      refine r_icmp_ne (p := 87) rfl rfl (fun c => absurd c (by decide)) (fun _ => ?_)
      refine r_iload_n (p := 88) rfl rfl rfl ?_
      refine r_iconst (v := 3) (p := 89) rfl rfl rfl ?_
      refine r_icmp_eq (p := 92) rfl rfl (fun _ => ?_) (fun c => absurd c (by decide))
      refine r_aload_n (p := 98) rfl rfl rfl ?_
      refine r_getR (p := 101) rfl rfl rfl rfl rfl ?_
      refine r_iload_n (p := 102) rfl rfl rfl ?_
      refine r_iconst (v := 3) (p := 103) rfl rfl rfl ?_
      refine r_iadd (p := 104) rfl rfl ?_
      refine r_aload_n (p := 105) rfl rfl rfl ?_
      refine r_cV (p := 108) rfl rfl rfl (Nat.le_of_ble_eq_true rfl) rfl (s_X7_readTarget R4 rfl hd1 (fun F5 p2 v2 R5 f5 h2 => ?_))
      refine r_iast (p := 109) rfl rfl rfl (vp160 (j := 3) hc (by omega)) (by decide) rfl ?_
      cases hn2 : (argP t true (argP t false (argP t false (lts t (spc t p))).2.1).2.1).2.2 with
      | some e =>
        rw [hn2] at R5
        have ea : (argsP t (aT 2) (lts t (spc t p)) none).2.2 = some e := by
          show (fW (fW (fW none (argP t false (lts t (spc t p))).2.2) (argP t false (argP t false (lts t (spc t p))).2.1).2.2) (argP t true (argP t false (argP t false (lts t (spc t p))).2.1).2.1).2.2) = some e
          rw [hn0]
          rw [hn1]
          rw [hn2]
          rfl
        have ew2 : (semP t (argsP t (aT 2) (lts t (spc t p)) none).2.1 (argsP t (aT 2) (lts t (spc t p)) none).2.2).2 = some e := by rw [ea]; exact semP_some
        rw [ew2] at hQ
        have R5 := R5.m (i := 4 * nI c + 3) (x := v2)
        exact rc_err109 R5 (hQ _ _ _ _ R5 (((((((f2.p.tr fM.m).tr f3.p).tr fM.m).tr f4.p).tr fM.m).tr f5.p).tr fM.m) (fun z => by cases z))
      | none =>
        obtain ⟨hp2, hv2⟩ := h2 hn2
        subst hp2 hv2
        rw [hn2] at R5
        have R5 := R5.m (i := 4 * nI c + 3) (x := (argP t true (argP t false (argP t false (lts t (spc t p))).2.1).2.1).1)
        have ea : (argsP t (aT 2) (lts t (spc t p)) none).2.2 = none := by
          show (fW (fW (fW none (argP t false (lts t (spc t p))).2.2) (argP t false (argP t false (lts t (spc t p))).2.1).2.2) (argP t true (argP t false (argP t false (lts t (spc t p))).2.1).2.1).2.2) = none
          rw [hn0]
          rw [hn1]
          rw [hn2]
          rfl
        have ep : (argsP t (aT 2) (lts t (spc t p)) none).2.1 = (argP t true (argP t false (argP t false (lts t (spc t p))).2.1).2.1).2.1 := rfl
        rw [ep, ea] at hQ
        refine r_aload_n (p := 110) rfl rfl rfl ?_
        refine r_getI (p := 113) rfl rfl rfl rfl ?_
        rw [R5.2.2.1]
        show Wp _ _ _ _ (.int (-5) :: _) _ _
        refine r_bipush (v := (-5)) (p := 115) rfl rfl rfl ?_
        refine r_icmp_eq (p := 118) rfl rfl (fun _ => ?_) (fun c => absurd c (by decide))
        refine r_aload_n (p := 120) rfl rfl rfl ?_
        refine r_cV (p := 123) rfl rfl rfl (Nat.le_of_ble_eq_true rfl) rfl (s_X7_skip R5 (fun F8 R8 f8 => ?_))
        refine r_aload_n (p := 124) rfl rfl rfl ?_
        refine r_cV (p := 127) rfl rfl rfl (Nat.le_of_ble_eq_true rfl) rfl (s_X7_here R8 ?_)
        refine r_bipush (v := 59) (p := 129) rfl rfl rfl ?_
        refine r_icmp_ne (p := 132) rfl rfl (fun c1 => ?_) (fun c1 => ?_)
        · refine r_aload_n (p := 156) rfl rfl rfl ?_
          refine r_aload_n (p := 157) rfl rfl rfl ?_
          refine r_getI (p := 160) rfl rfl rfl rfl ?_
          rw [R8.2.1]
          refine r_cV (p := 163) rfl rfl rfl (Nat.le_of_ble_eq_true rfl) rfl (s_X7_wrongAt (e := spc t (argP t true (argP t false (argP t false (lts t (spc t p))).2.1).2.1).2.1) R8 (by have := R8.2.2.2.2.2; omega) rfl (fun F9 R9 f9 => ?_))
          have es : semP t (argP t true (argP t false (argP t false (lts t (spc t p))).2.1).2.1).2.1 none = (spc t (argP t true (argP t false (argP t false (lts t (spc t p))).2.1).2.1).2.1, some (spc t (argP t true (argP t false (argP t false (lts t (spc t p))).2.1).2.1).2.1)) := if_neg (fun q => c1 ((hm_c (by decide)).mpr q))
          rw [es] at hQ
          exact r_return rfl (hQ _ _ _ _ R9 (((((((((f2.p.tr fM.m).tr f3.p).tr fM.m).tr f4.p).tr fM.m).tr f5.p).tr fM.m).tr f8.p).tr f9.p) (fun z => by cases z))
        · have hq : chq t (spc t (argP t true (argP t false (argP t false (lts t (spc t p))).2.1).2.1).2.1) 59 := (hm_c (by decide)).mp c1
          refine r_aload_n (p := 133) rfl rfl rfl ?_
          refine r_dup (p := 134) rfl rfl rfl ?_
          refine r_getI (p := 137) rfl rfl rfl rfl ?_
          refine r_iconst (v := 1) (p := 138) rfl rfl rfl ?_
          refine r_iadd (p := 139) rfl rfl ?_
          refine r_putI (p := 142) rfl rfl rfl rfl ?_
          refine r_aload_n (p := 143) rfl rfl rfl ?_
          refine r_dup (p := 144) rfl rfl rfl ?_
          refine r_getI (p := 147) rfl rfl rfl rfl ?_
          refine r_iconst (v := 1) (p := 148) rfl rfl rfl ?_
          refine r_iadd (p := 149) rfl rfl ?_
          refine r_putI (p := 152) rfl rfl rfl rfl ?_
          refine r_goto rfl ?_
          have es : semP t (argP t true (argP t false (argP t false (lts t (spc t p))).2.1).2.1).2.1 none = (spc t (argP t true (argP t false (argP t false (lts t (spc t p))).2.1).2.1).2.1 + 1, none) := if_pos hq
          rw [es] at hQ
          have RI := (R8.mv hq.1).inc
          subst hcs
          refine r_return rfl (hQ _ _ _ _ RI ((((((((((f2.p.tr fM.m).tr f3.p).tr fM.m).tr f4.p).tr fM.m).tr f5.p).tr fM.m).tr f8.p).tr (fN.u (Or.inl rfl)).p).tr fM.c) (fun z => ⟨rfl, rfl, MC.app hM (by omega) (fun k i hk hi => (uM_at.trans (if_neg (ix5_ne (by omega) (by omega) hi (show 3 < 4 by omega) (by omega)))).trans ((uM_at.trans (if_neg (ix5_ne (by omega) (by omega) hi (show 2 < 4 by omega) (by omega)))).trans ((uM_at.trans (if_neg (ix5_ne (by omega) (by omega) hi (show 1 < 4 by omega) (by omega)))).trans (uM_at.trans (if_neg (ix5_0n (by omega) (by omega) hi (by omega))))))) ((uM_at.trans (if_neg (ix5_n0 (j := 3) (by omega) (by omega) (by omega)))).trans ((uM_at.trans (if_neg (ix5_n0 (j := 2) (by omega) (by omega) (by omega)))).trans ((uM_at.trans (if_neg (ix5_n0 (j := 1) (by omega) (by omega) (by omega)))).trans (uM_at.trans (if_pos rfl))))) (fun x hx => ?_)⟩))
          have hx : x ∈ [(1, (argP t false (lts t (spc t p))).1), (2, (argP t false (argP t false (lts t (spc t p))).2.1).1), (3, (argP t true (argP t false (argP t false (lts t (spc t p))).2.1).2.1).1)] := hx
          simp only [List.mem_cons, List.not_mem_nil, or_false] at hx
          rcases hx with q | q | q
          · rw [q]; exact (uM_at.trans (if_neg (ix5_ne (by omega) (by omega) (show 1 < 4 by omega) (show 3 < 4 by omega) (by omega)))).trans ((uM_at.trans (if_neg (ix5_ne (by omega) (by omega) (show 1 < 4 by omega) (show 2 < 4 by omega) (by omega)))).trans (uM_at.trans (if_pos rfl)))
          · rw [q]; exact (uM_at.trans (if_neg (ix5_ne (by omega) (by omega) (show 2 < 4 by omega) (show 3 < 4 by omega) (by omega)))).trans (uM_at.trans (if_pos rfl))
          · rw [q]; exact uM_at.trans (if_pos rfl)
set_option maxRecDepth 100000 in
theorem rc_w3 {d : Nat} {Y : mY} {F : mF} {M : mM} {L : mL} {t : List Int32} {p c : Nat} {cs : List (Nat × List Int32)} {Q : Option Value → mW → Prop} (H : MS t F M p none c) (hc : c < 25) (hcs : cs.length = c) (hM : MC M cs) {F2 : mF} (ew : wrd t (spc t p) (lts t (spc t p)) = 3) (R2 : MS t F2 M (lts t (spc t p)) none c) (f2 : fN F F2) (hQ : (∀ F' M' p' c', MS t F' M' p' (cmd t (spc t p)).2.2.2 c' → fM F M F' M' → ((cmd t (spc t p)).2.2.2 = none → p' = (cmd t (spc t p)).2.2.1 ∧ c' = c + 1 ∧ MC M' (cs ++ [((cmd t (spc t p)).1, (cmd t (spc t p)).2.1)])) → Q none (mXY Y, F', M', L))) : Wp (d + 4) tX7_readCommand 4 [some (.ref 34), none, none] [.int 4] (mXY Y, F2, M, L) Q := by
  have h3 := H.2.2.2.2.2
  refine r_istore_n (p := 5) rfl rfl rfl ?_
  refine r_iconst (v := 4) (p := 6) rfl rfl rfl ?_
  refine r_aload_n (p := 7) rfl rfl rfl ?_
  refine r_getI (p := 10) rfl rfl rfl rfl ?_
  rw [R2.2.2.2.1]
  refine r_imul (p := 11) rfl rfl ?_
  refine r_istore_n (p := 12) rfl rfl rfl ?_
  refine r_aload_n (p := 13) rfl rfl rfl ?_
  refine r_getR (p := 16) rfl rfl rfl rfl rfl ?_
  refine r_iload_n (p := 17) rfl rfl rfl ?_
  refine r_iload_n (p := 18) rfl rfl rfl ?_
  refine r_iast (p := 19) rfl rfl rfl (vp160' hc) (by decide) rfl ?_
  have ec : cmd t (spc t p) = (3, (argsP t (aT 3) (lts t (spc t p)) none).1, semP t (argsP t (aT 3) (lts t (spc t p)) none).2.1 (argsP t (aT 3) (lts t (spc t p)) none).2.2) := by
    unfold cmd
    rw [if_neg (by rw [ew]; decide), ew]
  rw [ec] at hQ
  have R2 := R2.m (i := 4 * nI c) (x := 4)
  have ea : (argsP t (aT 3) (lts t (spc t p)) none).2.2 = none := rfl
  have ep : (argsP t (aT 3) (lts t (spc t p)) none).2.1 = (lts t (spc t p)) := rfl
  rw [ep, ea] at hQ
  refine r_aload_n (p := 20) rfl rfl rfl ?_
  refine r_getI (p := 23) rfl rfl rfl rfl ?_
  rw [R2.2.2.1]
  show Wp _ _ _ _ (.int (-5) :: _) _ _
  refine r_bipush (v := (-5)) (p := 25) rfl rfl rfl ?_
  refine r_icmp_ne (p := 28) rfl rfl (fun c => absurd c (by decide)) (fun _ => ?_)
  refine r_iload_n (p := 29) rfl rfl rfl ?_
  refine r_iconst (v := 4) (p := 30) rfl rfl rfl ?_
  refine r_icmp_eq (p := 33) rfl rfl (fun _ => ?_) (fun c => absurd c (by decide))
  refine r_aload_n (p := 52) rfl rfl rfl ?_
  refine r_getI (p := 55) rfl rfl rfl rfl ?_
  rw [R2.2.2.1]
  show Wp _ _ _ _ (.int (-5) :: _) _ _
  refine r_bipush (v := (-5)) (p := 57) rfl rfl rfl ?_
  refine r_icmp_ne (p := 60) rfl rfl (fun c => absurd c (by decide)) (fun _ => ?_)
  refine r_iload_n (p := 61) rfl rfl rfl ?_
  refine r_iconst (v := 3) (p := 62) rfl rfl rfl ?_
  refine r_icmp_ne (p := 65) rfl rfl (fun _ => ?_) (fun c => absurd c (by decide))
  refine r_aload_n (p := 79) rfl rfl rfl ?_
  refine r_getI (p := 82) rfl rfl rfl rfl ?_
  rw [R2.2.2.1]
  show Wp _ _ _ _ (.int (-5) :: _) _ _
  refine r_bipush (v := (-5)) (p := 84) rfl rfl rfl ?_
  refine r_icmp_ne (p := 87) rfl rfl (fun c => absurd c (by decide)) (fun _ => ?_)
  refine r_iload_n (p := 88) rfl rfl rfl ?_
  refine r_iconst (v := 3) (p := 89) rfl rfl rfl ?_
  refine r_icmp_eq (p := 92) rfl rfl (fun c => absurd c (by decide)) (fun _ => ?_)
  refine r_iload_n (p := 93) rfl rfl rfl ?_
  refine r_iconst (v := 2) (p := 94) rfl rfl rfl ?_
  refine r_icmp_ne (p := 97) rfl rfl (fun _ => ?_) (fun c => absurd c (by decide))
  refine r_aload_n (p := 110) rfl rfl rfl ?_
  refine r_getI (p := 113) rfl rfl rfl rfl ?_
  rw [R2.2.2.1]
  show Wp _ _ _ _ (.int (-5) :: _) _ _
  refine r_bipush (v := (-5)) (p := 115) rfl rfl rfl ?_
  refine r_icmp_eq (p := 118) rfl rfl (fun _ => ?_) (fun c => absurd c (by decide))
  refine r_aload_n (p := 120) rfl rfl rfl ?_
  refine r_cV (p := 123) rfl rfl rfl (Nat.le_of_ble_eq_true rfl) rfl (s_X7_skip R2 (fun F8 R8 f8 => ?_))
  refine r_aload_n (p := 124) rfl rfl rfl ?_
  refine r_cV (p := 127) rfl rfl rfl (Nat.le_of_ble_eq_true rfl) rfl (s_X7_here R8 ?_)
  refine r_bipush (v := 59) (p := 129) rfl rfl rfl ?_
  refine r_icmp_ne (p := 132) rfl rfl (fun c1 => ?_) (fun c1 => ?_)
  · refine r_aload_n (p := 156) rfl rfl rfl ?_
    refine r_aload_n (p := 157) rfl rfl rfl ?_
    refine r_getI (p := 160) rfl rfl rfl rfl ?_
    rw [R8.2.1]
    refine r_cV (p := 163) rfl rfl rfl (Nat.le_of_ble_eq_true rfl) rfl (s_X7_wrongAt (e := spc t (lts t (spc t p))) R8 (by have := R8.2.2.2.2.2; omega) rfl (fun F9 R9 f9 => ?_))
    have es : semP t (lts t (spc t p)) none = (spc t (lts t (spc t p)), some (spc t (lts t (spc t p)))) := if_neg (fun q => c1 ((hm_c (by decide)).mpr q))
    rw [es] at hQ
    exact r_return rfl (hQ _ _ _ _ R9 (((f2.p.tr fM.m).tr f8.p).tr f9.p) (fun z => by cases z))
  · have hq : chq t (spc t (lts t (spc t p))) 59 := (hm_c (by decide)).mp c1
    refine r_aload_n (p := 133) rfl rfl rfl ?_
    refine r_dup (p := 134) rfl rfl rfl ?_
    refine r_getI (p := 137) rfl rfl rfl rfl ?_
    refine r_iconst (v := 1) (p := 138) rfl rfl rfl ?_
    refine r_iadd (p := 139) rfl rfl ?_
    refine r_putI (p := 142) rfl rfl rfl rfl ?_
    refine r_aload_n (p := 143) rfl rfl rfl ?_
    refine r_dup (p := 144) rfl rfl rfl ?_
    refine r_getI (p := 147) rfl rfl rfl rfl ?_
    refine r_iconst (v := 1) (p := 148) rfl rfl rfl ?_
    refine r_iadd (p := 149) rfl rfl ?_
    refine r_putI (p := 152) rfl rfl rfl rfl ?_
    refine r_goto rfl ?_
    have es : semP t (lts t (spc t p)) none = (spc t (lts t (spc t p)) + 1, none) := if_pos hq
    rw [es] at hQ
    have RI := (R8.mv hq.1).inc
    subst hcs
    refine r_return rfl (hQ _ _ _ _ RI ((((f2.p.tr fM.m).tr f8.p).tr (fN.u (Or.inl rfl)).p).tr fM.c) (fun z => ⟨rfl, rfl, MC.app hM (by omega) (fun k i hk hi => uM_at.trans (if_neg (ix5_0n (by omega) (by omega) hi (by omega)))) (uM_at.trans (if_pos rfl)) (fun x hx => ?_)⟩))
    cases hx
set_option maxRecDepth 100000 in
theorem rc_w4 {d : Nat} {Y : mY} {F : mF} {M : mM} {L : mL} {t : List Int32} {p c : Nat} {cs : List (Nat × List Int32)} {Q : Option Value → mW → Prop} (H : MS t F M p none c) (hc : c < 25) (hcs : cs.length = c) (hM : MC M cs) {F2 : mF} (ew : wrd t (spc t p) (lts t (spc t p)) = 4) (R2 : MS t F2 M (lts t (spc t p)) none c) (f2 : fN F F2) (hQ : (∀ F' M' p' c', MS t F' M' p' (cmd t (spc t p)).2.2.2 c' → fM F M F' M' → ((cmd t (spc t p)).2.2.2 = none → p' = (cmd t (spc t p)).2.2.1 ∧ c' = c + 1 ∧ MC M' (cs ++ [((cmd t (spc t p)).1, (cmd t (spc t p)).2.1)])) → Q none (mXY Y, F', M', L))) : Wp (d + 4) tX7_readCommand 4 [some (.ref 34), none, none] [.int 5] (mXY Y, F2, M, L) Q := by
  have h3 := H.2.2.2.2.2
  refine r_istore_n (p := 5) rfl rfl rfl ?_
  refine r_iconst (v := 4) (p := 6) rfl rfl rfl ?_
  refine r_aload_n (p := 7) rfl rfl rfl ?_
  refine r_getI (p := 10) rfl rfl rfl rfl ?_
  rw [R2.2.2.2.1]
  refine r_imul (p := 11) rfl rfl ?_
  refine r_istore_n (p := 12) rfl rfl rfl ?_
  refine r_aload_n (p := 13) rfl rfl rfl ?_
  refine r_getR (p := 16) rfl rfl rfl rfl rfl ?_
  refine r_iload_n (p := 17) rfl rfl rfl ?_
  refine r_iload_n (p := 18) rfl rfl rfl ?_
  refine r_iast (p := 19) rfl rfl rfl (vp160' hc) (by decide) rfl ?_
  have ec : cmd t (spc t p) = (4, (argsP t (aT 4) (lts t (spc t p)) none).1, semP t (argsP t (aT 4) (lts t (spc t p)) none).2.1 (argsP t (aT 4) (lts t (spc t p)) none).2.2) := by
    unfold cmd
    rw [if_neg (by rw [ew]; decide), ew]
  rw [ec] at hQ
  have R2 := R2.m (i := 4 * nI c) (x := 5)
  have ea : (argsP t (aT 4) (lts t (spc t p)) none).2.2 = none := rfl
  have ep : (argsP t (aT 4) (lts t (spc t p)) none).2.1 = (lts t (spc t p)) := rfl
  rw [ep, ea] at hQ
  refine r_aload_n (p := 20) rfl rfl rfl ?_
  refine r_getI (p := 23) rfl rfl rfl rfl ?_
  rw [R2.2.2.1]
  show Wp _ _ _ _ (.int (-5) :: _) _ _
  refine r_bipush (v := (-5)) (p := 25) rfl rfl rfl ?_
  refine r_icmp_ne (p := 28) rfl rfl (fun c => absurd c (by decide)) (fun _ => ?_)
  refine r_iload_n (p := 29) rfl rfl rfl ?_
  refine r_iconst (v := 4) (p := 30) rfl rfl rfl ?_
  refine r_icmp_eq (p := 33) rfl rfl (fun c => absurd c (by decide)) (fun _ => ?_)
  refine r_iload_n (p := 34) rfl rfl rfl ?_
  refine r_iconst (v := 5) (p := 35) rfl rfl rfl ?_
  refine r_icmp_eq (p := 38) rfl rfl (fun _ => ?_) (fun c => absurd c (by decide))
  refine r_aload_n (p := 52) rfl rfl rfl ?_
  refine r_getI (p := 55) rfl rfl rfl rfl ?_
  rw [R2.2.2.1]
  show Wp _ _ _ _ (.int (-5) :: _) _ _
  refine r_bipush (v := (-5)) (p := 57) rfl rfl rfl ?_
  refine r_icmp_ne (p := 60) rfl rfl (fun c => absurd c (by decide)) (fun _ => ?_)
  refine r_iload_n (p := 61) rfl rfl rfl ?_
  refine r_iconst (v := 3) (p := 62) rfl rfl rfl ?_
  refine r_icmp_ne (p := 65) rfl rfl (fun _ => ?_) (fun c => absurd c (by decide))
  refine r_aload_n (p := 79) rfl rfl rfl ?_
  refine r_getI (p := 82) rfl rfl rfl rfl ?_
  rw [R2.2.2.1]
  show Wp _ _ _ _ (.int (-5) :: _) _ _
  refine r_bipush (v := (-5)) (p := 84) rfl rfl rfl ?_
  refine r_icmp_ne (p := 87) rfl rfl (fun c => absurd c (by decide)) (fun _ => ?_)
  refine r_iload_n (p := 88) rfl rfl rfl ?_
  refine r_iconst (v := 3) (p := 89) rfl rfl rfl ?_
  refine r_icmp_eq (p := 92) rfl rfl (fun c => absurd c (by decide)) (fun _ => ?_)
  refine r_iload_n (p := 93) rfl rfl rfl ?_
  refine r_iconst (v := 2) (p := 94) rfl rfl rfl ?_
  refine r_icmp_ne (p := 97) rfl rfl (fun _ => ?_) (fun c => absurd c (by decide))
  refine r_aload_n (p := 110) rfl rfl rfl ?_
  refine r_getI (p := 113) rfl rfl rfl rfl ?_
  rw [R2.2.2.1]
  show Wp _ _ _ _ (.int (-5) :: _) _ _
  refine r_bipush (v := (-5)) (p := 115) rfl rfl rfl ?_
  refine r_icmp_eq (p := 118) rfl rfl (fun _ => ?_) (fun c => absurd c (by decide))
  refine r_aload_n (p := 120) rfl rfl rfl ?_
  refine r_cV (p := 123) rfl rfl rfl (Nat.le_of_ble_eq_true rfl) rfl (s_X7_skip R2 (fun F8 R8 f8 => ?_))
  refine r_aload_n (p := 124) rfl rfl rfl ?_
  refine r_cV (p := 127) rfl rfl rfl (Nat.le_of_ble_eq_true rfl) rfl (s_X7_here R8 ?_)
  refine r_bipush (v := 59) (p := 129) rfl rfl rfl ?_
  refine r_icmp_ne (p := 132) rfl rfl (fun c1 => ?_) (fun c1 => ?_)
  · refine r_aload_n (p := 156) rfl rfl rfl ?_
    refine r_aload_n (p := 157) rfl rfl rfl ?_
    refine r_getI (p := 160) rfl rfl rfl rfl ?_
    rw [R8.2.1]
    refine r_cV (p := 163) rfl rfl rfl (Nat.le_of_ble_eq_true rfl) rfl (s_X7_wrongAt (e := spc t (lts t (spc t p))) R8 (by have := R8.2.2.2.2.2; omega) rfl (fun F9 R9 f9 => ?_))
    have es : semP t (lts t (spc t p)) none = (spc t (lts t (spc t p)), some (spc t (lts t (spc t p)))) := if_neg (fun q => c1 ((hm_c (by decide)).mpr q))
    rw [es] at hQ
    exact r_return rfl (hQ _ _ _ _ R9 (((f2.p.tr fM.m).tr f8.p).tr f9.p) (fun z => by cases z))
  · have hq : chq t (spc t (lts t (spc t p))) 59 := (hm_c (by decide)).mp c1
    refine r_aload_n (p := 133) rfl rfl rfl ?_
    refine r_dup (p := 134) rfl rfl rfl ?_
    refine r_getI (p := 137) rfl rfl rfl rfl ?_
    refine r_iconst (v := 1) (p := 138) rfl rfl rfl ?_
    refine r_iadd (p := 139) rfl rfl ?_
    refine r_putI (p := 142) rfl rfl rfl rfl ?_
    refine r_aload_n (p := 143) rfl rfl rfl ?_
    refine r_dup (p := 144) rfl rfl rfl ?_
    refine r_getI (p := 147) rfl rfl rfl rfl ?_
    refine r_iconst (v := 1) (p := 148) rfl rfl rfl ?_
    refine r_iadd (p := 149) rfl rfl ?_
    refine r_putI (p := 152) rfl rfl rfl rfl ?_
    refine r_goto rfl ?_
    have es : semP t (lts t (spc t p)) none = (spc t (lts t (spc t p)) + 1, none) := if_pos hq
    rw [es] at hQ
    have RI := (R8.mv hq.1).inc
    subst hcs
    refine r_return rfl (hQ _ _ _ _ RI ((((f2.p.tr fM.m).tr f8.p).tr (fN.u (Or.inl rfl)).p).tr fM.c) (fun z => ⟨rfl, rfl, MC.app hM (by omega) (fun k i hk hi => uM_at.trans (if_neg (ix5_0n (by omega) (by omega) hi (by omega)))) (uM_at.trans (if_pos rfl)) (fun x hx => ?_)⟩))
    cases hx
set_option maxRecDepth 100000 in
theorem rc_w5 {d : Nat} {Y : mY} {F : mF} {M : mM} {L : mL} {t : List Int32} {p c : Nat} {cs : List (Nat × List Int32)} {Q : Option Value → mW → Prop} (H : MS t F M p none c) (hc : c < 25) (hcs : cs.length = c) (hM : MC M cs) {F2 : mF} (ew : wrd t (spc t p) (lts t (spc t p)) = 5) (R2 : MS t F2 M (lts t (spc t p)) none c) (f2 : fN F F2) (hQ : (∀ F' M' p' c', MS t F' M' p' (cmd t (spc t p)).2.2.2 c' → fM F M F' M' → ((cmd t (spc t p)).2.2.2 = none → p' = (cmd t (spc t p)).2.2.1 ∧ c' = c + 1 ∧ MC M' (cs ++ [((cmd t (spc t p)).1, (cmd t (spc t p)).2.1)])) → Q none (mXY Y, F', M', L))) : Wp (d + 4) tX7_readCommand 4 [some (.ref 34), none, none] [.int 6] (mXY Y, F2, M, L) Q := by
  have h3 := H.2.2.2.2.2
  refine r_istore_n (p := 5) rfl rfl rfl ?_
  refine r_iconst (v := 4) (p := 6) rfl rfl rfl ?_
  refine r_aload_n (p := 7) rfl rfl rfl ?_
  refine r_getI (p := 10) rfl rfl rfl rfl ?_
  rw [R2.2.2.2.1]
  refine r_imul (p := 11) rfl rfl ?_
  refine r_istore_n (p := 12) rfl rfl rfl ?_
  refine r_aload_n (p := 13) rfl rfl rfl ?_
  refine r_getR (p := 16) rfl rfl rfl rfl rfl ?_
  refine r_iload_n (p := 17) rfl rfl rfl ?_
  refine r_iload_n (p := 18) rfl rfl rfl ?_
  refine r_iast (p := 19) rfl rfl rfl (vp160' hc) (by decide) rfl ?_
  have ec : cmd t (spc t p) = (5, (argsP t (aT 5) (lts t (spc t p)) none).1, semP t (argsP t (aT 5) (lts t (spc t p)) none).2.1 (argsP t (aT 5) (lts t (spc t p)) none).2.2) := by
    unfold cmd
    rw [if_neg (by rw [ew]; decide), ew]
  rw [ec] at hQ
  have R2 := R2.m (i := 4 * nI c) (x := 6)
  refine r_aload_n (p := 20) rfl rfl rfl ?_
  refine r_getI (p := 23) rfl rfl rfl rfl ?_
  rw [R2.2.2.1]
  show Wp _ _ _ _ (.int (-5) :: _) _ _
  refine r_bipush (v := (-5)) (p := 25) rfl rfl rfl ?_
  refine r_icmp_ne (p := 28) rfl rfl (fun c => absurd c (by decide)) (fun _ => ?_)
  refine r_iload_n (p := 29) rfl rfl rfl ?_
  refine r_iconst (v := 4) (p := 30) rfl rfl rfl ?_
  refine r_icmp_eq (p := 33) rfl rfl (fun c => absurd c (by decide)) (fun _ => ?_)
  refine r_iload_n (p := 34) rfl rfl rfl ?_
  refine r_iconst (v := 5) (p := 35) rfl rfl rfl ?_
  refine r_icmp_eq (p := 38) rfl rfl (fun c => absurd c (by decide)) (fun _ => ?_)
  refine r_aload_n (p := 39) rfl rfl rfl ?_
  refine r_getR (p := 42) rfl rfl rfl rfl rfl ?_
  refine r_iload_n (p := 43) rfl rfl rfl ?_
  refine r_iconst (v := 1) (p := 44) rfl rfl rfl ?_
  refine r_iadd (p := 45) rfl rfl ?_
  refine r_aload_n (p := 46) rfl rfl rfl ?_
  refine r_iconst (v := 0) (p := 47) rfl rfl rfl ?_
  refine r_cV (p := 50) rfl rfl rfl (Nat.le_of_ble_eq_true rfl) rfl (s_X7_readNumber (g := false) R2 rfl (fun q => by cases q) (fun F3 p0 v0 R3 f3 h0 => ?_))
  rw [← argP_f] at R3 h0
  refine r_iast (p := 51) rfl rfl rfl (vp160 (j := 1) hc (by omega)) (by decide) rfl ?_
  cases hn0 : (argP t false (lts t (spc t p))).2.2 with
  | some e =>
    rw [hn0] at R3
    have ea : (argsP t (aT 5) (lts t (spc t p)) none).2.2 = some e := by
      show (fW none (argP t false (lts t (spc t p))).2.2) = some e
      rw [hn0]
      rfl
    have ew2 : (semP t (argsP t (aT 5) (lts t (spc t p)) none).2.1 (argsP t (aT 5) (lts t (spc t p)) none).2.2).2 = some e := by rw [ea]; exact semP_some
    rw [ew2] at hQ
    have R3 := R3.m (i := 4 * nI c + 1) (x := v0)
    exact rc_err51 R3 (hQ _ _ _ _ R3 (((f2.p.tr fM.m).tr f3.p).tr fM.m) (fun z => by cases z))
  | none =>
    obtain ⟨hp0, hv0⟩ := h0 hn0
    subst hp0 hv0
    rw [hn0] at R3
    have R3 := R3.m (i := 4 * nI c + 1) (x := (argP t false (lts t (spc t p))).1)
    have ea : (argsP t (aT 5) (lts t (spc t p)) none).2.2 = none := by
      show (fW none (argP t false (lts t (spc t p))).2.2) = none
      rw [hn0]
      rfl
    have ep : (argsP t (aT 5) (lts t (spc t p)) none).2.1 = (argP t false (lts t (spc t p))).2.1 := rfl
    rw [ep, ea] at hQ
    refine r_aload_n (p := 52) rfl rfl rfl ?_
    refine r_getI (p := 55) rfl rfl rfl rfl ?_
    rw [R3.2.2.1]
    show Wp _ _ _ _ (.int (-5) :: _) _ _
    refine r_bipush (v := (-5)) (p := 57) rfl rfl rfl ?_
    refine r_icmp_ne (p := 60) rfl rfl (fun c => absurd c (by decide)) (fun _ => ?_)
    refine r_iload_n (p := 61) rfl rfl rfl ?_
    refine r_iconst (v := 3) (p := 62) rfl rfl rfl ?_
    refine r_icmp_ne (p := 65) rfl rfl (fun _ => ?_) (fun c => absurd c (by decide))
    refine r_aload_n (p := 79) rfl rfl rfl ?_
    refine r_getI (p := 82) rfl rfl rfl rfl ?_
    rw [R3.2.2.1]
    show Wp _ _ _ _ (.int (-5) :: _) _ _
    refine r_bipush (v := (-5)) (p := 84) rfl rfl rfl ?_
    refine r_icmp_ne (p := 87) rfl rfl (fun c => absurd c (by decide)) (fun _ => ?_)
    refine r_iload_n (p := 88) rfl rfl rfl ?_
    refine r_iconst (v := 3) (p := 89) rfl rfl rfl ?_
    refine r_icmp_eq (p := 92) rfl rfl (fun c => absurd c (by decide)) (fun _ => ?_)
    refine r_iload_n (p := 93) rfl rfl rfl ?_
    refine r_iconst (v := 2) (p := 94) rfl rfl rfl ?_
    refine r_icmp_ne (p := 97) rfl rfl (fun _ => ?_) (fun c => absurd c (by decide))
    refine r_aload_n (p := 110) rfl rfl rfl ?_
    refine r_getI (p := 113) rfl rfl rfl rfl ?_
    rw [R3.2.2.1]
    show Wp _ _ _ _ (.int (-5) :: _) _ _
    refine r_bipush (v := (-5)) (p := 115) rfl rfl rfl ?_
    refine r_icmp_eq (p := 118) rfl rfl (fun _ => ?_) (fun c => absurd c (by decide))
    refine r_aload_n (p := 120) rfl rfl rfl ?_
    refine r_cV (p := 123) rfl rfl rfl (Nat.le_of_ble_eq_true rfl) rfl (s_X7_skip R3 (fun F8 R8 f8 => ?_))
    refine r_aload_n (p := 124) rfl rfl rfl ?_
    refine r_cV (p := 127) rfl rfl rfl (Nat.le_of_ble_eq_true rfl) rfl (s_X7_here R8 ?_)
    refine r_bipush (v := 59) (p := 129) rfl rfl rfl ?_
    refine r_icmp_ne (p := 132) rfl rfl (fun c1 => ?_) (fun c1 => ?_)
    · refine r_aload_n (p := 156) rfl rfl rfl ?_
      refine r_aload_n (p := 157) rfl rfl rfl ?_
      refine r_getI (p := 160) rfl rfl rfl rfl ?_
      rw [R8.2.1]
      refine r_cV (p := 163) rfl rfl rfl (Nat.le_of_ble_eq_true rfl) rfl (s_X7_wrongAt (e := spc t (argP t false (lts t (spc t p))).2.1) R8 (by have := R8.2.2.2.2.2; omega) rfl (fun F9 R9 f9 => ?_))
      have es : semP t (argP t false (lts t (spc t p))).2.1 none = (spc t (argP t false (lts t (spc t p))).2.1, some (spc t (argP t false (lts t (spc t p))).2.1)) := if_neg (fun q => c1 ((hm_c (by decide)).mpr q))
      rw [es] at hQ
      exact r_return rfl (hQ _ _ _ _ R9 (((((f2.p.tr fM.m).tr f3.p).tr fM.m).tr f8.p).tr f9.p) (fun z => by cases z))
    · have hq : chq t (spc t (argP t false (lts t (spc t p))).2.1) 59 := (hm_c (by decide)).mp c1
      refine r_aload_n (p := 133) rfl rfl rfl ?_
      refine r_dup (p := 134) rfl rfl rfl ?_
      refine r_getI (p := 137) rfl rfl rfl rfl ?_
      refine r_iconst (v := 1) (p := 138) rfl rfl rfl ?_
      refine r_iadd (p := 139) rfl rfl ?_
      refine r_putI (p := 142) rfl rfl rfl rfl ?_
      refine r_aload_n (p := 143) rfl rfl rfl ?_
      refine r_dup (p := 144) rfl rfl rfl ?_
      refine r_getI (p := 147) rfl rfl rfl rfl ?_
      refine r_iconst (v := 1) (p := 148) rfl rfl rfl ?_
      refine r_iadd (p := 149) rfl rfl ?_
      refine r_putI (p := 152) rfl rfl rfl rfl ?_
      refine r_goto rfl ?_
      have es : semP t (argP t false (lts t (spc t p))).2.1 none = (spc t (argP t false (lts t (spc t p))).2.1 + 1, none) := if_pos hq
      rw [es] at hQ
      have RI := (R8.mv hq.1).inc
      subst hcs
      refine r_return rfl (hQ _ _ _ _ RI ((((((f2.p.tr fM.m).tr f3.p).tr fM.m).tr f8.p).tr (fN.u (Or.inl rfl)).p).tr fM.c) (fun z => ⟨rfl, rfl, MC.app hM (by omega) (fun k i hk hi => (uM_at.trans (if_neg (ix5_ne (by omega) (by omega) hi (show 1 < 4 by omega) (by omega)))).trans (uM_at.trans (if_neg (ix5_0n (by omega) (by omega) hi (by omega))))) ((uM_at.trans (if_neg (ix5_n0 (j := 1) (by omega) (by omega) (by omega)))).trans (uM_at.trans (if_pos rfl))) (fun x hx => ?_)⟩))
      have hx : x ∈ [(1, (argP t false (lts t (spc t p))).1)] := hx
      simp only [List.mem_cons, List.not_mem_nil, or_false] at hx
      rw [hx]; exact uM_at.trans (if_pos rfl)
set_option maxRecDepth 100000 in
theorem rc_w6 {d : Nat} {Y : mY} {F : mF} {M : mM} {L : mL} {t : List Int32} {p c : Nat} {cs : List (Nat × List Int32)} {Q : Option Value → mW → Prop} (H : MS t F M p none c) (hc : c < 25) (hcs : cs.length = c) (hM : MC M cs) {F2 : mF} (ew : wrd t (spc t p) (lts t (spc t p)) = 6) (R2 : MS t F2 M (lts t (spc t p)) (some (spc t p)) c) (f2 : fN F F2) (hQ : (∀ F' M' p' c', MS t F' M' p' (cmd t (spc t p)).2.2.2 c' → fM F M F' M' → ((cmd t (spc t p)).2.2.2 = none → p' = (cmd t (spc t p)).2.2.1 ∧ c' = c + 1 ∧ MC M' (cs ++ [((cmd t (spc t p)).1, (cmd t (spc t p)).2.1)])) → Q none (mXY Y, F', M', L))) : Wp (d + 4) tX7_readCommand 4 [some (.ref 34), none, none] [.int 0] (mXY Y, F2, M, L) Q := by
  have h3 := H.2.2.2.2.2
  refine r_istore_n (p := 5) rfl rfl rfl ?_
  refine r_iconst (v := 4) (p := 6) rfl rfl rfl ?_
  refine r_aload_n (p := 7) rfl rfl rfl ?_
  refine r_getI (p := 10) rfl rfl rfl rfl ?_
  rw [R2.2.2.2.1]
  refine r_imul (p := 11) rfl rfl ?_
  refine r_istore_n (p := 12) rfl rfl rfl ?_
  refine r_aload_n (p := 13) rfl rfl rfl ?_
  refine r_getR (p := 16) rfl rfl rfl rfl rfl ?_
  refine r_iload_n (p := 17) rfl rfl rfl ?_
  refine r_iload_n (p := 18) rfl rfl rfl ?_
  refine r_iast (p := 19) rfl rfl rfl (vp160' hc) (by decide) rfl ?_
  have ec : cmd t (spc t p) = (6, [], lts t (spc t p), some (spc t p)) := if_pos ew
  rw [ec] at hQ
  have R2 := R2.m (i := 4 * nI c) (x := 0)
  refine r_aload_n (p := 20) rfl rfl rfl ?_
  refine r_getI (p := 23) rfl rfl rfl rfl ?_
  refine r_bipush (v := (-5)) (p := 25) rfl rfl rfl ?_
  refine r_icmp_ne (p := 28) rfl rfl (fun c1 => ?_) (fun c1 => ?_)
  · exact rc_err51 R2 (hQ _ _ _ _ R2 (f2.p.tr fM.m) (fun z => by cases z))
  · exact absurd c1 R2.er
set_option maxRecDepth 100000 in
theorem s_X7_readCommand {d : Nat} {Y : mY} {F : mF} {M : mM} {L : mL} {t : List Int32} {p c : Nat} {cs : List (Nat × List Int32)} {Q : Option Value → mW → Prop} (H : MS t F M p none c) (hc : c < 25) (hcs : cs.length = c) (hM : MC M cs) (hQ : (∀ F' M' p' c', MS t F' M' p' (cmd t (spc t p)).2.2.2 c' → fM F M F' M' → ((cmd t (spc t p)).2.2.2 = none → p' = (cmd t (spc t p)).2.2.1 ∧ c' = c + 1 ∧ MC M' (cs ++ [((cmd t (spc t p)).1, (cmd t (spc t p)).2.1)])) → Q none (mXY Y, F', M', L))) : Cw (d + 5) 67 [.ref 34] (mXY Y, F, M, L) Q := by
  refine Cw_in rfl rfl ?_
  refine r_aload_n (p := 1) rfl rfl rfl ?_
  refine r_cV (p := 4) rfl rfl rfl (Nat.le_of_ble_eq_true rfl) rfl (s_X7_readWord H rfl (fun F2 R2 f2 => ?_))
  have hw6 : wrd t (spc t p) (lts t (spc t p)) ≤ 6 := by unfold wrd; split; omega; exact wid_le
  rcases (show wrd t (spc t p) (lts t (spc t p)) = 0 ∨ wrd t (spc t p) (lts t (spc t p)) = 1 ∨ wrd t (spc t p) (lts t (spc t p)) = 2 ∨ wrd t (spc t p) (lts t (spc t p)) = 3 ∨ wrd t (spc t p) (lts t (spc t p)) = 4 ∨ wrd t (spc t p) (lts t (spc t p)) = 5 ∨ wrd t (spc t p) (lts t (spc t p)) = 6 by omega) with ew | ew | ew | ew | ew | ew | ew
  · rw [ew] at R2 ⊢
    exact rc_w0 H hc hcs hM ew R2 f2 hQ
  · rw [ew] at R2 ⊢
    exact rc_w1 H hc hcs hM ew R2 f2 hQ
  · rw [ew] at R2 ⊢
    exact rc_w2 H hc hcs hM ew R2 f2 hQ
  · rw [ew] at R2 ⊢
    exact rc_w3 H hc hcs hM ew R2 f2 hQ
  · rw [ew] at R2 ⊢
    exact rc_w4 H hc hcs hM ew R2 f2 hQ
  · rw [ew] at R2 ⊢
    exact rc_w5 H hc hcs hM ew R2 f2 hQ
  · rw [ew] at R2 ⊢
    exact rc_w6 H hc hcs hM ew R2 f2 hQ
