/-! ===== IdLists ===== -/
theorem inR_nI {j : Nat} (h : j < 100) : inR (nI j) := ⟨nI_pos (by omega), nI_ge (a := j) (b := 100) h (by omega)⟩
theorem inR_of {x : Int32} (h : inR x) : ∃ j : Nat, j < 100 ∧ x = nI j := by
  obtain ⟨j, hj, rfl⟩ := nI_of h.1
  refine ⟨j, ?_, rfl⟩
  rcases Nat.lt_or_ge j 100 with z | z
  · exact z
  · exact absurd (nI_le (a := 100) (b := j) z hj) h.2
theorem nI_inj {a b : Nat} (ha : a < 2 ^ 31) (hb : b < 2 ^ 31) (h : nI a = nI b) : a = b := (nI_eq ha hb).mp h
theorem nd_le : ∀ (n : Nat) (l : List Nat), l.Nodup → (∀ x ∈ l, x < n) → l.length ≤ n
  | 0, [], _, _ => Nat.le_refl _
  | 0, x :: l, _, h => absurd (h x List.mem_cons_self) (Nat.not_lt_zero _)
  | n + 1, l, hn, h => by
    have h1 := nd_le n (l.erase n) (hn.erase n) (fun x hx => by
      have h2 := (hn.mem_erase_iff).mp hx
      have h3 := h x h2.2
      omega)
    by_cases hm : n ∈ l
    · rw [List.length_erase_of_mem hm] at h1
      omega
    · rw [List.erase_of_not_mem hm] at h1
      omega
theorem nd_le100 {l : List Int32} (hn : l.Nodup) (h : ∀ x ∈ l, inR x) : l.length ≤ 100 := by
  have e : ∀ x ∈ l, nI x.toNatClampNeg = x := fun x hx => nI_clampI (h x hx).1
  have h1 := nd_le 100 (l.map Int32.toNatClampNeg) (by
    refine List.pairwise_map.mpr (hn.imp_of_mem ?_)
    intro a b ha hb hne heq
    exact hne (by rw [← e a ha, ← e b hb, heq])) (by
    intro y hy
    obtain ⟨x, hx, rfl⟩ := List.mem_map.mp hy
    obtain ⟨j, hj, e2⟩ := inR_of (h x hx)
    rw [e2, nI_clamp (by omega)]
    exact hj)
  simpa using h1
def IL (h : Nat) (l : List Int32) (F : mF) (M : mM) : Prop :=
  F h 2 = nI l.length ∧ l.Nodup ∧ (∀ x ∈ l, inR x) ∧ (∀ k, k < l.length → M (h + 1) (nI k) = l.getD k 0) ∧ ∀ i, inR i → M (h + 2) i = if i ∈ l then 1 else 0
theorem IL.len {h : Nat} {l : List Int32} {F : mF} {M : mM} (H : IL h l F M) : l.length ≤ 100 := nd_le100 H.2.1 H.2.2.1
theorem IL.s0 {h : Nat} {l : List Int32} {F : mF} {M : mM} (H : IL h l F M) : 0 ≤ F h 2 := by rw [H.1]; exact nI_pos' (by have := H.len; omega)
theorem IL.s1 {h : Nat} {l : List Int32} {F : mF} {M : mM} (H : IL h l F M) : F h 2 ≤ 100 := by rw [H.1]; exact nI_le (b := 100) H.len (by omega)
theorem IL.at {h : Nat} {l : List Int32} {F : mF} {M : mM} (H : IL h l F M) {k : Nat} (hk : k < l.length) : f_X1_at F M h (nI k) = l.getD k 0 := by
  have hl := H.len
  simp only [f_X1_at, if_neg (nI_pos (n := k) (by omega)), H.1, if_neg (nI_ge (a := k) (b := l.length) hk (by omega))]
  exact H.2.2.2.1 k hk
theorem IL.has {h : Nat} {l : List Int32} {F : mF} {M : mM} (H : IL h l F M) {i : Int32} : f_X1_has F M h i = if i ∈ l then 1 else 0 := by
  by_cases hi : inR i
  · simp only [f_X1_has, if_neg hi.1, if_neg hi.2, H.2.2.2.2 i hi]
    by_cases hm : i ∈ l <;> simp [hm]
  · have hm : i ∉ l := fun z => hi (H.2.2.1 i z)
    simp only [f_X1_has, if_neg hm]
    by_cases h1 : i < 0
    · rw [if_pos h1]
    · rw [if_neg h1]
      by_cases h2 : (100 : Int32) ≤ i
      · rw [if_pos h2]
      · exact absurd ⟨h1, h2⟩ hi
theorem IL.ext {h : Nat} {l : List Int32} {F F' : mF} {M M' : mM} (H : IL h l F M) (e1 : F' h 2 = F h 2) (e2 : ∀ i, M' (h + 1) i = M (h + 1) i) (e3 : ∀ i, M' (h + 2) i = M (h + 2) i) : IL h l F' M' :=
  ⟨by rw [e1]; exact H.1, H.2.1, H.2.2.1, fun k hk => by rw [e2]; exact H.2.2.2.1 k hk, fun i hi => by rw [e3]; exact H.2.2.2.2 i hi⟩
theorem IL_nil {h : Nat} {F : mF} {M : mM} (h1 : F h 2 = 0) (h2 : ∀ i, inR i → M (h + 2) i = 0) : IL h [] F M := ⟨h1, List.nodup_nil, (fun x hx => by cases hx), fun k hk => absurd hk (Nat.not_lt_zero _), fun i hi => by rw [h2 i hi]; simp⟩
def addL (l : List Int32) (i : Int32) : List Int32 := if inR i ∧ i ∉ l then l ++ [i] else l
/-- what a list's methods leave alone -/
def frL (h : Nat) (F : mF) (M : mM) (F' : mF) (M' : mM) : Prop := (∀ a k, a ≠ h → F' a k = F a k) ∧ (∀ a i, a ≠ h + 1 → a ≠ h + 2 → M' a i = M a i)
theorem frL.rf {h : Nat} {F : mF} {M : mM} : frL h F M F M := ⟨fun _ _ _ => rfl, fun _ _ _ _ => rfl⟩
theorem frL.tr {h : Nat} {F F1 F2 : mF} {M M1 M2 : mM} (a : frL h F M F1 M1) (b : frL h F1 M1 F2 M2) : frL h F M F2 M2 := ⟨fun x k hx => (b.1 x k hx).trans (a.1 x k hx), fun x i h1 h2 => (b.2 x i h1 h2).trans (a.2 x i h1 h2)⟩
theorem nd_app {l : List Int32} {i : Int32} (hn : l.Nodup) (hi : i ∉ l) : (l ++ [i]).Nodup := by
  refine List.nodup_append.mpr ⟨hn, by simp, ?_⟩
  intro a ha b hb e
  simp only [List.mem_singleton] at hb
  subst hb e
  exact hi ha
theorem IL.add {h : Nat} {l : List Int32} {F : mF} {M : mM} (H : IL h l F M) (i : Int32) : IL h (addL l i) (gF_X1_add F M h i) (gM_X1_add F M h i) ∧ frL h F M (gF_X1_add F M h i) (gM_X1_add F M h i) := by
  by_cases h1 : i < 0
  · have e : addL l i = l := if_neg (fun z => z.1.1 h1)
    simp only [gF_X1_add, gM_X1_add, if_pos h1, e]
    exact ⟨H, frL.rf⟩
  by_cases h2 : (100 : Int32) ≤ i
  · have e : addL l i = l := if_neg (fun z => z.1.2 h2)
    simp only [gF_X1_add, gM_X1_add, if_neg h1, if_pos h2, e]
    exact ⟨H, frL.rf⟩
  have hi : inR i := ⟨h1, h2⟩
  by_cases hm : i ∈ l
  · have e : addL l i = l := if_neg (fun z => z.2 hm)
    have e2 : ¬ M (h + 2) i = 0 := by rw [H.2.2.2.2 i hi, if_pos hm]; decide
    simp only [gF_X1_add, gM_X1_add, if_neg h1, if_neg h2, if_neg e2, e]
    exact ⟨H, frL.rf⟩
  have e : addL l i = l ++ [i] := if_pos ⟨hi, hm⟩
  have hnd := nd_app H.2.1 hm
  have hin : ∀ x ∈ l ++ [i], inR x := fun x hx => by
    rcases List.mem_append.mp hx with z | z
    · exact H.2.2.1 x z
    · simp only [List.mem_singleton] at z
      rw [z]; exact hi
  have hlen := nd_le100 hnd hin
  simp only [List.length_append, List.length_singleton] at hlen
  have e2 : M (h + 2) i = 0 := by rw [H.2.2.2.2 i hi, if_neg hm]
  have e3 : ¬ (100 : Int32) ≤ F h 2 := by rw [H.1]; exact nI_ge (a := l.length) (b := 100) (by omega) (by omega)
  simp only [gF_X1_add, gM_X1_add, if_neg h1, if_neg h2, if_pos e2, if_neg e3, e]
  refine ⟨⟨?_, hnd, hin, fun k hk => ?_, fun j hj => ?_⟩, fun a k ha => uF_ne ha, fun a j ha hb => by rw [uM_ne ha, uM_ne hb]⟩
  · rw [uF_at, H.1, nI_1]; simp
  · rw [uM_at, H.1]
    simp only [List.length_append, List.length_singleton] at hk
    by_cases hkl : k = l.length
    · subst hkl
      rw [if_pos rfl]
      simp
    · rw [if_neg (fun z => hkl (nI_inj (by omega) (by omega) z)), uM_ne (by omega), H.2.2.2.1 k (by omega)]
      simp [List.getD_eq_getElem?_getD, List.getElem?_append_left (show k < l.length by omega)]
  · rw [uM_ne (by omega), uM_at]
    by_cases hji : j = i
    · rw [if_pos hji, if_pos (by simp [hji])]
    · rw [if_neg hji, H.2.2.2.2 j hj]
      simp [hji]
set_option maxRecDepth 100000 in
theorem lp_X1_clear {d : Nat} {X : mX} {F : mF} {M : mM} {L : mL} {h : Nat} {Q : Option Value → mW → Prop} (hI : mIL X h) (hQ : ∀ M', (∀ a i, a ≠ h + 2 → M' a i = M a i) → (∀ i, inR i → M' (h + 2) i = 0) → Q none (X, uF F h 2 0, M', L)) :
    ∀ (n k : Nat), k ≤ 100 → 100 - k < n → ∀ M1 : mM, (∀ a i, a ≠ h + 2 → M1 a i = M a i) → (∀ j, j < k → M1 (h + 2) (nI j) = 0) → Wp d tX1_clear 2 [some (.ref h), some (.int (nI k))] [] (X, F, M1, L) Q
  | 0, _, _, hn, _, _, _ => absurd hn (Nat.not_lt_zero _)
  | n + 1, k, hk, hn, M1, i1, i2 => by
    obtain ⟨b0, b1, b2, k0, r0, r1, k1, k2⟩ := id hI
    refine r_iload_n (p := 3) rfl rfl rfl ?_
    refine r_bipush (v := 100) (p := 5) rfl rfl rfl ?_
    refine r_icmp_ge (p := 8) rfl rfl (fun c1 => ?_) (fun c1 => ?_)
    · refine r_aload_n (p := 22) rfl rfl rfl ?_
      refine r_iconst (v := 0) (p := 23) rfl rfl rfl ?_
      refine r_putI (p := 26) rfl b0 k0 rfl ?_
      refine r_return rfl ?_
      exact hQ M1 i1 (fun i hi => by obtain ⟨j, hj, rfl⟩ := inR_of hi; exact i2 j (Nat.lt_of_lt_of_le hj (Nat.le_of_not_lt fun z => absurd c1 (nI_ge (a := k) (b := 100) z (by omega)))))
    · refine r_aload_n (p := 9) rfl rfl rfl ?_
      refine r_getR (p := 12) rfl b0 k0 r1 rfl ?_
      refine r_iload_n (p := 13) rfl rfl rfl ?_
      refine r_iconst (v := 0) (p := 14) rfl rfl rfl ?_
      refine r_zast (v := 0) (p := 15) rfl b2 k2 (vp_in_nI (Nat.lt_of_not_le fun z => c1 (nI_le (a := 100) z (by omega))) (by omega)) (by decide) (by decide) rfl ?_
      refine r_iinc (v := nI (k + 1)) (p := 18) rfl rfl (nI_1 k) rfl rfl ?_
      refine r_goto rfl ?_
      have hkl : k < 100 := Nat.lt_of_not_le fun z => c1 (nI_le (a := 100) z (by omega))
      refine lp_X1_clear hI hQ n (k + 1) hkl (by omega) _ (fun a i ha => by rw [uM_ne ha]; exact i1 a i ha) (fun j hj => ?_)
      rw [uM_at]
      by_cases e : j = k
      · rw [if_pos (by rw [e])]
      · rw [if_neg (fun z => e (nI_inj (by omega) (by omega) z))]
        exact i2 j (by omega)
set_option maxRecDepth 100000 in
theorem s_X1_clear {d : Nat} {X : mX} {F : mF} {M : mM} {L : mL} {h : Nat} {Q : Option Value → mW → Prop} (hI : mIL X h) (hQ : ∀ F' M', IL h [] F' M' → frL h F M F' M' → Q none (X, F', M', L)) : Cw (d + 1) 81 [.ref h] (X, F, M, L) Q := by
  refine Cw_in rfl rfl ?_
  refine r_iconst (v := 0) (p := 1) rfl rfl rfl ?_
  refine r_istore_n (p := 2) rfl rfl rfl ?_
  exact lp_X1_clear hI (fun M' i1 i2 => hQ _ M' (IL_nil uF_at i2) ⟨fun a k ha => uF_ne ha, fun a i _ ha => i1 a i ha⟩) 101 0 (by omega) (by omega) M (fun _ _ _ => rfl) (fun j hj => absurd hj (Nat.not_lt_zero _))
def flt (x : Int32) (l : List Int32) : List Int32 := l.filter (fun y => decide (y ≠ x))
theorem flt_take {x : Int32} {l : List Int32} {k : Nat} (hk : k < l.length) : flt x (l.take (k + 1)) = if l.getD k 0 = x then flt x (l.take k) else flt x (l.take k) ++ [l.getD k 0] := by
  have e : l.take (k + 1) = l.take k ++ [l.getD k 0] := by
    rw [List.take_succ]
    simp [List.getD_eq_getElem?_getD, List.getElem?_eq_getElem hk]
  unfold flt
  rw [e, List.filter_append]
  by_cases h : l.getD k 0 = x
  · rw [if_pos h, h]; simp
  · rw [if_neg h]
    rw [List.filter_cons_of_pos (by simpa using h)]
    simp
theorem flt_len {x : Int32} {l : List Int32} {k : Nat} (hk : k ≤ l.length) : (flt x (l.take k)).length ≤ k := by
  refine Nat.le_trans (List.length_filter_le _ _) ?_
  simp
  omega
set_option maxRecDepth 100000 in
theorem lp_X1_drop {d : Nat} {X : mX} {F : mF} {M : mM} {L : mL} {h : Nat} {x : Int32} {l : List Int32} {Q : Option Value → mW → Prop} (hI : mIL X h) (H : IL h l F M) (hQ : ∀ M', ((∀ p, p < (flt x l).length → M' (h + 1) (nI p) = (flt x l).getD p 0) ∧ ∀ a i, a ≠ h + 1 → M' a i = (uM M (h + 2) x 0) a i) → Q none (X, uF F h 2 (nI (flt x l).length), M', L)) :
    ∀ (n k : Nat), k ≤ l.length → l.length - k < n → ∀ M1 : mM, (∀ p, p < (flt x (l.take k)).length → M1 (h + 1) (nI p) = (flt x (l.take k)).getD p 0) → (∀ p, k ≤ p → p < l.length → M1 (h + 1) (nI p) = l.getD p 0) → (∀ a i, a ≠ h + 1 → M1 a i = (uM M (h + 2) x 0) a i) →
      Wp d tX1_drop 20 [some (.ref h), some (.int x), some (.int (nI (flt x (l.take k)).length)), some (.int (nI k))] [] (X, F, M1, L) Q
  | 0, _, _, hn, _, _, _, _ => absurd hn (Nat.not_lt_zero _)
  | n + 1, k, hk, hn, M1, i1, i2, i3 => by
    obtain ⟨b0, b1, b2, k0, r0, r1, k1, k2⟩ := id hI
    refine r_iload_n (p := 21) rfl rfl rfl ?_
    refine r_aload_n (p := 22) rfl rfl rfl ?_
    refine r_getI (p := 25) rfl b0 k0 rfl ?_
    refine r_icmp_ge (p := 28) rfl rfl (fun c1 => ?_) (fun c1 => ?_)
    · refine r_aload_n (p := 60) rfl rfl rfl ?_
      refine r_iload_n (p := 61) rfl rfl rfl ?_
      refine r_putI (p := 64) rfl b0 k0 rfl ?_
      refine r_return rfl ?_
      have hke : l.take k = l := List.take_of_length_le (Nat.le_of_not_lt fun z => absurd c1 (by rw [H.1]; exact nI_ge z (by have := H.len; omega)))
      rw [hke] at i1 ⊢
      exact hQ M1 ⟨i1, i3⟩
    · refine r_aload_n (p := 29) rfl rfl rfl ?_
      refine r_getR (p := 32) rfl b0 k0 r0 rfl ?_
      refine r_iload_n (p := 33) rfl rfl rfl ?_
      refine r_iald (p := 34) rfl b1 k1 (vp_in_nI (show k < 100 from Nat.lt_of_lt_of_le (Nat.lt_of_not_le fun z => c1 (by rw [H.1]; exact nI_le z (by have := H.len; omega))) H.len) (by omega)) rfl ?_
      refine r_iload_n (p := 35) rfl rfl rfl ?_
      refine r_icmp_eq (p := 38) rfl rfl (fun c2 => ?_) (fun c2 => ?_)
      · refine r_iinc (v := nI (k + 1)) (p := 56) rfl rfl (nI_1 k) rfl rfl ?_
        refine r_goto rfl ?_
        have hkl : k < l.length := Nat.lt_of_not_le fun z => c1 (by rw [H.1]; exact nI_le z (by have := H.len; omega))
        have e : l.getD k 0 = x := by rw [← i2 k (Nat.le_refl _) hkl]; exact c2
        have ef := flt_take (x := x) hkl
        rw [if_pos e] at ef
        have z := lp_X1_drop (d := d) hI H hQ n (k + 1) hkl (by omega) M1 (by rw [ef]; exact i1) (fun p hp hp2 => i2 p (by omega) hp2) i3
        rw [ef] at z
        exact z
      · refine r_aload_n (p := 39) rfl rfl rfl ?_
        refine r_getR (p := 42) rfl b0 k0 r0 rfl ?_
        refine r_iload_n (p := 43) rfl rfl rfl ?_
        refine r_aload_n (p := 44) rfl rfl rfl ?_
        refine r_getR (p := 47) rfl b0 k0 r0 rfl ?_
        refine r_iload_n (p := 48) rfl rfl rfl ?_
        refine r_iald (p := 49) rfl b1 k1 (vp_in_nI (show k < 100 from Nat.lt_of_lt_of_le (Nat.lt_of_not_le fun z => c1 (by rw [H.1]; exact nI_le z (by have := H.len; omega))) H.len) (by omega)) rfl ?_
        refine r_iast (p := 50) rfl b1 k1 (vp_in_nI (show (flt x (l.take k)).length < 100 from Nat.lt_of_le_of_lt (flt_len hk) (Nat.lt_of_lt_of_le (Nat.lt_of_not_le fun z => c1 (by rw [H.1]; exact nI_le z (by have := H.len; omega))) H.len)) (by omega)) (by decide) rfl ?_
        refine r_iinc (v := nI ((flt x (l.take k)).length + 1)) (p := 53) rfl rfl (nI_1 _) rfl rfl ?_
        refine r_iinc (v := nI (k + 1)) (p := 56) rfl rfl (nI_1 k) rfl rfl ?_
        refine r_goto rfl ?_
        have hkl : k < l.length := Nat.lt_of_not_le fun z => c1 (by rw [H.1]; exact nI_le z (by have := H.len; omega))
        have e0 : M1 (h + 1) (nI k) = l.getD k 0 := i2 k (Nat.le_refl _) hkl
        have e : ¬ l.getD k 0 = x := by rw [← e0]; exact c2
        have ef := flt_take (x := x) hkl
        rw [if_neg e] at ef
        have hj := flt_len (x := x) (l := l) (k := k) (by omega)
        have h100 := H.len
        have z := lp_X1_drop (d := d) hI H hQ n (k + 1) hkl (by omega) (uM M1 (h + 1) (nI (flt x (l.take k)).length) (M1 (h + 1) (nI k))) (by
          rw [ef]
          intro p hp
          simp only [List.length_append, List.length_singleton] at hp
          rw [uM_at]
          by_cases hpj : p = (flt x (l.take k)).length
          · rw [if_pos (by rw [hpj]), e0, hpj]; simp
          · rw [if_neg (fun z => hpj (nI_inj (by omega) (by omega) z)), i1 p (by omega)]
            simp [List.getD_eq_getElem?_getD, List.getElem?_append_left (show p < (flt x (l.take k)).length by omega)]) (fun p hp hp2 => by
          rw [uM_at, if_neg (fun z => by have := nI_inj (by omega) (by omega) z; omega)]
          exact i2 p (by omega) hp2) (fun a i ha => by rw [uM_ne ha]; exact i3 a i ha)
        rw [ef, List.length_append, List.length_singleton] at z
        exact z
theorem flt_no {x : Int32} {l : List Int32} (h : x ∉ l) : flt x l = l := List.filter_eq_self.mpr fun a ha => by
  have : a ≠ x := fun e => h (e ▸ ha)
  simpa using this
theorem flt_mem {x y : Int32} {l : List Int32} : y ∈ flt x l ↔ y ∈ l ∧ y ≠ x := by simp [flt, List.mem_filter]
theorem IL_flt {X : mX} {h : Nat} {x : Int32} {l : List Int32} {F : mF} {M M' : mM} (hI : mIL X h) (H : IL h l F M) (hx : inR x) (i : (∀ p, p < (flt x l).length → M' (h + 1) (nI p) = (flt x l).getD p 0) ∧ ∀ a i, a ≠ h + 1 → M' a i = (uM M (h + 2) x 0) a i) : IL h (flt x l) (uF F h 2 (nI (flt x l).length)) M' := by
  refine ⟨uF_at, H.2.1.filter _, fun y hy => H.2.2.1 y (flt_mem.mp hy).1, i.1, fun j hj => ?_⟩
  rw [i.2 _ _ (by omega), uM_at]
  by_cases e : j = x
  · rw [if_pos e, if_neg (fun z => (flt_mem.mp z).2 e)]
  · rw [if_neg e, H.2.2.2.2 j hj]
    by_cases hm : j ∈ l
    · rw [if_pos hm, if_pos (flt_mem.mpr ⟨hm, e⟩)]
    · rw [if_neg hm, if_neg (fun z => hm (flt_mem.mp z).1)]
set_option maxRecDepth 100000 in
theorem s_X1_drop {d : Nat} {X : mX} {F : mF} {M : mM} {L : mL} {h : Nat} {x : Int32} {l : List Int32} {Q : Option Value → mW → Prop} (hI : mIL X h) (H : IL h l F M) (hQ : ∀ F' M', IL h (flt x l) F' M' → frL h F M F' M' → Q none (X, F', M', L)) : Cw (d + 2) 80 [.ref h, .int x] (X, F, M, L) Q := by
  obtain ⟨b0, b1, b2, k0, r0, r1, k1, k2⟩ := id hI
  refine Cw_in rfl rfl ?_
  refine r_aload_n (p := 1) rfl rfl rfl ?_
  refine r_iload_n (p := 2) rfl rfl rfl ?_
  refine r_cV (p := 5) rfl rfl (mkd_o b0 k0) (Nat.le_of_ble_eq_true rfl) rfl (s_X1_has hI ?_)
  refine r_if_ne (p := 8) rfl rfl (fun c1 => ?_) (fun c1 => ?_)
  · have hm : x ∈ l := Classical.byContradiction fun z => c1 (by rw [H.has, if_neg z])
    have hx : inR x := H.2.2.1 x hm
    refine r_aload_n (p := 10) rfl rfl rfl ?_
    refine r_getR (p := 13) rfl b0 k0 r1 rfl ?_
    refine r_iload_n (p := 14) rfl rfl rfl ?_
    refine r_iconst (v := 0) (p := 15) rfl rfl rfl ?_
    refine r_zast (v := 0) (p := 16) rfl b2 k2 (vpi (v := 100) (by decide) rfl hx.1 hx.2) (by decide) (by decide) rfl ?_
    refine r_iconst (v := 0) (p := 17) rfl rfl rfl ?_
    refine r_istore_n (p := 18) rfl rfl rfl ?_
    refine r_iconst (v := 0) (p := 19) rfl rfl rfl ?_
    refine r_istore_n (p := 20) rfl rfl rfl ?_
    exact lp_X1_drop hI H (fun M' i => hQ _ M' (IL_flt hI H hx i) ⟨fun a k ha => uF_ne ha, fun a j ha hb => by rw [i.2 a j ha, uM_ne hb]⟩) (l.length + 1) 0 (Nat.zero_le _) (by omega) _ (fun p hp => absurd hp (Nat.not_lt_zero _)) (fun p _ hp => by rw [uM_ne (by omega)]; exact H.2.2.2.1 p hp) (fun _ _ _ => rfl)
  · refine r_return rfl ?_
    rw [H.has] at c1
    have hm : x ∉ l := fun z => by rw [if_pos z] at c1; exact absurd c1 (by decide)
    exact hQ F M (by rw [flt_no hm]; exact H) frL.rf
set_option maxRecDepth 100000 in
theorem s_X1_takeFirst {d : Nat} {X : mX} {F : mF} {M : mM} {L : mL} {h : Nat} {y : Int32} {t : List Int32} {Q : Option Value → mW → Prop} (hI : mIL X h) (H : IL h (y :: t) F M) (hQ : ∀ F' M', IL h t F' M' → frL h F M F' M' → Q (some (.int y)) (X, F', M', L)) : Cw (d + 3) 79 [.ref h] (X, F, M, L) Q := by
  obtain ⟨b0, b1, b2, k0, r0, r1, k1, k2⟩ := id hI
  refine Cw_in rfl rfl ?_
  refine r_aload_n (p := 1) rfl rfl rfl ?_
  refine r_iconst (v := 0) (p := 2) rfl rfl rfl ?_
  refine r_cV (p := 5) rfl rfl (mkd_o b0 k0) (Nat.le_of_ble_eq_true rfl) rfl (s_X1_at hI H.s1 ?_)
  rw [show (0 : Int32) = nI 0 from rfl, H.at (k := 0) (by simp)]
  refine r_istore_n (p := 6) rfl rfl rfl ?_
  refine r_aload_n (p := 7) rfl rfl rfl ?_
  refine r_iload_n (p := 8) rfl rfl rfl ?_
  refine r_cV (p := 11) rfl rfl (mkd_o b0 k0) (Nat.le_of_ble_eq_true rfl) rfl (s_X1_drop hI H (fun F' M' H' fr => ?_))
  refine r_iload_n (p := 12) rfl rfl rfl ?_
  refine r_ireturn rfl trivial ?_
  have e : flt y (y :: t) = t := by have hn := (List.nodup_cons.mp H.2.1).1; unfold flt; rw [List.filter_cons_of_neg (by simp)]; exact flt_no hn
  exact hQ F' M' (e ▸ H') fr
