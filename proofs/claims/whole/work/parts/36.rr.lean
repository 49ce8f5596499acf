/-! ===== the reference's memory ===== -/
def LL (n : Int32) (row : Int32 → Int32) (l : List Int32) : Prop := n = nI l.length ∧ ∀ k, k < l.length → row (nI k) = l.getD k 0
def RR (s : mSt) (F : mF) (M : mM) : Prop :=
  (∀ i, inR i → M 35 i = sG s i) ∧ (∀ i, inR i → M 36 i = sA s i) ∧ (∀ i, inR i → M 37 i = sN s i) ∧
  (∀ i, inR i → sG s i = 2 → ¬ sPh s = 0 → M 39 i = sC s i) ∧
  (∀ i j, inR i → ¬ j < 0 → j < 4 → M 38 (4 * i + j) = sR s (4 * i + j)) ∧
  (∀ k, k < 4 → M 40 (nI k) = sO s (nI k)) ∧
  LL (F 34 11) (M 41) (sNu s) ∧ LL (F 34 13) (M 42) (sKn s) ∧ LL (F 34 15) (M 43) (sQu s) ∧ LL (F 34 17) (M 44) (sSw s) ∧
  (F 34 0 = sNc s ∧ F 34 1 = sOc s ∧ F 34 2 = sTe s) ∧ F 34 3 = sAl s ∧
  (F 34 18 = sPh s ∧ F 34 21 = sMa s) ∧ (F 34 19 = sFa s ∧ F 34 20 = sMi s)
/-- what the reference's heap methods leave alone -/
def frR (F : mF) (M : mM) (F' : mF) (M' : mM) : Prop := (∀ a k, a ≠ 34 ∨ (22 ≤ k ∧ k ≠ 29) → F' a k = F a k) ∧ (∀ a i, a < 35 ∨ (45 ≤ a ∧ a ≤ 47) ∨ 52 ≤ a → M' a i = M a i)
theorem frR.rf {F : mF} {M : mM} : frR F M F M := ⟨fun _ _ _ => rfl, fun _ _ _ => rfl⟩
theorem frR.tr {F F1 F2 : mF} {M M1 M2 : mM} (a : frR F M F1 M1) (b : frR F1 M1 F2 M2) : frR F M F2 M2 := ⟨fun x k h => (b.1 x k h).trans (a.1 x k h), fun x k h => (b.2 x k h).trans (a.2 x k h)⟩
theorem frR.m {F : mF} {M : mM} {h : Nat} {i x : Int32} (hh : 35 ≤ h ∧ h ≤ 44 ∨ 48 ≤ h ∧ h ≤ 51) : frR F M F (uM M h i x) := ⟨fun _ _ _ => rfl, fun a j ha => uM_ne (by omega)⟩
theorem frR.f {F : mF} {M : mM} {k : Nat} {x : Int32} (hk : k < 22 ∨ k = 29) : frR F M (uF F 34 k x) M := ⟨fun a j ha => by
  by_cases e : a = 34
  · exact uF_nk (by omega)
  · exact uF_ne e, fun _ _ _ => rfl⟩
theorem LL.app {n : Int32} {row : Int32 → Int32} {l : List Int32} (h : LL n row l) (hl : l.length < 1000) (v : Int32) : LL (n + 1) (fun j => if j = n then v else row j) (l ++ [v]) := by
  refine ⟨by rw [h.1, nI_1]; simp, fun k hk => ?_⟩
  simp only [List.length_append, List.length_singleton] at hk
  rw [h.1]
  show (if nI k = nI l.length then v else row (nI k)) = _
  by_cases e : k = l.length
  · subst e
    rw [if_pos rfl]; simp
  · rw [if_neg (fun z => e (nI_inj (by omega) (by omega) z)), h.2 k (by omega)]
    simp [List.getD_eq_getElem?_getD, List.getElem?_append_left (show k < l.length by omega)]
theorem LL.nil {row : Int32 → Int32} : LL 0 row [] := ⟨rfl, fun k hk => absurd hk (Nat.not_lt_zero _)⟩
theorem LL.at {n : Int32} {row : Int32 → Int32} {l t : List Int32} {x : Int32} {j : Nat} (h : LL n row l) (hd : l.drop j = x :: t) : row (nI j) = x := by
  obtain ⟨h1, h2, _⟩ := drop_c (z := 0) hd
  rw [h.2 j h1, h2]
theorem len99 {l : List Int32} {v : Int32} (hn : l.Nodup) (h : ∀ x ∈ l, inR x) (hv : inR v) (hm : v ∉ l) : l.length < 100 := by
  have := nd_le100 (nd_app hn hm) (fun x hx => by
    rcases List.mem_append.mp hx with z | z
    · exact h x z
    · rw [List.mem_singleton.mp z]; exact hv)
  simp only [List.length_append, List.length_singleton] at this
  omega
theorem Inv.nul {s : mSt} (h : Inv s) : (sNu s).length ≤ 100 := nd_le100 h.2.2.2.2.2.1.1 (fun x hx => ((h.2.2.2.2.2.1.2 x).mp hx).1)
theorem Inv.knl {s : mSt} (h : Inv s) : (sKn s).length ≤ 100 := nd_le100 h.2.2.2.2.2.2.1.1 (fun x hx => (h.2.2.2.2.2.2.1.2 x hx).1)
theorem Inv.qul {s : mSt} (h : Inv s) : (sQu s).length ≤ 100 := nd_le100 h.2.2.2.2.2.2.2.1.1 (fun x hx => (h.2.2.2.2.2.2.2.1.2.1 x hx).1.1)
theorem Inv.swl {s : mSt} (h : Inv s) : (sSw s).length ≤ 100 := nd_le100 h.2.2.2.2.2.2.2.2.1.1 (fun x hx => (h.2.2.2.2.2.2.2.2.1.2.1 x hx).1)
theorem RR.alw {s : mSt} {F : mF} {M : mM} (H : RR s F M) : F 34 3 = sAl s := H.2.2.2.2.2.2.2.2.2.2.2.1
theorem vp100 {v : Int32} (h : inR v) : vp_in v 100 := vpi (v := 100) (by decide) rfl h.1 h.2
theorem vp400 {i j : Int32} (h : inR i) (h0 : ¬ j < 0) (h1 : j < 4) : vp_in (4 * i + j) 400 := by rw [← ix4c]; exact vp_fld h.1 h.2 h0 (Int32.not_le.mpr h1)
