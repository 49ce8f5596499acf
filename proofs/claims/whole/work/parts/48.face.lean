/-! ===== the whole abstract state: heap, error counts, text, output ===== -/
abbrev mBs : Type := mSt × (Int32 → Int32) × List Int32 × List Int32
abbrev cE (er : Int32 → Int32) (r : Int32) : Int32 → Int32 := if r = -2 ∨ r = -3 ∨ r = -4 then up1 er (-2 - r) (er (-2 - r) + 1) else er
abbrev bE (b : mBs) (r : Int32) : mBs := (b.1, cE b.2.1 r, b.2.2)
abbrev bS (b : mBs) (p : Int32 × mSt) : Int32 × mBs := (p.1, (p.2, cE b.2.1 p.1, b.2.2))
/-- a text at h -/
def STR (X : mX) (F : mF) (M : mM) (h : Nat) (l : List Int32) : Prop :=
  (h = 1000000 ∧ l = []) ∨ ∃ v, 53 ≤ h ∧ Nat.blt h mB = true ∧ X.2.2.1 h = (0, 0) ∧ X.2.2.2.1 h 0 = some v ∧ 53 ≤ v ∧ Nat.blt v mB = true ∧ X.2.2.1 v = (3, l.length) ∧ F h 1 = 0 ∧ ∀ k, k < l.length → M v (nI k) = l.getD k 0
def BC (b : mBs) (Y : mY) (F : mF) (M : mM) : Prop := RC b.1 F M ∧ (∀ k, k < 3 → M 33 (nI k) = b.2.1 (nI k)) ∧ LL (F 29 3) (M 32) b.2.2.1 ∧ ∃ h, Y.2.2.2.1 = some h ∧ STR (mXY Y) F M h b.2.2.2
def BR (b : mBs) (F : mF) (M : mM) : Prop := RR b.1 F M ∧ (∀ k, k < 3 → M 45 (nI k) = b.2.1 (nI k)) ∧ F 34 23 = 0 ∧ LL (F 34 25) (M 46) b.2.2.1 ∧ LL (F 34 27) (M 47) b.2.2.2
/-- the class leaves the reference's cells, and the other way round -/
def frc (F : mF) (M : mM) (F' : mF) (M' : mM) : Prop := (∀ k, F' 34 k = F 34 k) ∧ ∀ a i, 35 ≤ a → a ≤ 52 → M' a i = M a i
def frr (F : mF) (M : mM) (F' : mF) (M' : mM) : Prop := (∀ a k, a ≠ 34 → F' a k = F a k) ∧ ∀ a i, a < 35 ∨ 52 < a → M' a i = M a i
theorem frc.rf {F : mF} {M : mM} : frc F M F M := ⟨fun _ => rfl, fun _ _ _ _ => rfl⟩
theorem frc.tr {F F1 F2 : mF} {M M1 M2 : mM} (a : frc F M F1 M1) (b : frc F1 M1 F2 M2) : frc F M F2 M2 := ⟨fun k => (b.1 k).trans (a.1 k), fun x k h h2 => (b.2 x k h h2).trans (a.2 x k h h2)⟩
theorem frr.rf {F : mF} {M : mM} : frr F M F M := ⟨fun _ _ _ => rfl, fun _ _ _ => rfl⟩
theorem frr.tr {F F1 F2 : mF} {M M1 M2 : mM} (a : frr F M F1 M1) (b : frr F1 M1 F2 M2) : frr F M F2 M2 := ⟨fun x k h => (b.1 x k h).trans (a.1 x k h), fun x k h => (b.2 x k h).trans (a.2 x k h)⟩
theorem frC.c {F F' : mF} {M M' : mM} (a : frC F M F' M') : frc F M F' M' := ⟨fun k => a.1 34 k (by omega), fun x i h _ => a.2 x i (by omega)⟩
theorem frR.r {F F' : mF} {M M' : mM} (a : frR F M F' M') : frr F M F' M' := ⟨fun x k h => a.1 x k (Or.inl h), fun x i h => a.2 x i (by omega)⟩
theorem STR.fr {X : mX} {F F' : mF} {M M' : mM} {h : Nat} {l : List Int32} (H : STR X F M h l) (f : ∀ a k, 53 ≤ a → F' a k = F a k) (m : ∀ a i, 53 ≤ a → M' a i = M a i) : STR X F' M' h l := by
  rcases H with q | ⟨v, h1, h2, h3, h4, h5, h6, h7, h8, h9⟩
  · exact Or.inl q
  · exact Or.inr ⟨v, h1, h2, h3, h4, h5, h6, h7, by rw [f _ _ h1]; exact h8, fun k hk => by rw [m _ _ h5]; exact h9 k hk⟩
theorem LL.fr {n : Int32} {f g : Int32 → Int32} {l : List Int32} (h : LL n f l) (e : ∀ i, g i = f i) : LL n g l := ⟨h.1, fun k hk => by rw [e]; exact h.2 k hk⟩
theorem IL.fr {h : Nat} {l : List Int32} {F F' : mF} {M M' : mM} (H : IL h l F M) (e1 : F' h 2 = F h 2) (e2 : ∀ i, M' (h + 1) i = M (h + 1) i) (e3 : ∀ i, M' (h + 2) i = M (h + 2) i) : IL h l F' M' := ⟨by rw [e1]; exact H.1, H.2.1, H.2.2.1, fun k hk => by rw [e2]; exact H.2.2.2.1 k hk, fun i hi => by rw [e3]; exact H.2.2.2.2 i hi⟩
theorem RC.fr {s : mSt} {F F' : mF} {M M' : mM} (H : RC s F M) (f : ∀ a k, a < 29 → F' a k = F a k) (m : ∀ a i, a < 29 → M' a i = M a i) : RC s F' M' := by
  obtain ⟨c1, c2, c3, c4, c5, c6, l1, l2, l3, l4, ⟨d1, d2, d3⟩, ⟨d4, d5, d6, d7⟩, ⟨d8, d9⟩, d10, d11⟩ := H
  have fi : ∀ {h l}, h + 2 < 29 → IL h l F M → IL h l F' M' := fun hh H => H.fr (f _ _ (by omega)) (fun i => m _ _ (by omega)) (fun i => m _ _ (by omega))
  exact ⟨fun i hi => by rw [m _ _ (by omega)]; exact c1 i hi, fun i hi => by rw [m _ _ (by omega)]; exact c2 i hi, fun i hi => by rw [m _ _ (by omega)]; exact c3 i hi, fun i hi a b => by rw [m _ _ (by omega)]; exact c4 i hi a b, fun i j hi a b c => by rw [m _ _ (by omega)]; exact c5 i j hi a b c, fun k hk => by rw [m _ _ (by omega)]; exact c6 k hk, fi (by omega) l1, fi (by omega) l2, fi (by omega) l3, fi (by omega) l4, ⟨by rw [f _ _ (by omega)]; exact d1, by rw [f _ _ (by omega)]; exact d2, by rw [f _ _ (by omega)]; exact d3⟩, ⟨by rw [f _ _ (by omega)]; exact d4, by rw [f _ _ (by omega)]; exact d5, by rw [f _ _ (by omega)]; exact d6, by rw [f _ _ (by omega)]; exact d7⟩, ⟨by rw [f _ _ (by omega)]; exact d8, by rw [f _ _ (by omega)]; exact d9⟩, by rw [f _ _ (by omega)]; exact d10, by rw [f _ _ (by omega)]; exact d11⟩
theorem RR.fr {s : mSt} {F F' : mF} {M M' : mM} (H : RR s F M) (f : ∀ k, k < 22 → F' 34 k = F 34 k) (m : ∀ a i, 35 ≤ a → a ≤ 44 → M' a i = M a i) : RR s F' M' := by
  obtain ⟨c1, c2, c3, c4, c5, c6, l1, l2, l3, l4, ⟨d1, d2, d3⟩, d4, ⟨d8, d9⟩, d10, d11⟩ := H
  exact ⟨fun i hi => by rw [m _ _ (by omega) (by omega)]; exact c1 i hi, fun i hi => by rw [m _ _ (by omega) (by omega)]; exact c2 i hi, fun i hi => by rw [m _ _ (by omega) (by omega)]; exact c3 i hi, fun i hi a b => by rw [m _ _ (by omega) (by omega)]; exact c4 i hi a b, fun i j hi a b => by rw [m _ _ (by omega) (by omega)]; exact c5 i j hi a b, fun k hk => by rw [m _ _ (by omega) (by omega)]; exact c6 k hk, by rw [f _ (by omega)]; exact l1.fr (fun i => m _ _ (by omega) (by omega)), by rw [f _ (by omega)]; exact l2.fr (fun i => m _ _ (by omega) (by omega)), by rw [f _ (by omega)]; exact l3.fr (fun i => m _ _ (by omega) (by omega)), by rw [f _ (by omega)]; exact l4.fr (fun i => m _ _ (by omega) (by omega)), ⟨by rw [f _ (by omega)]; exact d1, by rw [f _ (by omega)]; exact d2, by rw [f _ (by omega)]; exact d3⟩, by rw [f _ (by omega)]; exact d4, ⟨by rw [f _ (by omega)]; exact d8, by rw [f _ (by omega)]; exact d9⟩, by rw [f _ (by omega)]; exact d10, by rw [f _ (by omega)]; exact d11⟩
theorem BC.fr {b : mBs} {Y : mY} {F F' : mF} {M M' : mM} (H : BC b Y F M) (f : frr F M F' M') : BC b Y F' M' := by
  obtain ⟨h1, h2, h3, h, h4, h5⟩ := H
  exact ⟨h1.fr (fun a k ha => f.1 a k (by omega)) (fun a i ha => f.2 a i (by omega)), fun k hk => by rw [f.2 _ _ (by omega)]; exact h2 k hk, by rw [f.1 _ _ (by omega)]; exact h3.fr (fun i => f.2 _ _ (by omega)), h, h4, h5.fr (fun a k ha => f.1 a k (by omega)) (fun a i ha => f.2 a i (by omega))⟩
theorem BR.fr {b : mBs} {F F' : mF} {M M' : mM} (H : BR b F M) (f : frc F M F' M') : BR b F' M' := by
  obtain ⟨h1, h2, h3, h4, h5⟩ := H
  exact ⟨h1.fr (fun k _ => f.1 k) (fun a i ha hb => f.2 a i ha (by omega)), fun k hk => by rw [f.2 _ _ (by omega) (by omega)]; exact h2 k hk, by rw [f.1]; exact h3, by rw [f.1]; exact h4.fr (fun i => f.2 _ _ (by omega) (by omega)), by rw [f.1]; exact h5.fr (fun i => f.2 _ _ (by omega) (by omega))⟩
/-- the class's heap has changed, the rest not -/
theorem BC.hp {b : mBs} {s : mSt} {Y : mY} {F F' : mF} {M M' : mM} (H : BC b Y F M) (R : RC s F' M') (f : frC F M F' M') : BC (s, b.2) Y F' M' := by
  obtain ⟨h1, h2, h3, h, h4, h5⟩ := H
  exact ⟨R, fun k hk => by rw [f.2 _ _ (by omega)]; exact h2 k hk, by rw [f.1 _ _ (by omega)]; exact h3.fr (fun i => f.2 _ _ (by omega)), h, h4, h5.fr (fun a k ha => f.1 a k (by omega)) (fun a i ha => f.2 a i (by omega))⟩
theorem BR.hp {b : mBs} {s : mSt} {F F' : mF} {M M' : mM} (H : BR b F M) (R : RR s F' M') (f : frR F M F' M') : BR (s, b.2) F' M' := by
  obtain ⟨h1, h2, h3, h4, h5⟩ := H
  exact ⟨R, fun k hk => by rw [f.2 _ _ (by omega)]; exact h2 k hk, by rw [f.1 _ _ (by omega)]; exact h3, by rw [f.1 _ _ (by omega)]; exact h4.fr (fun i => f.2 _ _ (by omega)), by rw [f.1 _ _ (by omega)]; exact h5.fr (fun i => f.2 _ _ (by omega))⟩
theorem er_ix {r : Int32} (h : r = -2 ∨ r = -3 ∨ r = -4) : ∃ k, k < 3 ∧ -2 - r = nI k := by
  rcases h with q | q | q
  · exact ⟨0, by omega, by rw [q]; rfl⟩
  · exact ⟨1, by omega, by rw [q]; rfl⟩
  · exact ⟨2, by omega, by rw [q]; rfl⟩
theorem BR.cnt {b : mBs} {F0 F : mF} {M : mM} (H : BR b F M) (h0 : F0 34 23 = 0) (r : Int32) : BR (bE b r) F (eM F0 M r) ∧ frr F M F (eM F0 M r) := by
  unfold eM
  by_cases h : r = -2 ∨ r = -3 ∨ r = -4
  · rw [if_pos h]
    show BR (b.1, (if r = -2 ∨ r = -3 ∨ r = -4 then up1 b.2.1 (-2 - r) (b.2.1 (-2 - r) + 1) else b.2.1), b.2.2) F _ ∧ _
    rw [if_pos h]
    unfold gM_X7_fail
    rw [if_pos h0]
    obtain ⟨h1, h2, h3, h4, h5⟩ := H
    obtain ⟨j, hj, e⟩ := er_ix h
    refine ⟨⟨h1.fr (fun _ _ => rfl) (fun a i _ _ => uM_ne (by omega)), fun k hk => ?_, h3, h4.fr (fun i => uM_ne (by omega)), h5.fr (fun i => uM_ne (by omega))⟩, fun _ _ _ => rfl, fun a i ha => uM_ne (by omega)⟩
    rw [uM_at, h2 k hk, e, h2 j hj]
  · rw [if_neg h]
    refine ⟨?_, frr.rf⟩
    show BR (b.1, (if r = -2 ∨ r = -3 ∨ r = -4 then _ else b.2.1), b.2.2) F _
    rw [if_neg h]
    exact H
