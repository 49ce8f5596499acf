/-! ===== allocation, reset, stores: abstractly ===== -/
abbrev r4 (r : Int32 → Int32) (i : Int32) : Int32 → Int32 := up1 (up1 (up1 (up1 r (4 * i + 0) (-1)) (4 * i + 1) (-1)) (4 * i + 2) (-1)) (4 * i + 3) (-1)
def newS (s : mSt) (v : Int32) : mSt := ((up1 (sG s) (sAl s) 1, up1 (sA s) (sAl s) 0, up1 (sN s) (sAl s) v, sC s, r4 (sR s) (sAl s), sO s), (sNu s ++ [sAl s], sKn s, sQu s, sSw s), (sAl s + 1, s.2.2.2))
def aloc (s : mSt) (v : Int32) : Int32 × mSt := if v < 0 ∨ 4 < v then (-2, s) else if sNc s - wds (sG s) (sN s) 1 < 1 + v ∨ 100 ≤ sAl s then (-4, s) else (sAl s, newS s v)
def rstS (s : mSt) (a b c : Int32) : mSt := ((fun _ => 0, sA s, sN s, sC s, sR s, fun _ => -1), ([], [], [], []), (0, a, b, c, 0, 0, 0, 0))
abbrev tgtP (s : mSt) (t : Int32) : Prop := t = -1 ∨ liveP s t
abbrev fldP (s : mSt) (i j : Int32) : Prop := liveP s i ∧ ¬ j < 0 ∧ j < sN s i
def stK (s : mSt) (i j t : Int32) : mSt := if oldP s i ∧ yngP s t then wKn (wR s (up1 (sR s) (4 * i + j) t)) (addL (sKn s) i) else wR s (up1 (sR s) (4 * i + j) t)
def stB (s : mSt) (t : Int32) : mSt := if sPh s = 1 then shd s t else s
def stF (s : mSt) (i j t : Int32) : Int32 × mSt := if ¬ (fldP s i j ∧ tgtP s t) then (-2, s) else if sPh s = 2 ∧ whtP s t then (-3, s) else (sR s (4 * i + j), stB (stK s i j t) t)
def stR (s : mSt) (k t : Int32) : Int32 × mSt := if ¬ ((¬ k < 0 ∧ ¬ 3 < k) ∧ tgtP s t) then (-2, s) else if sPh s = 2 ∧ whtP s t then (-3, s) else (sO s k, stB (wO s (up1 (sO s) k t)) t)
theorem ix4 {i i' j j' : Int32} (hi : inR i) (hi' : inR i') (h0 : ¬ j < 0) (h1 : j < 4) (h0' : ¬ j' < 0) (h1' : j' < 4) (e : 4 * i + j = 4 * i' + j') : i = i' ∧ j = j' := by
  obtain ⟨a, ha, rfl⟩ := inR_of hi
  obtain ⟨a', ha', rfl⟩ := inR_of hi'
  obtain ⟨b, hb, rfl⟩ := nI_of h0
  obtain ⟨b', hb', rfl⟩ := nI_of h0'
  have h1 : b < 4 := (nI_ltI (b := 4) hb (by omega)).mp h1
  have h1' : b' < 4 := (nI_ltI (b := 4) hb' (by omega)).mp h1'
  have m : ∀ a b : Nat, 4 * nI a + nI b = nI (4 * a + b) := fun a b => by
    rw [← nI_add, show (4 : Int32) = nI 4 from rfl]
    congr 1
    simp [nI]
  rw [m, m] at e
  have := nI_inj (by omega) (by omega) e
  have h2 : a = a' := by omega
  have h3 : b = b' := by omega
  exact ⟨by rw [h2], by rw [h3]⟩
theorem ix4c (i j : Int32) : i * 4 + j = 4 * i + j := by rw [Int32.mul_comm]
theorem r4_ne {r : Int32 → Int32} {i i' j : Int32} (hi : inR i) (hi' : inR i') (hne : ¬ i = i') (h0 : ¬ j < 0) (h1 : j < 4) : r4 r i' (4 * i + j) = r (4 * i + j) := by
  have n : ∀ j', ¬ j' < 0 → j' < 4 → ¬ 4 * i + j = 4 * i' + j' := fun j' a b e => hne (ix4 hi hi' h0 h1 a b e).1
  show (if _ then _ else if _ then _ else if _ then _ else if _ then _ else _) = _
  rw [if_neg (n 3 (by decide) (by decide)), if_neg (n 2 (by decide) (by decide)), if_neg (n 1 (by decide) (by decide)), if_neg (n 0 (by decide) (by decide))]
theorem r4_at {r : Int32 → Int32} {i j : Int32} (h0 : ¬ j < 0) (h1 : j < 4) : r4 r i (4 * i + j) = -1 := by
  obtain ⟨b, hb, rfl⟩ := nI_of h0
  have h1 : b < 4 := (nI_ltI (b := 4) hb (by omega)).mp h1
  show (if _ then _ else if _ then _ else if _ then _ else if _ then _ else _) = (-1 : Int32)
  rcases (show b = 0 ∨ b = 1 ∨ b = 2 ∨ b = 3 by omega) with e | e | e | e
  · subst e
    split
    · rfl
    · split
      · rfl
      · split
        · rfl
        · exact if_pos rfl
  · subst e
    split
    · rfl
    · split
      · rfl
      · exact if_pos rfl
  · subst e
    split
    · rfl
    · exact if_pos rfl
  · subst e
    exact if_pos rfl
theorem wds_new {g n : Int32 → Int32} {i v k : Int32} (hi : inR i) (hg : ¬ g i = k) : wds (up1 g i 1) (up1 n i v) k = wds g n k + (if 1 = k then 1 + v else 0) := by
  unfold wds
  have e := sumL_upd (h := fun i => if g i = k then 1 + n i else 0) (i := i) (v := if 1 = k then 1 + v else 0) (l := seqI 100 0) (seqI_nodup (by decide)) (inR_mem hi)
  rw [if_neg hg, Int32.sub_zero] at e
  rw [← e]
  refine sumL_congr fun x _ => ?_
  show (if (if x = i then 1 else g x) = k then 1 + (if x = i then v else n x) else 0) = if x = i then _ else if g x = k then 1 + n x else 0
  by_cases h : x = i
  · simp only [if_pos h]
  · simp only [if_neg h]
theorem sumL_0 {h : Int32 → Int32} : ∀ {l : List Int32}, (∀ x ∈ l, h x = 0) → sumL h l = 0
  | [], _ => rfl
  | x :: t, e => by
    show h x + sumL h t = 0
    rw [e x List.mem_cons_self, sumL_0 (fun y hy => e y (List.mem_cons_of_mem _ hy)), Int32.add_zero]
theorem al_new {s : mSt} (h : Inv s) (ha : ¬ (100 : Int32) ≤ sAl s) : ∃ n, n < 100 ∧ sAl s = nI n ∧ inR (sAl s) ∧ sG s (sAl s) = 0 := by
  obtain ⟨n, n1, n2, n3⟩ := h.1
  have hn : n < 100 := Nat.lt_of_le_of_ne n1 fun e => ha (by rw [n2, e]; decide)
  exact ⟨n, hn, n2, by rw [n2]; exact inR_nI hn, by rw [n2]; exact n3 n (Nat.le_refl _) hn⟩
theorem Inv_new {s : mSt} {v : Int32} (h : Inv s) (hv : ¬ (v < 0 ∨ 4 < v)) (ha : ¬ (100 : Int32) ≤ sAl s) : Inv (newS s v) := by
  obtain ⟨n, hn, hal, hin, hg⟩ := al_new h ha
  obtain ⟨⟨n', n1, n2, n3⟩, h2, h3, h4, h5, h6, h7, ⟨h8, h9, h10⟩, ⟨h11, h12, h13⟩, h14⟩ := h
  have en : n' = n := nI_inj (by omega) (by omega) (n2.symm.trans hal)
  subst en
  have ao : ∀ i, oldP s i → inR i ∧ up1 (sG s) (sAl s) 1 i = 2 := fun i hi => by
    refine ⟨hi.1, ?_⟩
    show (if i = sAl s then 1 else sG s i) = 2
    rw [if_neg (show ¬ i = sAl s from fun e => absurd ((e ▸ hg).symm.trans hi.2) (by decide))]
    exact hi.2
  have hnm : sAl s ∉ sNu s := fun z => absurd (hg.symm.trans ((h6.2 _).mp z).2) (by decide)
  refine ⟨⟨n' + 1, by omega, by show sAl s + 1 = _; rw [hal, nI_1], fun j x y => ?_⟩, fun i hi => ?_, fun i hi => ?_, fun k => ?_, h5, ⟨nd_app h6.1 hnm, fun i => ?_⟩, ⟨h7.1, fun i hi => ao i (h7.2 i hi)⟩, ⟨h8, fun i hi => ⟨ao i (h9 i hi).1, (h9 i hi).2⟩, h10⟩, ⟨h11, fun i hi => ao i (h12 i hi), h13⟩, h14⟩
  · show (if nI j = sAl s then 1 else sG s (nI j)) = 0
    rw [if_neg (fun e => by rw [hal] at e; have := nI_inj (by omega) (by omega) e; omega)]
    exact n3 j (by omega) y
  · show (if i = sAl s then 1 else sG s i) = 0 ∨ (if i = sAl s then 1 else sG s i) = 1 ∨ (if i = sAl s then 1 else sG s i) = 2
    split
    · exact Or.inr (Or.inl rfl)
    · exact h2 i hi
  · show ∃ m, m ≤ 4 ∧ (if i = sAl s then v else sN s i) = nI m
    split
    · obtain ⟨m, hm, e⟩ := nI_of2 (M := 4) (n := 4) rfl (fun q => hv (Or.inl q)) (Int32.not_lt.mp fun q => hv (Or.inr q))
      exact ⟨m, hm, e⟩
    · exact h3 i hi
  · show (if _ then _ else if _ then _ else if _ then _ else if _ then _ else _) = (-1 : Int32) ∨ inR (if _ then _ else if _ then _ else if _ then _ else if _ then _ else _)
    split
    · exact Or.inl rfl
    · split
      · exact Or.inl rfl
      · split
        · exact Or.inl rfl
        · split
          · exact Or.inl rfl
          · exact h4 k
  · show i ∈ sNu s ++ [sAl s] ↔ inR i ∧ (if i = sAl s then 1 else sG s i) = 1
    rw [List.mem_append, List.mem_singleton, h6.2 i]
    by_cases e : i = sAl s
    · rw [if_pos e]
      exact ⟨fun _ => ⟨by rw [e]; exact hin, rfl⟩, fun _ => Or.inr e⟩
    · rw [if_neg e]
      exact ⟨fun z => z.elim id (fun q => absurd q e), fun z => Or.inl z⟩
theorem Inv_aloc {s : mSt} {v : Int32} (h : Inv s) : Inv (aloc s v).2 := by
  unfold aloc
  split
  · exact h
  · split
    · exact h
    · rename_i h1 h2
      exact Inv_new h h1 (fun q => h2 (Or.inr q))
theorem Inv_rst {s : mSt} {a b c : Int32} (h : Inv s) : Inv (rstS s a b c) :=
  ⟨⟨0, by omega, rfl, fun _ _ _ => rfl⟩, fun _ _ => Or.inl rfl, h.2.2.1, h.2.2.2.1, fun _ => Or.inl rfl, ⟨List.nodup_nil, fun i => ⟨fun z => (by cases z), fun z => absurd z.2 (by show ¬ (0 : Int32) = 1; decide)⟩⟩, ⟨List.nodup_nil, fun i z => (by cases z)⟩, ⟨List.nodup_nil, (fun i z => by cases z), fun _ => rfl⟩, ⟨List.nodup_nil, (fun i z => by cases z), fun _ => rfl⟩, Or.inl rfl⟩
theorem Inv_stB {s : mSt} {t : Int32} (h : Inv s) : Inv (stB s t) := by
  unfold stB
  split
  · exact Inv_shd h ‹_› t
  · exact h
theorem tgt_in {s : mSt} {t : Int32} (h : tgtP s t) : t = -1 ∨ inR t := h.elim Or.inl (fun z => Or.inr z.1)
theorem Inv_stK {s : mSt} {i j t : Int32} (h : Inv s) (ht : tgtP s t) : Inv (stK s i j t) := by
  obtain ⟨h1, h2, h3, h4, h5, h6, h7, h8⟩ := h
  have h4' : ∀ k, up1 (sR s) (4 * i + j) t k = -1 ∨ inR (up1 (sR s) (4 * i + j) t k) := fun k => by
    show (if k = 4 * i + j then t else sR s k) = -1 ∨ inR (if k = 4 * i + j then t else sR s k)
    split
    · exact tgt_in ht
    · exact h4 k
  unfold stK
  split
  · rename_i ho
    refine ⟨h1, h2, h3, h4', h5, h6, ⟨?_, fun x hx => ?_⟩, h8⟩
    · show (addL (sKn s) i).Nodup
      unfold addL
      split
      · rename_i q; exact nd_app h7.1 q.2
      · exact h7.1
    · have hx : x ∈ addL (sKn s) i := hx
      unfold addL at hx
      split at hx
      · rcases List.mem_append.mp hx with q | q
        · exact h7.2 x q
        · rw [List.mem_singleton.mp q]; exact ho.1
      · exact h7.2 x hx
  · exact ⟨h1, h2, h3, h4', h5, h6, h7, h8⟩
theorem Inv_stF {s : mSt} {i j t : Int32} (h : Inv s) : Inv (stF s i j t).2 := by
  unfold stF
  split
  · exact h
  · rename_i q
    split
    · exact h
    · exact Inv_stB (Inv_stK h (Classical.byContradiction fun z => q fun w => z w.2))
theorem Inv_stR {s : mSt} {k t : Int32} (h : Inv s) : Inv (stR s k t).2 := by
  unfold stR
  split
  · exact h
  · rename_i q
    have ht : tgtP s t := Classical.byContradiction fun z => q fun w => z w.2
    split
    · exact h
    · refine Inv_stB ?_
      obtain ⟨h1, h2, h3, h4, h5, h6⟩ := h
      refine ⟨h1, h2, h3, h4, fun x => ?_, h6⟩
      show (if x = k then t else sO s x) = -1 ∨ inR (if x = k then t else sO s x)
      split
      · exact tgt_in ht
      · exact h5 x
