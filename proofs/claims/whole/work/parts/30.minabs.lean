/-! ===== a minor collection, abstractly ===== -/
def prm (s : mSt) (v : Int32) : mSt :=
  if sPh s = 1 then wQu (wC (wG s (up1 (sG s) v 2)) (up1 (sC s) v 1)) (sQu s ++ [v])
  else if sPh s = 2 then wC (wG s (up1 (sG s) v 2)) (up1 (sC s) v 2)
  else wG s (up1 (sG s) v 2)
def tnr (s : mSt) (v : Int32) : mSt := if sOc s - wds (sG s) (sN s) 2 < 1 + sN s v then wFa s (sFa s + 1) else prm s v
def agS (s : mSt) (v : Int32) : mSt := if sA s v + 1 < sTe s then wA s (up1 (sA s) v (sA s v + 1)) else tnr (wA s (up1 (sA s) v (sA s v + 1))) v
def frO (l : List Int32) (p : mSt × Int32) (v : Int32) : mSt × Int32 := if v ∈ l then p else (wG p.1 (up1 (sG p.1) v 0), p.2 + 1)
def fre (s : mSt) (l : List Int32) : mSt × Int32 := (sNu s).foldl (frO l) (s, 0)
def hasY (s : mSt) (v : Int32) : Bool := (flds s v).any (fun x => decide (yngP s x))
def rnN (s : mSt) (l : List Int32) : mSt := wNu s (l.filter (fun i => decide (sG s i = 1)))
def rnK (s : mSt) (l : List Int32) : mSt := wKn s ((sKn s ++ l.filter (fun i => decide (sG s i = 2))).filter (hasY s))
def minr (s : mSt) : Int32 × mSt := ((fre ((trc s).foldl agS s) (trc s)).2, wMi (rnK (rnN (fre ((trc s).foldl agS s) (trc s)).1 (trc s)) (trc s)) (sMi (rnK (rnN (fre ((trc s).foldl agS s) (trc s)).1 (trc s)) (trc s)) + 1))
def InvW (s : mSt) : Prop :=
  (∃ n, n ≤ 100 ∧ sAl s = nI n ∧ ∀ j, n ≤ j → j < 100 → sG s (nI j) = 0) ∧
  (∀ i, inR i → sG s i = 0 ∨ sG s i = 1 ∨ sG s i = 2) ∧
  (∀ i, inR i → ∃ n, n ≤ 4 ∧ sN s i = nI n) ∧
  (∀ k, sR s k = -1 ∨ inR (sR s k)) ∧
  (∀ k, sO s k = -1 ∨ inR (sO s k)) ∧
  ((sNu s).Nodup ∧ ∀ i, i ∈ sNu s → inR i) ∧
  ((sKn s).Nodup ∧ ∀ i, i ∈ sKn s → oldP s i) ∧
  ((sQu s).Nodup ∧ (∀ i, i ∈ sQu s → oldP s i ∧ sC s i = 1) ∧ (¬ sPh s = 1 → sQu s = [])) ∧
  ((sSw s).Nodup ∧ (∀ i, i ∈ sSw s → oldP s i) ∧ (¬ sPh s = 2 → sSw s = [])) ∧
  (sPh s = 0 ∨ sPh s = 1 ∨ sPh s = 2)
theorem Inv.w {s : mSt} (h : Inv s) : InvW s := by
  obtain ⟨h1, h2, h3, h4, h5, h6, h7⟩ := h
  exact ⟨h1, h2, h3, h4, h5, ⟨h6.1, fun i hi => ((h6.2 i).mp hi).1⟩, h7⟩
/-- what ageing, freeing and promoting leave alone -/
def sk (s t : mSt) : Prop := sN t = sN s ∧ sR t = sR s ∧ sO t = sO s ∧ sNu t = sNu s ∧ sKn t = sKn s ∧ sAl t = sAl s ∧ sPh t = sPh s
theorem sk.rf {s : mSt} : sk s s := ⟨rfl, rfl, rfl, rfl, rfl, rfl, rfl⟩
theorem sk.tr {s t u : mSt} (a : sk s t) (b : sk t u) : sk s u := ⟨b.1.trans a.1, b.2.1.trans a.2.1, b.2.2.1.trans a.2.2.1, b.2.2.2.1.trans a.2.2.2.1, b.2.2.2.2.1.trans a.2.2.2.2.1, b.2.2.2.2.2.1.trans a.2.2.2.2.2.1, b.2.2.2.2.2.2.trans a.2.2.2.2.2.2⟩
theorem sk_prm (s : mSt) (v : Int32) : sk s (prm s v) := by
  unfold prm
  split
  · exact sk.rf
  · split <;> exact sk.rf
theorem sk_agS (s : mSt) (v : Int32) : sk s (agS s v) := by
  unfold agS
  split
  · exact sk.rf
  · unfold tnr
    split
    · exact sk.rf
    · exact sk_prm (wA s (up1 (sA s) v (sA s v + 1))) v
theorem g_prm (s : mSt) (v : Int32) : sG (prm s v) = up1 (sG s) v 2 := by
  unfold prm
  split
  · rfl
  · split <;> rfl
theorem g_agS (s : mSt) (v : Int32) : sG (agS s v) = sG s ∨ sG (agS s v) = up1 (sG s) v 2 := by
  unfold agS
  split
  · exact Or.inl rfl
  · unfold tnr
    split
    · exact Or.inl rfl
    · exact Or.inr (g_prm (wA s (up1 (sA s) v (sA s v + 1))) v)
theorem g_agS_ne {s : mSt} {v i : Int32} (h : ¬ i = v) : sG (agS s v) i = sG s i := by
  rcases g_agS s v with e | e
  · rw [e]
  · rw [e]; exact if_neg h
theorem InvW_a {s : mSt} (h : InvW s) (a : Int32 → Int32) : InvW (wA s a) := h
theorem InvW_fa {s : mSt} (h : InvW s) (a : Int32) : InvW (wFa s a) := h
theorem InvW_prm {s : mSt} {v : Int32} (h : InvW s) (hv : yngP s v) : InvW (prm s v) := by
  obtain ⟨⟨n, n1, n2, n3⟩, h2, h3, h4, h5, h6, h7, ⟨h8, h9, h10⟩, ⟨h11, h12, h13⟩, h14⟩ := h
  have a1 : ∀ j, n ≤ j → j < 100 → up1 (sG s) v 2 (nI j) = 0 := fun j x y => by
    show (if nI j = v then 2 else sG s (nI j)) = 0
    split
    · rename_i e
      have := n3 j x y
      rw [e, hv.2] at this
      exact absurd this (by decide)
    · exact n3 j x y
  have a2 : ∀ i, inR i → up1 (sG s) v 2 i = 0 ∨ up1 (sG s) v 2 i = 1 ∨ up1 (sG s) v 2 i = 2 := fun i hi => by
    show (if i = v then 2 else sG s i) = 0 ∨ (if i = v then 2 else sG s i) = 1 ∨ (if i = v then 2 else sG s i) = 2
    split
    · exact Or.inr (Or.inr rfl)
    · exact h2 i hi
  have ao : ∀ i, oldP s i → inR i ∧ up1 (sG s) v 2 i = 2 := fun i hi => by
    refine ⟨hi.1, ?_⟩
    show (if i = v then 2 else sG s i) = 2
    split
    · rfl
    · exact hi.2
  have hq : v ∉ sQu s := fun z => absurd (hv.2.symm.trans (h9 v z).1.2) (by decide)
  unfold prm
  split
  · rename_i hp
    refine ⟨⟨n, n1, n2, a1⟩, a2, h3, h4, h5, h6, ⟨h7.1, fun i hi => ao i (h7.2 i hi)⟩, ⟨nd_app h8 hq, fun i hi => ?_, fun z => absurd hp z⟩, ⟨h11, fun i hi => ao i (h12 i hi), h13⟩, h14⟩
    rcases List.mem_append.mp hi with z | z
    · refine ⟨ao i (h9 i z).1, ?_⟩
      show (if i = v then 1 else sC s i) = 1
      rw [if_neg (show ¬ i = v from fun e => hq (e ▸ z))]
      exact (h9 i z).2
    · rw [List.mem_singleton.mp z]
      exact ⟨⟨hv.1, if_pos rfl⟩, if_pos rfl⟩
  · rename_i hp
    have he := h10 hp
    split
    · exact ⟨⟨n, n1, n2, a1⟩, a2, h3, h4, h5, h6, ⟨h7.1, fun i hi => ao i (h7.2 i hi)⟩, ⟨h8, fun i hi => absurd hi (by rw [show sQu _ = sQu s from rfl, he]; simp), h10⟩, ⟨h11, fun i hi => ao i (h12 i hi), h13⟩, h14⟩
    · exact ⟨⟨n, n1, n2, a1⟩, a2, h3, h4, h5, h6, ⟨h7.1, fun i hi => ao i (h7.2 i hi)⟩, ⟨h8, fun i hi => absurd hi (by rw [show sQu _ = sQu s from rfl, he]; simp), h10⟩, ⟨h11, fun i hi => ao i (h12 i hi), h13⟩, h14⟩
theorem InvW_agS {s : mSt} {v : Int32} (h : InvW s) (hv : yngP s v) : InvW (agS s v) := by
  unfold agS
  split
  · exact h
  · unfold tnr
    split
    · exact h
    · exact InvW_prm (s := wA s (up1 (sA s) v (sA s v + 1))) h hv
theorem InvW_free {s : mSt} {v : Int32} (h : InvW s) (hv : yngP s v) : InvW (wG s (up1 (sG s) v 0)) := by
  obtain ⟨⟨n, n1, n2, n3⟩, h2, h3, h4, h5, h6, h7, ⟨h8, h9, h10⟩, ⟨h11, h12, h13⟩, h14⟩ := h
  have ao : ∀ i, oldP s i → inR i ∧ up1 (sG s) v 0 i = 2 := fun i hi => by
    refine ⟨hi.1, ?_⟩
    show (if i = v then 0 else sG s i) = 2
    rw [if_neg (show ¬ i = v from fun e => absurd (hv.2.symm.trans (e ▸ hi.2)) (by decide))]
    exact hi.2
  refine ⟨⟨n, n1, n2, fun j x y => ?_⟩, fun i hi => ?_, h3, h4, h5, h6, ⟨h7.1, fun i hi => ao i (h7.2 i hi)⟩, ⟨h8, fun i hi => ⟨ao i (h9 i hi).1, (h9 i hi).2⟩, h10⟩, ⟨h11, fun i hi => ao i (h12 i hi), h13⟩, h14⟩
  · show (if nI j = v then 0 else sG s (nI j)) = 0
    split
    · rfl
    · exact n3 j x y
  · show (if i = v then 0 else sG s i) = 0 ∨ (if i = v then 0 else sG s i) = 1 ∨ (if i = v then 0 else sG s i) = 2
    split
    · exact Or.inl rfl
    · exact h2 i hi
/-- ageing all survivors -/
theorem age_all : ∀ {l : List Int32} {s : mSt}, l.Nodup → (∀ x ∈ l, yngP s x) → InvW s → InvW (l.foldl agS s) ∧ sk s (l.foldl agS s) ∧ (∀ i, i ∉ l → sG (l.foldl agS s) i = sG s i) ∧ (∀ i, i ∈ l → sG (l.foldl agS s) i = 1 ∨ sG (l.foldl agS s) i = 2)
  | [], s, _, _, h => ⟨h, sk.rf, fun _ _ => rfl, fun i hi => by cases hi⟩
  | v :: l, s, hn, hy, h => by
    have hn2 := List.nodup_cons.mp hn
    have hv := hy v List.mem_cons_self
    have z := age_all (l := l) (s := agS s v) hn2.2 (fun x hx => ⟨(hy x (List.mem_cons_of_mem _ hx)).1, by rw [g_agS_ne (show ¬ x = v from fun e => hn2.1 (e ▸ hx))]; exact (hy x (List.mem_cons_of_mem _ hx)).2⟩) (InvW_agS h hv)
    refine ⟨z.1, (sk_agS s v).tr z.2.1, fun i hi => ?_, fun i hi => ?_⟩
    · have hi2 : ¬ i = v ∧ i ∉ l := by simpa using hi
      show sG (l.foldl agS (agS s v)) i = _
      rw [z.2.2.1 i hi2.2, g_agS_ne hi2.1]
    · show sG (l.foldl agS (agS s v)) i = 1 ∨ sG (l.foldl agS (agS s v)) i = 2
      by_cases hm : i ∈ l
      · exact z.2.2.2 i hm
      · have e : i = v := by
          rcases List.mem_cons.mp hi with q | q
          · exact q
          · exact absurd q hm
        subst e
        rw [z.2.2.1 i hm]
        rcases g_agS s i with e | e
        · rw [e]; exact Or.inl hv.2
        · rw [e]; exact Or.inr (if_pos rfl)
theorem fre_all {l : List Int32} : ∀ {t : List Int32} {s : mSt} {n : Int32}, t.Nodup → (∀ x ∈ t, x ∉ l → yngP s x) → InvW s → InvW (t.foldl (frO l) (s, n)).1 ∧ sk s (t.foldl (frO l) (s, n)).1 ∧ (∀ i, (i ∉ t ∨ i ∈ l) → sG (t.foldl (frO l) (s, n)).1 i = sG s i) ∧ (∀ i, i ∈ t → i ∉ l → sG (t.foldl (frO l) (s, n)).1 i = 0)
  | [], s, n, _, _, h => ⟨h, sk.rf, fun _ _ => rfl, fun i hi => by cases hi⟩
  | v :: t, s, n, hn, hy, h => by
    have hn2 := List.nodup_cons.mp hn
    rw [List.foldl_cons]
    by_cases hv : v ∈ l
    · have e : frO l (s, n) v = (s, n) := if_pos hv
      rw [e]
      have z := fre_all (l := l) (t := t) (s := s) (n := n) hn2.2 (fun x hx => hy x (List.mem_cons_of_mem _ hx)) h
      refine ⟨z.1, z.2.1, fun i hi => z.2.2.1 i ?_, fun i hi hl => z.2.2.2 i ?_ hl⟩
      · rcases hi with q | q
        · exact Or.inl fun w => q (List.mem_cons_of_mem _ w)
        · exact Or.inr q
      · rcases List.mem_cons.mp hi with q | q
        · exact absurd (q ▸ hv) hl
        · exact q
    · have e : frO l (s, n) v = (wG s (up1 (sG s) v 0), n + 1) := if_neg hv
      rw [e]
      have hyv := hy v List.mem_cons_self hv
      have z := fre_all (l := l) (t := t) (s := wG s (up1 (sG s) v 0)) (n := n + 1) hn2.2 (fun x hx hl => ⟨(hy x (List.mem_cons_of_mem _ hx) hl).1, by
        show (if x = v then 0 else sG s x) = 1
        rw [if_neg (show ¬ x = v from fun e => hn2.1 (e ▸ hx))]
        exact (hy x (List.mem_cons_of_mem _ hx) hl).2⟩) (InvW_free h hyv)
      refine ⟨z.1, z.2.1, fun i hi => ?_, fun i hi hl => ?_⟩
      · have hne : ¬ i = v := fun e => by
          rcases hi with q | q
          · exact q (e ▸ List.mem_cons_self)
          · exact hv (e ▸ q)
        rw [z.2.2.1 i (by
          rcases hi with q | q
          · exact Or.inl fun w => q (List.mem_cons_of_mem _ w)
          · exact Or.inr q)]
        exact if_neg hne
      · by_cases hm : i ∈ t
        · exact z.2.2.2 i hm hl
        · rw [z.2.2.1 i (Or.inl hm)]
          rcases List.mem_cons.mp hi with q | q
          · exact if_pos q
          · exact absurd q hm
theorem trc_y {s : mSt} : ∀ x ∈ trc s, yngP s x := bfs_y (foldlF_y (foldl_y (fun x hx => by cases hx)))
theorem vis_nd {s : mSt} {l : List Int32} {v : Int32} (h : l.Nodup) : (vis s l v).Nodup := by
  unfold vis addL
  split
  · split
    · rename_i q; exact nd_app h q.2
    · exact h
  · exact h
theorem visF_nd {s : mSt} {l : List Int32} {v : Int32} (h : l.Nodup) : (visF s l v).Nodup := foldl_inv (P := fun l : List Int32 => l.Nodup) (fun l v _ hl => vis_nd hl) h
theorem bfs_nd {s : mSt} : ∀ {n i : Nat} {l : List Int32}, l.Nodup → (bfs (visF s) n i l).Nodup
  | 0, _, _, h => h
  | n + 1, i, l, h => by
    unfold bfs
    split
    · exact bfs_nd (visF_nd h)
    · exact h
theorem trc_nd {s : mSt} : (trc s).Nodup := bfs_nd (foldl_inv (P := fun l : List Int32 => l.Nodup) (fun l v _ hl => visF_nd hl) (foldl_inv (P := fun l : List Int32 => l.Nodup) (fun l v _ hl => vis_nd hl) List.nodup_nil))
theorem Inv_minr {s : mSt} (h : Inv s) : Inv (minr s).2 := by
  have a := age_all trc_nd (fun x hx => trc_y x hx) h.w
  have hnu := h.2.2.2.2.2.1
  have b := fre_all (l := trc s) (t := sNu ((trc s).foldl agS s)) (s := (trc s).foldl agS s) (n := 0) (by rw [a.2.1.2.2.2.1]; exact hnu.1) (fun x hx hl => by
    rw [a.2.1.2.2.2.1] at hx
    have := (hnu.2 x).mp hx
    exact ⟨this.1, by rw [a.2.2.1 x hl]; exact this.2⟩) a.1
  have hg : ∀ i, inR i → sG (fre ((trc s).foldl agS s) (trc s)).1 i = 1 → i ∈ trc s := fun i hi e => Classical.byContradiction fun hl => by
    by_cases hm : i ∈ sNu s
    · have := b.2.2.2 i (by rw [a.2.1.2.2.2.1]; exact hm) hl
      exact absurd (this.symm.trans e) (by decide)
    · have e2 := b.2.2.1 i (Or.inl (by rw [a.2.1.2.2.2.1]; exact hm))
      rw [a.2.2.1 i hl] at e2
      exact hm ((hnu.2 i).mpr ⟨hi, e2 ▸ e⟩)
  have ekn : sKn (fre ((trc s).foldl agS s) (trc s)).1 = sKn s := b.2.1.2.2.2.2.1.trans a.2.1.2.2.2.2.1
  obtain ⟨h1, h2, h3, h4, h5, h6, h7, h8, h9, h10⟩ := b.1
  have tn : (trc s).Nodup := trc_nd
  refine ⟨h1, h2, h3, h4, h5, ⟨tn.filter _, fun i => ?_⟩, ⟨List.Pairwise.filter _ ?_, fun i hi => ?_⟩, h8, h9, h10⟩
  · show i ∈ (trc s).filter (fun i => decide (sG (fre ((trc s).foldl agS s) (trc s)).1 i = 1)) ↔ inR i ∧ sG (fre ((trc s).foldl agS s) (trc s)).1 i = 1
    rw [List.mem_filter]
    constructor
    · intro z; exact ⟨(trc_y i z.1).1, of_decide_eq_true z.2⟩
    · intro z; exact ⟨hg i z.1 z.2, decide_eq_true z.2⟩
  · show (sKn (fre ((trc s).foldl agS s) (trc s)).1 ++ _).Nodup
    rw [ekn]
    refine List.nodup_append.mpr ⟨h.2.2.2.2.2.2.1.1, tn.filter _, fun x hx y hy e => ?_⟩
    have hx2 := (h.2.2.2.2.2.2.1.2 x hx).2
    have hy2 := (trc_y y (List.mem_filter.mp hy).1).2
    rw [← e, hx2] at hy2
    exact absurd hy2 (by decide)
  · have z := (List.mem_filter.mp hi).1
    rcases List.mem_append.mp z with q | q
    · exact h7.2 i q
    · have q := List.mem_filter.mp q
      exact ⟨(trc_y i q.1).1, of_decide_eq_true q.2⟩
