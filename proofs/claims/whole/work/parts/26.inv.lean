/-! ===== marking and sweeping, abstractly; what is kept ===== -/
def sm (s t : mSt) : Prop := sG t = sG s ∧ sA t = sA s ∧ sN t = sN s ∧ sR t = sR s ∧ sO t = sO s ∧ sNu t = sNu s ∧ sKn t = sKn s ∧ sSw t = sSw s ∧ t.2.2 = s.2.2
theorem sm.rf {s : mSt} : sm s s := ⟨rfl, rfl, rfl, rfl, rfl, rfl, rfl, rfl, rfl⟩
theorem sm.tr {s t u : mSt} (a : sm s t) (b : sm t u) : sm s u := ⟨b.1.trans a.1, b.2.1.trans a.2.1, b.2.2.1.trans a.2.2.1, b.2.2.2.1.trans a.2.2.2.1, b.2.2.2.2.1.trans a.2.2.2.2.1, b.2.2.2.2.2.1.trans a.2.2.2.2.2.1, b.2.2.2.2.2.2.1.trans a.2.2.2.2.2.2.1, b.2.2.2.2.2.2.2.1.trans a.2.2.2.2.2.2.2.1, b.2.2.2.2.2.2.2.2.trans a.2.2.2.2.2.2.2.2⟩
theorem sm.ph {s t : mSt} (a : sm s t) : sPh t = sPh s := congrArg (fun x => x.2.2.2.2.1) a.2.2.2.2.2.2.2.2
theorem sm_shd (s : mSt) (v : Int32) : sm s (shd s v) := by
  unfold shd
  split
  · exact sm.rf
  · exact sm.rf
theorem sm.flds {s t : mSt} (a : sm s t) (v : Int32) : flds t v = flds s v := by
  show (seqI (sN t v).toNatClampNeg 0).map (fun j => sR t (4 * v + j)) = _
  rw [a.2.2.1, a.2.2.2.1]
  rfl
theorem Inv_shd {s : mSt} (h : Inv s) (hp : sPh s = 1) (v : Int32) : Inv (shd s v) := by
  unfold shd
  split
  · rename_i hw
    obtain ⟨h1, h2, h3, h4, h5, h6, h7, ⟨h8, h9, h10⟩, h11, h12⟩ := h
    have hq : v ∉ sQu s := fun z => by
      have := (h9 v z).2
      rw [hw.2.2] at this
      exact absurd this (by decide)
    refine ⟨h1, h2, h3, h4, h5, h6, h7, ⟨nd_app h8 hq, fun i hi => ?_, fun z => absurd hp z⟩, h11, h12⟩
    rcases List.mem_append.mp hi with z | z
    · refine ⟨(h9 i z).1, ?_⟩
      show (if i = v then 1 else sC s i) = 1
      rw [if_neg (show ¬ i = v from fun e => hq (e ▸ z))]
      exact (h9 i z).2
    · have z := List.mem_singleton.mp z
      subst z
      exact ⟨⟨hw.1, hw.2.1⟩, if_pos rfl⟩
  · exact h
theorem Inv_fold {l : List Int32} {s : mSt} (h : Inv s) (hp : sPh s = 1) : Inv (l.foldl shd s) ∧ sm s (l.foldl shd s) :=
  foldl_inv (P := fun t => Inv t ∧ sm s t) (fun t v _ ht => ⟨Inv_shd ht.1 (by rw [ht.2.ph, hp]) v, ht.2.tr (sm_shd t v)⟩) ⟨h, sm.rf⟩
theorem Inv_shdF {s : mSt} (h : Inv s) (hp : sPh s = 1) (v : Int32) : Inv (shdF s v) ∧ sm s (shdF s v) := Inv_fold h hp
theorem Inv_foldF {l : List Int32} {s : mSt} (h : Inv s) (hp : sPh s = 1) : Inv (l.foldl shdF s) ∧ sm s (l.foldl shdF s) :=
  foldl_inv (P := fun t => Inv t ∧ sm s t) (fun t v _ ht => by
    have z := Inv_shdF ht.1 (by rw [ht.2.ph, hp]) v
    exact ⟨z.1, ht.2.tr z.2⟩) ⟨h, sm.rf⟩
theorem Inv_scan {s : mSt} (h : Inv s) (hp : sPh s = 1) : Inv (scan s) ∧ sm s (scan s) := by
  have a := Inv_fold (l := rts s) h hp
  have b := Inv_foldF (l := sNu s) a.1 (by rw [a.2.ph, hp])
  exact ⟨b.1, a.2.tr b.2⟩
def mark (s : mSt) (v : Int32) (t : List Int32) : mSt := wC (shdF (wQu s t) v) (up1 (sC (shdF (wQu s t) v)) v 2)
def oldsL (s : mSt) : List Int32 := (seqI 100 0).filter (fun i => decide (sG s i = 2))
def stSw (s : mSt) : mSt := wSw (wPh s 2) (oldsL s)
def swp (s : mSt) : mSt := match sSw s with
  | [] => wMa (wPh s 0) (sMa s + 1)
  | v :: t => if sC s v = 0 then wKn (wG (wSw s t) (up1 (sG s) v 0)) (flt v (sKn s)) else wSw s t
def unt (s : mSt) : mSt := if sPh s = 2 then swp s else match sQu s with
  | v :: t => mark s v t
  | [] => if sQu (scan s) = [] then stSw (scan s) else scan s
def stps : Nat → mSt → mSt
  | 0, s => s
  | n + 1, s => if sPh s = 0 then s else stps n (unt s)
def adv (s : mSt) (b : Int32) : Int32 × mSt := if b < 1 ∨ 200 < b then (-2, s) else if sPh s = 0 then (-3, s) else (cnt (sG s) 2 - cnt (sG (stps b.toNatClampNeg s)) 2, stps b.toNatClampNeg s)
def bgn0 (s : mSt) : mSt := wPh (wQu (wC s (fun _ => 0)) []) 1
def bgn (s : mSt) : Int32 × mSt := if sPh s = 0 then (nI (sQu (scan (bgn0 s))).length, scan (bgn0 s)) else (-3, s)
theorem Inv_bgn0 {s : mSt} (h : Inv s) (hp : sPh s = 0) : Inv (bgn0 s) := by
  obtain ⟨h1, h2, h3, h4, h5, h6, h7, ⟨h8, h9, h10⟩, ⟨h11, h12, h13⟩, h14⟩ := h
  exact ⟨h1, h2, h3, h4, h5, h6, h7, ⟨List.nodup_nil, (fun i hi => by cases hi), fun _ => rfl⟩, ⟨h11, h12, fun _ => h13 (by rw [hp]; decide)⟩, Or.inr (Or.inl rfl)⟩
theorem Inv_bgn {s : mSt} (h : Inv s) : Inv (bgn s).2 := by
  unfold bgn
  split
  · exact (Inv_scan (Inv_bgn0 h ‹_›) rfl).1
  · exact h
theorem Inv_tl {s : mSt} {v : Int32} {t : List Int32} (h : Inv s) (hq : sQu s = v :: t) : Inv (wQu s t) ∧ v ∉ t ∧ oldP s v ∧ sC s v = 1 := by
  obtain ⟨h1, h2, h3, h4, h5, h6, h7, ⟨h8, h9, h10⟩, h11⟩ := h
  rw [hq] at h8 h9 h10
  have hn := List.nodup_cons.mp h8
  exact ⟨⟨h1, h2, h3, h4, h5, h6, h7, ⟨hn.2, fun i hi => h9 i (List.mem_cons_of_mem _ hi), fun z => absurd (h10 z) (by simp)⟩, h11⟩, hn.1, h9 v List.mem_cons_self⟩
theorem Inv_mark {s : mSt} {v : Int32} {t : List Int32} (h : Inv s) (hp : sPh s = 1) (hq : sQu s = v :: t) : Inv (mark s v t) ∧ sPh (mark s v t) = 1 := by
  obtain ⟨i1, i2, i3, i4⟩ := Inv_tl h hq
  have hp1 : sPh (wQu s t) = 1 := hp
  have k : (Inv (shdF (wQu s t) v) ∧ sm (wQu s t) (shdF (wQu s t) v)) ∧ sC (shdF (wQu s t) v) v = 1 ∧ v ∉ sQu (shdF (wQu s t) v) := by
    refine ⟨Inv_shdF i1 hp1 v, ?_⟩
    refine foldl_inv (P := fun t => sC t v = 1 ∧ v ∉ sQu t) (fun u x _ hu => ?_) ⟨i4, i2⟩
    unfold shd
    split
    · rename_i hw
      have hx : ¬ v = x := fun e => by rw [← e] at hw; exact absurd (hu.1.symm.trans hw.2.2) (by decide)
      exact ⟨(if_neg hx).trans hu.1, fun z => by
        rcases List.mem_append.mp z with z | z
        · exact hu.2 z
        · exact hx (List.mem_singleton.mp z)⟩
    · exact hu
  have hph : sPh (shdF (wQu s t) v) = 1 := by rw [k.1.2.ph]; exact hp
  refine ⟨?_, hph⟩
  obtain ⟨⟨⟨h1, h2, h3, h4, h5, h6, h7, ⟨h8, h9, h10⟩, h11, h12⟩, _⟩, k1, k2⟩ := k
  refine ⟨h1, h2, h3, h4, h5, h6, h7, ⟨h8, fun i hi => ⟨(h9 i hi).1, ?_⟩, h10⟩, h11, h12⟩
  show (if i = v then 2 else sC (shdF (wQu s t) v) i) = 1
  rw [if_neg (show ¬ i = v from fun e => k2 (e ▸ hi))]
  exact (h9 i hi).2
theorem oldsL_mem {s : mSt} {i : Int32} : i ∈ oldsL s ↔ oldP s i := by
  unfold oldsL
  rw [List.mem_filter]
  constructor
  · intro h; exact ⟨mem_inR h.1, of_decide_eq_true h.2⟩
  · intro h; exact ⟨inR_mem h.1, decide_eq_true h.2⟩
theorem Inv_stSw {s : mSt} (h : Inv s) (hq : sQu s = []) : Inv (stSw s) := by
  obtain ⟨h1, h2, h3, h4, h5, h6, h7, ⟨h8, h9, h10⟩, ⟨h11, h12, h13⟩, h14⟩ := h
  exact ⟨h1, h2, h3, h4, h5, h6, h7, ⟨h8, h9, fun _ => hq⟩, ⟨(seqI_nodup (by decide)).filter _, fun i hi => oldsL_mem.mp hi, fun z => absurd rfl z⟩, Or.inr (Or.inr rfl)⟩
theorem Inv_swp {s : mSt} (h : Inv s) (hp : sPh s = 2) : Inv (swp s) := by
  obtain ⟨h1, h2, h3, h4, h5, h6, h7, ⟨h8, h9, h10⟩, ⟨h11, h12, h13⟩, h14⟩ := h
  have hq : sQu s = [] := h10 (by rw [hp]; decide)
  unfold swp
  split
  · rename_i e
    exact ⟨h1, h2, h3, h4, h5, h6, h7, ⟨h8, h9, fun _ => hq⟩, ⟨h11, h12, fun _ => e⟩, Or.inl rfl⟩
  · rename_i v t e
    rw [e] at h11 h12 h13
    have hn := List.nodup_cons.mp h11
    have hv := h12 v List.mem_cons_self
    split
    · obtain ⟨n, n1, n2, n3⟩ := h1
      refine ⟨⟨n, n1, n2, fun j a b => ?_⟩, fun i hi => ?_, h3, h4, h5, ⟨h6.1, fun i => ?_⟩, ⟨h7.1.filter _, fun i hi => ?_⟩, ⟨h8, (fun i hi => absurd hi (by rw [show sQu _ = sQu s from rfl, hq]; simp)), h10⟩, ⟨hn.2, fun i hi => ?_, fun z => absurd (h13 z) (by simp)⟩, h14⟩
      · show (if nI j = v then 0 else sG s (nI j)) = 0
        split
        · rfl
        · exact n3 j a b
      · show (if i = v then 0 else sG s i) = 0 ∨ (if i = v then 0 else sG s i) = 1 ∨ (if i = v then 0 else sG s i) = 2
        split
        · exact Or.inl rfl
        · exact h2 i hi
      · show i ∈ sNu s ↔ inR i ∧ (if i = v then 0 else sG s i) = 1
        rw [h6.2 i]
        split
        · rename_i e2
          subst e2
          constructor
          · intro z; exact absurd (z.2.symm.trans hv.2) (by decide)
          · intro z; exact absurd z.2 (by decide)
        · exact Iff.rfl
      · have z := flt_mem.mp hi
        refine ⟨(h7.2 i z.1).1, ?_⟩
        show (if i = v then 0 else sG s i) = 2
        rw [if_neg z.2]
        exact (h7.2 i z.1).2
      · have z := h12 i (List.mem_cons_of_mem _ hi)
        refine ⟨z.1, ?_⟩
        show (if i = v then 0 else sG s i) = 2
        rw [if_neg (show ¬ i = v from fun e => hn.1 (e ▸ hi))]
        exact z.2
    · exact ⟨h1, h2, h3, h4, h5, h6, h7, ⟨h8, h9, h10⟩, ⟨hn.2, fun i hi => h12 i (List.mem_cons_of_mem _ hi), fun z => absurd (h13 z) (by simp)⟩, h14⟩
theorem ph_1 {s : mSt} (h : Inv s) (h0 : ¬ sPh s = 0) (h2 : ¬ sPh s = 2) : sPh s = 1 := by
  rcases h.2.2.2.2.2.2.2.2.2 with z | z | z
  · exact absurd z h0
  · exact z
  · exact absurd z h2
theorem Inv_unt {s : mSt} (h : Inv s) (h0 : ¬ sPh s = 0) : Inv (unt s) := by
  unfold unt
  split
  · exact Inv_swp h ‹_›
  · rename_i h2
    have h1 := ph_1 h h0 h2
    split
    · exact (Inv_mark h h1 ‹_›).1
    · have z := Inv_scan h h1
      split
      · exact Inv_stSw z.1 ‹_›
      · exact z.1
theorem Inv_stps : ∀ {n : Nat} {s : mSt}, Inv s → Inv (stps n s)
  | 0, _, h => h
  | n + 1, s, h => by
    unfold stps
    split
    · exact h
    · exact Inv_stps (Inv_unt h ‹_›)
theorem Inv_adv {s : mSt} {b : Int32} (h : Inv s) : Inv (adv s b).2 := by
  unfold adv
  split
  · exact h
  · split
    · exact h
    · exact Inv_stps h
