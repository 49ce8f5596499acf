/-! ===== what holds of every state that calls reach: ages stay small ===== -/
def BI (T : Nat) (b : mBs) : Prop := Inv b.1 ∧ aOk T b.1 ∧ b.2.2.1.length ≤ 150 ∧ (∀ x ∈ b.2.2.1, byt x) ∧ b.2.2.2.length ≤ 64 ∧ ∀ x ∈ b.2.2.2, byt x
theorem aOk.up {T T' : Nat} {s : mSt} (h : aOk T s) (ht : T ≤ T') : aOk T' s := fun i hi => by
  obtain ⟨m, h1, h2⟩ := h i hi
  exact ⟨m, by omega, h2⟩
theorem aOk.eq {T : Nat} {s s' : mSt} (h : aOk T s) (e : sA s' = sA s) : aOk T s' := fun i hi => by rw [e]; exact h i hi
theorem A_shd {s : mSt} {v : Int32} : sA (shd s v) = sA s := by
  unfold shd
  split <;> rfl
theorem A_fold {s : mSt} {l : List Int32} {A : Int32 → Int32} (h : sA s = A) : sA (l.foldl shd s) = A := foldl_inv (P := fun s => sA s = A) (fun a b _ h => A_shd.trans h) h
theorem A_shdF {s : mSt} {v : Int32} : sA (shdF s v) = sA s := A_fold rfl
theorem A_scan {s : mSt} : sA (scan s) = sA s := by
  unfold scan
  exact foldl_inv (P := fun s' => sA s' = sA s) (fun a b _ h => A_shdF.trans h) (A_fold rfl)
theorem A_swp {s : mSt} : sA (swp s) = sA s := by
  unfold swp
  split
  · rfl
  · split <;> rfl
theorem A_unt {s : mSt} : sA (unt s) = sA s := by
  unfold unt
  split
  · exact A_swp
  · split
    · unfold mark
      exact A_shdF
    · split
      · exact A_scan
      · exact A_scan
theorem A_stps : ∀ {n : Nat} {s : mSt}, sA (stps n s) = sA s
  | 0, _ => rfl
  | n + 1, s => by
    unfold stps
    split
    · rfl
    · exact A_stps.trans A_unt
theorem A_adv {s : mSt} {b : Int32} : sA (adv s b).2 = sA s := by
  unfold adv
  split
  · rfl
  · split
    · rfl
    · exact A_stps
theorem A_bgn {s : mSt} : sA (bgn s).2 = sA s := by
  unfold bgn
  split
  · exact A_scan
  · rfl
theorem A_stB {s : mSt} {t : Int32} : sA (stB s t) = sA s := by
  unfold stB
  split
  · exact A_shd
  · rfl
theorem A_stK {s : mSt} {i j t : Int32} : sA (stK s i j t) = sA s := by
  unfold stK
  split <;> rfl
theorem A_stF {s : mSt} {i j t : Int32} : sA (stF s i j t).2 = sA s := by
  unfold stF
  split
  · rfl
  · split
    · rfl
    · exact A_stB.trans A_stK
theorem A_stR {s : mSt} {i t : Int32} : sA (stR s i t).2 = sA s := by
  unfold stR
  split
  · rfl
  · split
    · rfl
    · exact A_stB
theorem aOk_aloc {T : Nat} {s : mSt} {v : Int32} (h : aOk T s) : aOk T (aloc s v).2 := by
  unfold aloc
  split
  · exact h
  · split
    · exact h
    · intro i hi
      show ∃ m, m ≤ T ∧ (if i = sAl s then 0 else sA s i) = nI m
      split
      · exact ⟨0, by omega, rfl⟩
      · exact h i hi
theorem A_agS {s : mSt} {v : Int32} : sA (agS s v) = up1 (sA s) v (sA s v + 1) := by
  unfold agS
  split
  · rfl
  · unfold tnr
    split
    · rfl
    · unfold prm
      split
      · rfl
      · split <;> rfl
theorem A_age : ∀ {t : List Int32} {s : mSt}, t.Nodup → ∀ i, sA (t.foldl agS s) i = if i ∈ t then sA s i + 1 else sA s i
  | [], s, _, i => by simp
  | x :: t, s, hn, i => by
    have h2 := List.nodup_cons.mp hn
    rw [List.foldl_cons, A_age h2.2 i, A_agS]
    show (if i ∈ t then (if i = x then sA s x + 1 else sA s i) + 1 else (if i = x then sA s x + 1 else sA s i)) = _
    by_cases e : i = x
    · rw [e, if_neg h2.1, if_pos rfl, if_pos List.mem_cons_self]
    · rw [if_neg e]
      by_cases hm : i ∈ t
      · rw [if_pos hm, if_pos (List.mem_cons_of_mem _ hm)]
      · rw [if_neg hm, if_neg (fun q => (List.mem_cons.mp q).elim e hm)]
theorem A_fre {l : List Int32} : ∀ {t : List Int32} {s : mSt} {n : Int32}, sA (t.foldl (frO l) (s, n)).1 = sA s
  | [], _, _ => rfl
  | x :: t, s, n => by
    rw [List.foldl_cons]
    unfold frO
    split
    · exact A_fre (l := l)
    · exact A_fre (l := l) (s := wG s (up1 (sG s) x 0))
theorem aOk_minr {T : Nat} {s : mSt} (h : aOk T s) : aOk (T + 1) (minr s).2 := by
  intro i hi
  have e : sA (minr s).2 = sA ((trc s).foldl agS s) := A_fre (l := trc s) (t := sNu ((trc s).foldl agS s)) (s := (trc s).foldl agS s) (n := 0)
  rw [e, A_age trc_nd i]
  obtain ⟨m, h1, h2⟩ := h i hi
  split
  · exact ⟨m + 1, by omega, by rw [h2, nI_1]⟩
  · exact ⟨m, by omega, h2⟩
theorem aOk_exC {T : Nat} {s : mSt} {c : Nat × List Int32} (h : aOk T s) : aOk (T + 1) (exC s c).2 := by
  unfold exC
  split
  · exact (aOk_aloc h).up (by omega)
  · exact (h.eq A_stR).up (by omega)
  · exact (h.eq A_stF).up (by omega)
  · exact aOk_minr h
  · exact (h.eq A_bgn).up (by omega)
  · exact (h.eq A_adv).up (by omega)
theorem aOk_exs {cs : List (Nat × List Int32)} : ∀ {n k T : Nat} {s : mSt}, aOk T s → aOk (T + n) (exs cs n k s).2
  | 0, _, _, _, h => h
  | n + 1, k, T, s, h => by
    unfold exs
    split
    · exact (aOk_exC (c := cs.getD k (0, [])) h).up (by omega)
    · have := aOk_exs (cs := cs) (n := n) (k := k + 1) (aOk_exC (c := cs.getD k (0, [])) h)
      exact this.up (by omega)
theorem Inv_exs {cs : List (Nat × List Int32)} : ∀ {n k : Nat} {s : mSt}, Inv s → Inv (exs cs n k s).2
  | 0, _, _, h => h
  | n + 1, k, s, h => by
    unfold exs
    split
    · dsimp only
      exact Inv_exC (c := cs.getD k (0, [])) h
    · exact Inv_exs (Inv_exC (c := cs.getD k (0, [])) h)
theorem BI.up {T T' : Nat} {b : mBs} (h : BI T b) (ht : T ≤ T') : BI T' b := ⟨h.1, h.2.1.up ht, h.2.2⟩
theorem BI.e {T : Nat} {b : mBs} {r : Int32} (h : BI T b) : BI T (bE b r) := h
theorem BI.s {T T' : Nat} {b : mBs} {s : mSt} {er : Int32 → Int32} (h : BI T b) (h1 : Inv s) (h2 : aOk T' s) : BI T' (s, er, b.2.2) := ⟨h1, h2, h.2.2⟩
theorem bi_reset {T : Nat} {b : mBs} {x y z : Int32} (h : BI T b) : BI T (oRs b x y z).2 := by
  unfold oRs
  split
  · exact h.e
  · exact h.s (Inv_rst h.1) (h.2.1.eq rfl)
theorem bi_allocate {T : Nat} {b : mBs} {v : Int32} (h : BI T b) : BI T (oAl b v).2 := h.s (Inv_aloc h.1) (aOk_aloc h.2.1)
theorem bi_write {T : Nat} {b : mBs} {i j t : Int32} (h : BI T b) : BI T (oWr b i j t).2 := h.s (Inv_stF h.1) (h.2.1.eq A_stF)
theorem bi_setRoot {T : Nat} {b : mBs} {i t : Int32} (h : BI T b) : BI T (oSr b i t).2 := h.s (Inv_stR h.1) (h.2.1.eq A_stR)
theorem bi_minorCollection {T : Nat} {b : mBs} (h : BI T b) : BI (T + 25) (oMi b).2 := h.s (Inv_minr h.1) ((aOk_minr h.2.1).up (by omega))
theorem bi_startMajor {T : Nat} {b : mBs} (h : BI T b) : BI T (oBg b).2 := h.s (Inv_bgn h.1) (h.2.1.eq A_bgn)
theorem bi_stepMajor {T : Nat} {b : mBs} {v : Int32} (h : BI T b) : BI T (oSt b v).2 := h.s (Inv_adv h.1) (h.2.1.eq A_adv)
theorem bi_exists {T : Nat} {b : mBs} {v : Int32} (h : BI T b) : BI T (oEx b v).2 := h
theorem bi_isOld {T : Nat} {b : mBs} {v : Int32} (h : BI T b) : BI T (oIo b v).2 := by unfold oIo; split; exact h; exact h.e
theorem bi_age {T : Nat} {b : mBs} {v : Int32} (h : BI T b) : BI T (oAg b v).2 := by unfold oAg; split; exact h; exact h.e
theorem bi_reference {T : Nat} {b : mBs} {i j : Int32} (h : BI T b) : BI T (oRf b i j).2 := by unfold oRf; split; exact h; exact h.e
theorem bi_root {T : Nat} {b : mBs} {i : Int32} (h : BI T b) : BI T (oRt b i).2 := by unfold oRt; split; exact h; exact h.e
theorem bi_colour {T : Nat} {b : mBs} {v : Int32} (h : BI T b) : BI T (oCo b v).2 := by
  unfold oCo
  split
  · split
    · exact h
    · exact h.e
  · exact h.e
theorem bi_at {T : Nat} {b : mBs} {l : List Int32} {i : Int32} (h : BI T b) : BI T (oAt l b i).2 := by unfold oAt; split; exact h.e; exact h
theorem bi_errorCount {T : Nat} {b : mBs} {k : Int32} (h : BI T b) : BI T (oEc b k).2 := by unfold oEc; split; exact h; exact h.e
theorem bi_append {T : Nat} {b : mBs} {v : Int32} (h : BI T b) : BI T (oAp b v).2 := by
  unfold oAp
  split
  · exact h.e
  · rename_i ho
    split
    · exact h.e
    · rename_i hl
      refine ⟨h.1, h.2.1, ?_, fun x hx => ?_, h.2.2.2.2⟩
      · show (b.2.2.1 ++ [v]).length ≤ 150
        simp; omega
      · rcases List.mem_append.mp hx with q | q
        · exact h.2.2.2.1 x q
        · rw [List.mem_singleton.mp q]
          exact ⟨fun q => ho (Or.inl q), fun q => ho (Or.inr q)⟩
theorem bi_clearText {T : Nat} {b : mBs} (h : BI T b) : BI T (oCl b).2 := ⟨h.1, h.2.1, Nat.zero_le _, (fun x hx => by cases hx), h.2.2.2.2⟩
theorem bi_describe {T : Nat} {b : mBs} {v : Int32} (h : BI T b) : BI T (oDe b v).2 := by
  unfold oDe
  split
  · rename_i hv
    exact ⟨h.1, h.2.1, h.2.2.1, h.2.2.2.1, by show (dsc b.1 v).length ≤ 64; have := dsc_len h.1 hv.1; omega, dsc_b⟩
  · exact h.e
theorem bi_runScript {T : Nat} {b : mBs} (h : BI T b) : BI (T + 25) (oRn b).2 := by
  have hp := (prs_ok (t := b.2.2.1) (f := 25) (p := spc b.2.2.1 0)).1
  unfold oRn
  split
  · exact h.up (by omega)
  · exact h.s (Inv_exs h.1) ((aOk_exs h.2.1).up (by omega))
theorem bi_00 : BI 0 b00 := ⟨⟨⟨0, by omega, rfl, fun _ _ _ => rfl⟩, fun _ _ => Or.inl rfl, fun _ _ => ⟨0, by omega, rfl⟩, fun _ => Or.inr ⟨show ¬ (0 : Int32) < 0 by decide, show ¬ (100 : Int32) ≤ 0 by decide⟩, fun _ => Or.inl rfl, ⟨List.nodup_nil, fun i => ⟨fun z => (by cases z), fun z => absurd z.2 (by show ¬ (0 : Int32) = 1; decide)⟩⟩, ⟨List.nodup_nil, fun i z => (by cases z)⟩, ⟨List.nodup_nil, (fun i z => by cases z), fun _ => rfl⟩, ⟨List.nodup_nil, (fun i z => by cases z), fun _ => rfl⟩, Or.inl rfl⟩, fun _ _ => ⟨0, by omega, rfl⟩, Nat.zero_le _, (fun x hx => by cases hx), Nat.zero_le _, (fun x hx => by cases hx)⟩
