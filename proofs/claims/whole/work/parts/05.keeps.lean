/-! ===== what every step of the small machine keeps ===== -/
def okh (n h : Nat) : Prop := h < n ∨ mB ≤ h
def okv (n : Nat) (v : Value) : Prop := ∀ h, v = .ref h → okh n h
def okS (n : Nat) (st : List Value) : Prop := ∀ v ∈ st, okv n v
def okL (n : Nat) (ls : mLs) : Prop := ∀ i v, mget ls i = some v → okv n v
def okW (w : mW) : Prop := (∀ h k h', h < w.1.1 → w.1.2.2.2.1 h k = some h' → okh w.1.1 h') ∧ okv 0 w.1.2.2.2.2.2.2
def leW (w w' : mW) : Prop := w.1.1 ≤ w'.1.1 ∧ w.1.2.1 ≤ w'.1.2.1 ∧ w'.1.2.2.2.2 = w.1.2.2.2.2
def mGo (w : mW) (ls : mLs) (w' : mW) (ls' : mLs) (st' : List Value) : Prop := leW w w' ∧ okW w' ∧ okS w'.1.1 st' ∧ okL w'.1.1 ls' ∧ ls'.length = ls.length
theorem okh.mono {n n' h : Nat} (hn : n ≤ n') (h1 : okh n h) : okh n' h := h1.elim (fun a => Or.inl (Nat.lt_of_lt_of_le a hn)) Or.inr
theorem okv.mono {n n' : Nat} {v : Value} (hn : n ≤ n') (h1 : okv n v) : okv n' v := fun h e => (h1 h e).mono hn
theorem okS.mono {n n' : Nat} {st : List Value} (hn : n ≤ n') (h1 : okS n st) : okS n' st := fun v hv => (h1 v hv).mono hn
theorem okL.mono {n n' : Nat} {ls : mLs} (hn : n ≤ n') (h1 : okL n ls) : okL n' ls := fun i v hv => (h1 i v hv).mono hn
theorem okS.cons {n : Nat} {v : Value} {st : List Value} (h1 : okv n v) (h2 : okS n st) : okS n (v :: st) := fun u hu => by
  rcases List.mem_cons.mp hu with rfl | h
  · exact h1
  · exact h2 u h
theorem okS.tail {n : Nat} {v : Value} {st : List Value} (h : okS n (v :: st)) : okS n st := fun u hu => h u (List.mem_cons_of_mem _ hu)
theorem okS.head {n : Nat} {v : Value} {st : List Value} (h : okS n (v :: st)) : okv n v := h v List.mem_cons_self
theorem okv.int {n : Nat} {x : Int32} : okv n (.int x) := fun h e => by cases e
theorem okv.long {n : Nat} {x : Int64} : okv n (.long x) := fun h e => by cases e
theorem okv.null {n : Nat} : okv n .null := fun h e => by cases e
theorem okv.ref {n h : Nat} (h1 : okh n h) : okv n (.ref h) := fun h' e => by cases e; exact h1
theorem okv.rf {n : Nat} {x : Option Nat} (h1 : ∀ h, x = some h → okh n h) : okv n (va_rf x) := by
  cases x with
  | none => exact okv.null
  | some a => exact okv.ref (h1 a rfl)
theorem okv.of {n h : Nat} (h1 : okv n (.ref h)) : okh n h := h1 h rfl
theorem leW.rf (w : mW) : leW w w := ⟨Nat.le_refl _, Nat.le_refl _, rfl⟩
theorem leW.tr {a b c : mW} (h1 : leW a b) (h2 : leW b c) : leW a c := ⟨Nat.le_trans h1.1 h2.1, Nat.le_trans h1.2.1 h2.2.1, h2.2.2.trans h1.2.2⟩
theorem popI_i {st : List Value} {f g : Int32 → List Value → Prop} (h : popI st f) (k : ∀ x r, st = .int x :: r → f x r → g x r) : popI st g := by
  unfold popI at h ⊢
  split at h
  · exact k _ _ rfl h
  · exact h.elim
theorem popL_i {st : List Value} {f g : Int64 → List Value → Prop} (h : popL st f) (k : ∀ x r, st = .long x :: r → f x r → g x r) : popL st g := by
  unfold popL at h ⊢
  split at h
  · exact k _ _ rfl h
  · exact h.elim
theorem popR_i {st : List Value} {f g : Nat → List Value → Prop} (h : popR st f) (k : ∀ x r, st = .ref x :: r → f x r → g x r) : popR st g := by
  unfold popR at h ⊢
  split at h
  · exact k _ _ rfl h
  · exact h.elim
theorem popA_i {st : List Value} {f g : Option Nat → List Value → Prop} (h : popA st f) (k : ∀ x r, st = va_rf x :: r → f x r → g x r) : popA st g := by
  unfold popA at h ⊢
  split at h
  · exact k (some _) _ rfl h
  · exact k none _ rfl h
  · exact h.elim
theorem pop1_i {st : List Value} {f g : Value → List Value → Prop} (h : pop1 st f) (k : ∀ x r, st = x :: r → x.category = 1 → f x r → g x r) : pop1 st g := by
  unfold pop1 at h ⊢
  split at h
  · exact ⟨h.1, k _ _ rfl h.1 h.2⟩
  · exact h.elim
theorem ldI_i {ls : mLs} {i : Nat} {f g : Int32 → Prop} (h : ldI ls i f) (k : ∀ x, mget ls i = some (.int x) → f x → g x) : ldI ls i g := by
  unfold ldI at h ⊢
  cases e : mget ls i with
  | none => rw [e] at h; exact h.elim
  | some v => rw [e] at h; cases v <;> first | exact h.elim | exact k _ e h
theorem ldL_i {ls : mLs} {i : Nat} {f g : Int64 → Prop} (h : ldL ls i f) (k : ∀ x, mget ls i = some (.long x) → f x → g x) : ldL ls i g := by
  unfold ldL at h ⊢
  cases e : mget ls i with
  | none => rw [e] at h; exact h.elim
  | some v => rw [e] at h; cases v <;> first | exact h.elim | exact k _ e h
theorem ldA_i {ls : mLs} {i : Nat} {f g : Option Nat → Prop} (h : ldA ls i f) (k : ∀ x, mget ls i = some (va_rf x) → f x → g x) : ldA ls i g := by
  unfold ldA at h ⊢
  cases e : mget ls i with
  | none => rw [e] at h; exact h.elim
  | some v => rw [e] at h; cases v <;> first | exact h.elim | exact k (some _) e h | exact k none e h
theorem mlg2_of {u : Value} (h : u.category = 2) : mlg2 (some u) = true := by cases u <;> first | rfl | simp [Value.category] at h
theorem mset_get {v : Value} : ∀ {ls ls' : mLs} {i : Nat}, mset ls i v = some ls' → ls'.length = ls.length ∧ i < ls.length ∧ ∀ j u, mget ls' j = some u → (j = i ∧ u = v) ∨ (j ≠ i ∧ mget ls j = some u ∧ ¬ (j + 1 = i ∧ u.category = 2))
  | [], _, _, h => by simp [mset] at h
  | a :: l, ls', 0, h => by
    simp only [mset, Option.some.injEq] at h
    subst h
    refine ⟨rfl, by simp, fun j u hj => ?_⟩
    cases j with
    | zero => exact Or.inl ⟨rfl, (Option.some.inj hj).symm⟩
    | succ j => exact Or.inr ⟨by omega, hj, by omega⟩
  | a :: l, ls', i + 1, h => by
    unfold mset at h
    cases he : mset l i v with
    | none => rw [he] at h; cases h
    | some l' =>
      rw [he] at h
      dsimp only at h
      cases hc : (Nat.beq i 0 && mlg2 a) with
      | true => rw [hc] at h; cases h
      | false =>
        rw [hc] at h
        cases h
        obtain ⟨g1, g2, g3⟩ := mset_get he
        refine ⟨by simp [g1], by simp; omega, fun j u hj => ?_⟩
        cases j with
        | zero =>
          refine Or.inr ⟨by omega, hj, fun hq => ?_⟩
          have h0 : i = 0 := by omega
          have ha : a = some u := hj
          rw [ha, mlg2_of hq.2, h0] at hc
          cases hc
        | succ j =>
          rcases g3 j u hj with ⟨e1, e2⟩ | ⟨e1, e2, e3⟩
          · exact Or.inl ⟨by omega, e2⟩
          · exact Or.inr ⟨by omega, e2, fun hc => e3 ⟨by omega, hc.2⟩⟩
theorem mset2_get {v : Value} : ∀ {ls ls' : mLs} {i : Nat}, mset2 ls i v = some ls' → ls'.length = ls.length ∧ i + 1 < ls.length ∧ ∀ j u, mget ls' j = some u → (j = i ∧ u = v) ∨ (j ≠ i ∧ j ≠ i + 1 ∧ mget ls j = some u ∧ ¬ (j + 1 = i ∧ u.category = 2))
  | [], _, _, h => by simp [mset2] at h
  | [_], _, _, h => by simp [mset2] at h
  | a :: b :: l, ls', 0, h => by
    simp only [mset2, Option.some.injEq] at h
    subst h
    refine ⟨rfl, by simp, fun j u hj => ?_⟩
    match j with
    | 0 => exact Or.inl ⟨rfl, (Option.some.inj hj).symm⟩
    | 1 => cases hj
    | j + 2 => exact Or.inr ⟨by omega, by omega, hj, by omega⟩
  | a :: b :: l, ls', i + 1, h => by
    unfold mset2 at h
    cases he : mset2 (b :: l) i v with
    | none => rw [he] at h; cases h
    | some l' =>
      rw [he] at h
      dsimp only at h
      cases hc : (Nat.beq i 0 && mlg2 a) with
      | true => rw [hc] at h; cases h
      | false =>
        rw [hc] at h
        cases h
        obtain ⟨g1, g2, g3⟩ := mset2_get he
        refine ⟨by simp at g1; simp [g1], by simp at g2 ⊢; omega, fun j u hj => ?_⟩
        cases j with
        | zero =>
          refine Or.inr ⟨by omega, by omega, hj, fun hq => ?_⟩
          have h0 : i = 0 := by omega
          have ha : a = some u := hj
          rw [ha, mlg2_of hq.2, h0] at hc
          cases hc
        | succ j =>
          rcases g3 j u hj with ⟨e1, e2⟩ | ⟨e1, e4, e2, e3⟩
          · exact Or.inl ⟨by omega, e2⟩
          · exact Or.inr ⟨by omega, by omega, e2, fun hc => e3 ⟨by omega, hc.2⟩⟩
theorem stV_i {ls : mLs} {i : Nat} {v : Value} {f g : mLs → Prop} (h : stV ls i v f) (k : ∀ l, mset ls i v = some l → f l → g l) : stV ls i v g := by
  unfold stV at h ⊢
  cases e : mset ls i v with
  | none => rw [e] at h; exact h.elim
  | some l => rw [e] at h; exact k l e h
theorem stL_i {ls : mLs} {i : Nat} {v : Value} {f g : mLs → Prop} (h : stL ls i v f) (k : ∀ l, mset2 ls i v = some l → f l → g l) : stL ls i v g := by
  unfold stL at h ⊢
  cases e : mset2 ls i v with
  | none => rw [e] at h; exact h.elim
  | some l => rw [e] at h; exact k l e h
theorem okL.set {n i : Nat} {ls l : mLs} {v : Value} (h : okL n ls) (hv : okv n v) (e : mset ls i v = some l) : okL n l := fun j u hu => by
  rcases (mset_get e).2.2 j u hu with ⟨_, rfl⟩ | ⟨_, h1, _⟩
  · exact hv
  · exact h j u h1
theorem okL.set2 {n i : Nat} {ls l : mLs} {v : Value} (h : okL n ls) (hv : okv n v) (e : mset2 ls i v = some l) : okL n l := fun j u hu => by
  rcases (mset2_get e).2.2 j u hu with ⟨_, rfl⟩ | ⟨_, _, h1, _⟩
  · exact hv
  · exact h j u h1
theorem mspl_ok {n : Nat} : ∀ (b : Nat) (acc st a r : List Value), mspl b acc st = some (a, r) → okS n acc → okS n st → okS n a ∧ okS n r
  | 0, acc, st, a, r, h, h1, h2 => by cases h; exact ⟨h1, h2⟩
  | b + 1, acc, [], a, r, h, h1, h2 => by cases h
  | b + 1, acc, v :: st, a, r, h, h1, h2 => mspl_ok b (v :: acc) st a r h (okS.cons h2.head h1) h2.tail
/-- what a call keeps -/
def mKeeps (call : Nat → List Value → mW → mRs → Prop) : Prop := ∀ k args w r w', call k args w (r, w') → okW w → okS w.1.1 args → leW w w' ∧ okW w' ∧ okS w'.1.1 r.toList
theorem okW_push {w : mW} {kd : Nat × Nat} {sl : Nat} {F : mF} {M : mM} {L : mL} (h : okW w) : okW (pX w.1 kd sl, F, M, L) := ⟨fun a k h' ha e => by
  have ha : a < w.1.1 + 1 := ha
  have e : cond (Nat.beq a w.1.1) none (w.1.2.2.2.1 a k) = some h' := e
  cases hb : Nat.beq a w.1.1 with
  | true => rw [hb] at e; cases e
  | false => rw [hb] at e; exact (h.1 a k h' (Nat.lt_of_le_of_ne (Nat.le_of_lt_succ ha) (fun q => by rw [q, Nat.beq_refl] at hb; cases hb)) e).mono (Nat.le_succ _), h.2⟩
theorem leW_push {w : mW} {kd : Nat × Nat} {sl : Nat} {F : mF} {M : mM} {L : mL} : leW w (pX w.1 kd sl, F, M, L) := ⟨Nat.le_succ _, Nat.le_add_right _ _, rfl⟩
theorem mGo.push {w : mW} {ls : mLs} {kd : Nat × Nat} {sl : Nat} {F : mF} {M : mM} {L : mL} {r : List Value} (h : okW w) (hl : okL w.1.1 ls) (hr : okS w.1.1 r) : mGo w ls (pX w.1 kd sl, F, M, L) ls (.ref w.1.1 :: r) :=
  ⟨leW_push, okW_push h, okS.cons (okv.ref (Or.inl (Nat.lt_succ_self _))) (hr.mono (Nat.le_succ _)), hl.mono (Nat.le_succ _), rfl⟩
theorem mGo.st {w : mW} {ls : mLs} {F : mF} {M : mM} {L : mL} {st : List Value} (h : okW w) (hl : okL w.1.1 ls) (hr : okS w.1.1 st) : mGo w ls (w.1, F, M, L) ls st := ⟨leW.rf _, h, hr, hl, rfl⟩
theorem mGo.here {w : mW} {ls : mLs} {st : List Value} (h : okW w) (hl : okL w.1.1 ls) (hr : okS w.1.1 st) : mGo w ls w ls st := ⟨leW.rf _, h, hr, hl, rfl⟩
