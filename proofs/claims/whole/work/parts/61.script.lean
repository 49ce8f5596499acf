/-! ===== scripts, abstractly ===== -/
abbrev chq (t : List Int32) (p : Nat) (c : Int32) : Prop := p < t.length ∧ t.getD p 0 = c
abbrev rgq (t : List Int32) (p : Nat) (a b : Int32) : Prop := p < t.length ∧ ¬ t.getD p 0 < a ∧ ¬ b < t.getD p 0
def spcF (t : List Int32) : Nat → Nat → Nat
  | 0, p => p
  | f + 1, p => if chq t p 32 then spcF t f (p + 1) else p
def spc (t : List Int32) (p : Nat) : Nat := spcF t (t.length - p) p
def ltF (t : List Int32) : Nat → Nat → Nat
  | 0, p => p
  | f + 1, p => if rgq t p 97 122 then ltF t f (p + 1) else p
def lts (t : List Int32) (p : Nat) : Nat := ltF t (t.length - p) p
def va (v c : Int32) : Int32 := 10 * v + c - 48
abbrev tg0 (t : List Int32) (p : Nat) : Int32 := t.getD p 0
def num (t : List Int32) (p : Nat) : Int32 × Nat × Option Nat :=
  if ¬ rgq t p 48 57 then (0, p, some p) else
  if ¬ rgq t (p + 1) 48 57 then (va 0 (tg0 t p), p + 1, none) else
  if ¬ rgq t (p + 2) 48 57 then (va (va 0 (tg0 t p)) (tg0 t (p + 1)), p + 2, none) else
  (va (va (va 0 (tg0 t p)) (tg0 t (p + 1))) (tg0 t (p + 2)), p + 3, if rgq t (p + 3) 48 57 then some (p + 3) else none)
def argP (t : List Int32) (g : Bool) (p : Nat) : Int32 × Nat × Option Nat := if g = true ∧ chq t (spc t p) 45 then (-1, spc t p + 1, none) else num t (spc t p)
def fW (W e : Option Nat) : Option Nat := match W with
  | none => e
  | some x => some x
def argsP (t : List Int32) : List Bool → Nat → Option Nat → List Int32 × Nat × Option Nat
  | [], p, W => ([], p, W)
  | g :: r, p, W => ((argP t g p).1 :: (argsP t r (argP t g p).2.1 (fW W (argP t g p).2.2)).1, (argsP t r (argP t g p).2.1 (fW W (argP t g p).2.2)).2)
def semP (t : List Int32) (p : Nat) (W : Option Nat) : Nat × Option Nat := if chq t (spc t p) 59 then (spc t p + 1, W) else (spc t p, fW W (some (spc t p)))
def aT (w : Nat) : List Bool := match w with
  | 0 => [false]
  | 1 => [false, true]
  | 2 => [false, false, true]
  | 5 => [false]
  | _ => []
/-- the words are texts 5 to 10 of the program -/
def wid (l : List Int32) : Nat := if l = [97, 108, 108, 111, 99] then 0 else if l = [114, 111, 111, 116] then 1 else if l = [119, 114, 105, 116, 101] then 2 else if l = [109, 105, 110, 111, 114] then 3 else if l = [115, 116, 97, 114, 116] then 4 else if l = [115, 116, 101, 112] then 5 else 6
def slc (t : List Int32) (p q : Nat) : List Int32 := (t.drop p).take (q - p)
def wrd (t : List Int32) (p q : Nat) : Nat := if p = q then 6 else wid (slc t p q)
/-- a command at p (no spaces ahead): its word, its arguments, where it ends, the first error -/
def cmd (t : List Int32) (p : Nat) : Nat × List Int32 × Nat × Option Nat :=
  if wrd t p (lts t p) = 6 then (6, [], lts t p, some p) else
  (wrd t p (lts t p), (argsP t (aT (wrd t p (lts t p))) (lts t p) none).1, semP t (argsP t (aT (wrd t p (lts t p))) (lts t p) none).2.1 (argsP t (aT (wrd t p (lts t p))) (lts t p) none).2.2)
def prs (t : List Int32) : Nat → Nat → List (Nat × List Int32) × Option Nat
  | 0, _ => ([], none)
  | f + 1, p => match (cmd t p).2.2.2 with
    | some e => ([], some e)
    | none => if spc t (cmd t p).2.2.1 < t.length then (((cmd t p).1, (cmd t p).2.1) :: (prs t f (spc t (cmd t p).2.2.1)).1, (prs t f (spc t (cmd t p).2.2.1)).2) else ([((cmd t p).1, (cmd t p).2.1)], none)
theorem spcF_ge {t : List Int32} : ∀ {f p : Nat}, p ≤ spcF t f p
  | 0, _ => Nat.le_refl _
  | f + 1, p => by
    unfold spcF
    split
    · exact Nat.le_trans (Nat.le_succ _) spcF_ge
    · exact Nat.le_refl _
theorem spcF_le {t : List Int32} : ∀ {f p : Nat}, spcF t f p ≤ max p t.length
  | 0, p => Nat.le_max_left _ _
  | f + 1, p => by
    unfold spcF
    split
    · rename_i h
      have := spcF_le (t := t) (f := f) (p := p + 1)
      have := h.1
      omega
    · exact Nat.le_max_left _ _
theorem spcF_st {t : List Int32} : ∀ {f p : Nat}, t.length - p ≤ f → ¬ chq t (spcF t f p) 32
  | 0, p, h, q => by have := q.1; unfold spcF at this; omega
  | f + 1, p, h, q => by
    unfold spcF at q
    split at q
    · exact spcF_st (f := f) (p := p + 1) (by omega) q
    · contradiction
theorem spcF_more {t : List Int32} : ∀ {f g p : Nat}, t.length - p ≤ f → t.length - p ≤ g → spcF t f p = spcF t g p
  | 0, 0, p, _, _ => rfl
  | 0, g + 1, p, h, _ => by
    show p = if chq t p 32 then _ else p
    rw [if_neg (fun q => by have := q.1; omega)]
  | f + 1, 0, p, _, h => by
    show (if chq t p 32 then _ else p) = p
    rw [if_neg (fun q => by have := q.1; omega)]
  | f + 1, g + 1, p, h1, h2 => by
    unfold spcF
    rw [spcF_more (f := f) (g := g) (p := p + 1) (by omega) (by omega)]
theorem spc_ge {t : List Int32} {p : Nat} : p ≤ spc t p := spcF_ge
theorem spc_le {t : List Int32} {p : Nat} (h : p ≤ t.length) : spc t p ≤ t.length := by
  have := spcF_le (t := t) (f := t.length - p) (p := p)
  unfold spc
  omega
theorem spc_st {t : List Int32} {p : Nat} : ¬ chq t (spc t p) 32 := spcF_st (Nat.le_refl _)
theorem spc_go {t : List Int32} {p : Nat} (h : chq t p 32) : spc t p = spc t (p + 1) := by
  have := h.1
  unfold spc
  rw [show t.length - p = (t.length - (p + 1)) + 1 by omega]
  show (if chq t p 32 then _ else p) = _
  rw [if_pos h]
theorem spc_no {t : List Int32} {p : Nat} (h : ¬ chq t p 32) : spc t p = p := by
  unfold spc
  cases e : t.length - p with
  | zero => rfl
  | succ n =>
    show (if chq t p 32 then _ else p) = _
    rw [if_neg h]
theorem spc_spc {t : List Int32} {p : Nat} : spc t (spc t p) = spc t p := spc_no spc_st
theorem ltF_ge {t : List Int32} : ∀ {f p : Nat}, p ≤ ltF t f p
  | 0, _ => Nat.le_refl _
  | f + 1, p => by
    unfold ltF
    split
    · exact Nat.le_trans (Nat.le_succ _) ltF_ge
    · exact Nat.le_refl _
theorem ltF_le {t : List Int32} : ∀ {f p : Nat}, ltF t f p ≤ max p t.length
  | 0, p => Nat.le_max_left _ _
  | f + 1, p => by
    unfold ltF
    split
    · rename_i h
      have := ltF_le (t := t) (f := f) (p := p + 1)
      have := h.1
      omega
    · exact Nat.le_max_left _ _
theorem lts_ge {t : List Int32} {p : Nat} : p ≤ lts t p := ltF_ge
theorem lts_le {t : List Int32} {p : Nat} (h : p ≤ t.length) : lts t p ≤ t.length := by
  have := ltF_le (t := t) (f := t.length - p) (p := p)
  unfold lts
  omega
theorem lts_go {t : List Int32} {p : Nat} (h : rgq t p 97 122) : lts t p = lts t (p + 1) := by
  have := h.1
  unfold lts
  rw [show t.length - p = (t.length - (p + 1)) + 1 by omega]
  show (if rgq t p 97 122 then _ else p) = _
  rw [if_pos h]
theorem lts_no {t : List Int32} {p : Nat} (h : ¬ rgq t p 97 122) : lts t p = p := by
  unfold lts
  cases e : t.length - p with
  | zero => rfl
  | succ n =>
    show (if rgq t p 97 122 then _ else p) = _
    rw [if_neg h]
theorem ltF_all {t : List Int32} : ∀ {f p k : Nat}, p ≤ k → k < ltF t f p → rgq t k 97 122
  | 0, p, k, h1, h2 => by unfold ltF at h2; omega
  | f + 1, p, k, h1, h2 => by
    unfold ltF at h2
    split at h2
    · rename_i h
      by_cases e : k = p
      · rw [e]; exact h
      · exact ltF_all (f := f) (p := p + 1) (by omega) h2
    · omega
theorem lts_all {t : List Int32} {p k : Nat} (h1 : p ≤ k) (h2 : k < lts t p) : rgq t k 97 122 := ltF_all h1 h2
theorem num_p {t : List Int32} {p : Nat} : p ≤ (num t p).2.1 ∧ (num t p).2.1 ≤ p + 3 ∧ ((num t p).2.2 = none → p < (num t p).2.1 ∧ ¬ rgq t (num t p).2.1 48 57) ∧ (p ≤ t.length → (num t p).2.1 ≤ t.length) ∧ ∀ e, (num t p).2.2 = some e → e = (num t p).2.1 := by
  unfold num
  split
  · exact ⟨Nat.le_refl _, (by show p ≤ p + 3; omega), (fun h => by cases h), (fun h => h), (fun e h => by cases h; rfl)⟩
  · rename_i h0
    have h0 := Classical.not_not.mp h0
    split
    · rename_i h1
      exact ⟨by show p ≤ p + 1; omega, by show p + 1 ≤ p + 3; omega, fun _ => ⟨by show p < p + 1; omega, h1⟩, fun _ => by show p + 1 ≤ _; have := h0.1; omega, fun e h => by cases h⟩
    · rename_i h1
      have h1 := Classical.not_not.mp h1
      split
      · rename_i h2
        exact ⟨by show p ≤ p + 2; omega, by show p + 2 ≤ p + 3; omega, fun _ => ⟨by show p < p + 2; omega, h2⟩, fun _ => by show p + 2 ≤ _; have := h1.1; omega, fun e h => by cases h⟩
      · rename_i h2
        have h2 := Classical.not_not.mp h2
        refine ⟨by show p ≤ p + 3; omega, by show p + 3 ≤ p + 3; omega, fun h => ⟨by show p < p + 3; omega, fun q => ?_⟩, fun _ => by show p + 3 ≤ _; have := h2.1; omega, fun e h => ?_⟩
        · have h : (if rgq t (p + 3) 48 57 then some (p + 3) else none) = none := h
          rw [if_pos q] at h
          cases h
        · have h : (if rgq t (p + 3) 48 57 then some (p + 3) else none) = some e := h
          split at h
          · cases h; rfl
          · cases h
theorem argP_p {t : List Int32} {g : Bool} {p : Nat} : p ≤ (argP t g p).2.1 ∧ ((argP t g p).2.2 = none → p < (argP t g p).2.1) ∧ (p ≤ t.length → (argP t g p).2.1 ≤ t.length) ∧ ((argP t g p).2.2 = none → g = false → ¬ rgq t (argP t g p).2.1 48 57) := by
  have h0 := spc_ge (t := t) (p := p)
  unfold argP
  split
  · rename_i h
    exact ⟨by show p ≤ spc t p + 1; omega, fun _ => by show p < spc t p + 1; omega, fun _ => by show spc t p + 1 ≤ _; have := h.2.1; omega, fun _ q => by rw [q] at h; exact absurd h.1 (by decide)⟩
  · have n := num_p (t := t) (p := spc t p)
    exact ⟨by omega, fun q => by have := (n.2.2.1 q).1; omega, fun q => n.2.2.2.1 (spc_le q), fun q _ => (n.2.2.1 q).2⟩
theorem argsP_p {t : List Int32} : ∀ {gs : List Bool} {p : Nat} {W : Option Nat}, p ≤ (argsP t gs p W).2.1 ∧ ((argsP t gs p W).2.2 = none → W = none ∧ p + gs.length ≤ (argsP t gs p W).2.1) ∧ (p ≤ t.length → (argsP t gs p W).2.1 ≤ t.length) ∧ (argsP t gs p W).1.length = gs.length
  | [], p, W => ⟨Nat.le_refl _, fun h => ⟨h, by show p + 0 ≤ p; omega⟩, fun h => h, rfl⟩
  | g :: r, p, W => by
    have a := argP_p (t := t) (g := g) (p := p)
    have b := argsP_p (t := t) (gs := r) (p := (argP t g p).2.1) (W := fW W (argP t g p).2.2)
    refine ⟨Nat.le_trans a.1 b.1, fun h => ?_, fun h => b.2.2.1 (a.2.2.1 h), congrArg (· + 1) b.2.2.2⟩
    have c := b.2.1 h
    have c1 : W = none ∧ (argP t g p).2.2 = none := by
      have := c.1
      cases W
      · exact ⟨rfl, this⟩
      · cases this
    refine ⟨c1.1, ?_⟩
    have := a.2.1 c1.2
    have := c.2
    show p + (r.length + 1) ≤ (argsP t r _ _).2.1
    omega
theorem semP_p {t : List Int32} {p : Nat} {W : Option Nat} : p ≤ (semP t p W).1 ∧ ((semP t p W).2 = none → W = none ∧ p < (semP t p W).1) ∧ (p ≤ t.length → (semP t p W).1 ≤ t.length) := by
  have h0 := spc_ge (t := t) (p := p)
  unfold semP
  split
  · rename_i h
    exact ⟨by show p ≤ spc t p + 1; omega, fun q => ⟨q, by show p < spc t p + 1; omega⟩, fun _ => by show spc t p + 1 ≤ _; have := h.1; omega⟩
  · exact ⟨h0, fun q => (by cases W <;> cases q), fun q => spc_le q⟩
theorem wid_len {l : List Int32} (h : ¬ wid l = 6) : 6 ≤ l.length + (aT (wid l)).length + 1 ∧ wid l ≤ 5 := by
  unfold wid at *
  split at h
  · rename_i e; rw [if_pos e, e]; exact ⟨by decide, by decide⟩
  · rename_i e0; rw [if_neg e0]; split at h
    · rename_i e; rw [if_pos e, e]; exact ⟨by decide, by decide⟩
    · rename_i e1; rw [if_neg e1]; split at h
      · rename_i e; rw [if_pos e, e]; exact ⟨by decide, by decide⟩
      · rename_i e2; rw [if_neg e2]; split at h
        · rename_i e; rw [if_pos e, e]; exact ⟨by decide, by decide⟩
        · rename_i e3; rw [if_neg e3]; split at h
          · rename_i e; rw [if_pos e, e]; exact ⟨by decide, by decide⟩
          · rename_i e4; rw [if_neg e4]; split at h
            · rename_i e; rw [if_pos e, e]; exact ⟨by decide, by decide⟩
            · exact absurd rfl h
theorem cmd_p {t : List Int32} {p : Nat} (h : (cmd t p).2.2.2 = none) : p + 6 ≤ (cmd t p).2.2.1 ∧ (p ≤ t.length → (cmd t p).2.2.1 ≤ t.length) ∧ (cmd t p).1 ≤ 5 ∧ (cmd t p).2.1.length = (aT (cmd t p).1).length ∧ (cmd t p).1 = wrd t p (lts t p) := by
  unfold cmd at *
  split at h
  · cases h
  · rename_i hw
    rw [if_neg hw]
    have hw2 : ¬ p = lts t p := fun q => hw (if_pos q)
    have hwe : wrd t p (lts t p) = wid (slc t p (lts t p)) := if_neg hw2
    have l := wid_len (l := slc t p (lts t p)) (by rw [← hwe]; exact hw)
    have hl : (slc t p (lts t p)).length ≤ lts t p - p := by unfold slc; simp; omega
    have hg := lts_ge (t := t) (p := p)
    have a := argsP_p (t := t) (gs := aT (wrd t p (lts t p))) (p := lts t p) (W := none)
    have s := semP_p (t := t) (p := (argsP t (aT (wrd t p (lts t p))) (lts t p) none).2.1) (W := (argsP t (aT (wrd t p (lts t p))) (lts t p) none).2.2)
    have s1 := s.2.1 h
    have a1 := a.2.1 s1.1
    have a2 : lts t p + (aT (wid (slc t p (lts t p)))).length ≤ (argsP t (aT (wrd t p (lts t p))) (lts t p) none).2.1 := by
      have := a1.2
      rw [← hwe]
      exact this
    refine ⟨?_, fun q => s.2.2 (a.2.2.1 (lts_le q)), by rw [hwe]; exact l.2, a.2.2.2, rfl⟩
    show p + 6 ≤ (semP t _ _).1
    have := s1.2
    omega
