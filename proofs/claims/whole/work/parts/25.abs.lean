/-! ===== the abstract heap: both sides are held against it ===== -/
abbrev mSt : Type := ((Int32 → Int32) × (Int32 → Int32) × (Int32 → Int32) × (Int32 → Int32) × (Int32 → Int32) × (Int32 → Int32)) × (List Int32 × List Int32 × List Int32 × List Int32) × (Int32 × Int32 × Int32 × Int32 × Int32 × Int32 × Int32 × Int32)
abbrev sG (s : mSt) : Int32 → Int32 := s.1.1
abbrev sA (s : mSt) : Int32 → Int32 := s.1.2.1
abbrev sN (s : mSt) : Int32 → Int32 := s.1.2.2.1
abbrev sC (s : mSt) : Int32 → Int32 := s.1.2.2.2.1
abbrev sR (s : mSt) : Int32 → Int32 := s.1.2.2.2.2.1
abbrev sO (s : mSt) : Int32 → Int32 := s.1.2.2.2.2.2
abbrev sNu (s : mSt) : List Int32 := s.2.1.1
abbrev sKn (s : mSt) : List Int32 := s.2.1.2.1
abbrev sQu (s : mSt) : List Int32 := s.2.1.2.2.1
abbrev sSw (s : mSt) : List Int32 := s.2.1.2.2.2
abbrev sAl (s : mSt) : Int32 := s.2.2.1
abbrev sNc (s : mSt) : Int32 := s.2.2.2.1
abbrev sOc (s : mSt) : Int32 := s.2.2.2.2.1
abbrev sTe (s : mSt) : Int32 := s.2.2.2.2.2.1
abbrev sPh (s : mSt) : Int32 := s.2.2.2.2.2.2.1
abbrev sFa (s : mSt) : Int32 := s.2.2.2.2.2.2.2.1
abbrev sMi (s : mSt) : Int32 := s.2.2.2.2.2.2.2.2.1
abbrev sMa (s : mSt) : Int32 := s.2.2.2.2.2.2.2.2.2
abbrev mkS (g a n c r o : Int32 → Int32) (nu kn qu sw : List Int32) (al nc oc te ph fa mi ma : Int32) : mSt := ((g, a, n, c, r, o), (nu, kn, qu, sw), (al, nc, oc, te, ph, fa, mi, ma))
abbrev wG (s : mSt) (v : Int32 → Int32) : mSt := ((v, s.1.2), s.2)
abbrev wA (s : mSt) (v : Int32 → Int32) : mSt := ((s.1.1, v, s.1.2.2), s.2)
abbrev wC (s : mSt) (v : Int32 → Int32) : mSt := ((s.1.1, s.1.2.1, s.1.2.2.1, v, s.1.2.2.2.2), s.2)
abbrev wR (s : mSt) (v : Int32 → Int32) : mSt := ((s.1.1, s.1.2.1, s.1.2.2.1, s.1.2.2.2.1, v, s.1.2.2.2.2.2), s.2)
abbrev wO (s : mSt) (v : Int32 → Int32) : mSt := ((s.1.1, s.1.2.1, s.1.2.2.1, s.1.2.2.2.1, s.1.2.2.2.2.1, v), s.2)
abbrev wNu (s : mSt) (l : List Int32) : mSt := (s.1, (l, s.2.1.2), s.2.2)
abbrev wKn (s : mSt) (l : List Int32) : mSt := (s.1, (s.2.1.1, l, s.2.1.2.2), s.2.2)
abbrev wQu (s : mSt) (l : List Int32) : mSt := (s.1, (s.2.1.1, s.2.1.2.1, l, s.2.1.2.2.2), s.2.2)
abbrev wSw (s : mSt) (l : List Int32) : mSt := (s.1, (s.2.1.1, s.2.1.2.1, s.2.1.2.2.1, l), s.2.2)
abbrev wPh (s : mSt) (v : Int32) : mSt := (s.1, s.2.1, (s.2.2.1, s.2.2.2.1, s.2.2.2.2.1, s.2.2.2.2.2.1, v, s.2.2.2.2.2.2.2))
abbrev wFa (s : mSt) (v : Int32) : mSt := (s.1, s.2.1, (s.2.2.1, s.2.2.2.1, s.2.2.2.2.1, s.2.2.2.2.2.1, s.2.2.2.2.2.2.1, v, s.2.2.2.2.2.2.2.2))
abbrev wMi (s : mSt) (v : Int32) : mSt := (s.1, s.2.1, (s.2.2.1, s.2.2.2.1, s.2.2.2.2.1, s.2.2.2.2.2.1, s.2.2.2.2.2.2.1, s.2.2.2.2.2.2.2.1, v, s.2.2.2.2.2.2.2.2.2))
abbrev wMa (s : mSt) (v : Int32) : mSt := (s.1, s.2.1, (s.2.2.1, s.2.2.2.1, s.2.2.2.2.1, s.2.2.2.2.2.1, s.2.2.2.2.2.2.1, s.2.2.2.2.2.2.2.1, s.2.2.2.2.2.2.2.2.1, v))
abbrev up1 (f : Int32 → Int32) (i v : Int32) : Int32 → Int32 := fun j => if j = i then v else f j
def seqI : Nat → Nat → List Int32
  | 0, _ => []
  | n + 1, j => nI j :: seqI n (j + 1)
theorem seqI_mem : ∀ {n j : Nat} {x : Int32}, x ∈ seqI n j → ∃ k, j ≤ k ∧ k < j + n ∧ x = nI k
  | 0, _, _, h => by cases h
  | n + 1, j, x, h => by
    rcases List.mem_cons.mp h with e | h
    · exact ⟨j, Nat.le_refl _, by omega, e⟩
    · obtain ⟨k, h1, h2, h3⟩ := seqI_mem h
      exact ⟨k, by omega, by omega, h3⟩
theorem mem_seqI : ∀ {n j k : Nat}, j ≤ k → k < j + n → nI k ∈ seqI n j
  | 0, _, _, h1, h2 => by omega
  | n + 1, j, k, h1, h2 => by
    by_cases e : k = j
    · rw [e]; exact List.mem_cons_self
    · exact List.mem_cons_of_mem _ (mem_seqI (by omega) (by omega))
theorem seqI_nodup : ∀ {n j : Nat}, j + n ≤ 2 ^ 31 → (seqI n j).Nodup
  | 0, _, _ => List.nodup_nil
  | n + 1, j, h => by
    refine List.nodup_cons.mpr ⟨fun z => ?_, seqI_nodup (by omega)⟩
    obtain ⟨k, h1, h2, h3⟩ := seqI_mem z
    have := nI_inj (by omega) (by omega) h3
    omega
theorem seqI_len : ∀ {n j : Nat}, (seqI n j).length = n
  | 0, _ => rfl
  | n + 1, j => by rw [seqI, List.length_cons, seqI_len]
/-- the references in the fields of an object -/
def flds (s : mSt) (v : Int32) : List Int32 := (seqI (sN s v).toNatClampNeg 0).map (fun j => sR s (4 * v + j))
abbrev liveP (s : mSt) (v : Int32) : Prop := inR v ∧ ¬ sG s v = 0
abbrev yngP (s : mSt) (v : Int32) : Prop := inR v ∧ sG s v = 1
abbrev oldP (s : mSt) (v : Int32) : Prop := inR v ∧ sG s v = 2
abbrev whtP (s : mSt) (v : Int32) : Prop := inR v ∧ sG s v = 2 ∧ sC s v = 0
def rts (s : mSt) : List Int32 := [sO s 0, sO s 1, sO s 2, sO s 3]
def shd (s : mSt) (v : Int32) : mSt := if whtP s v then wQu (wC s (up1 (sC s) v 1)) (sQu s ++ [v]) else s
def shdF (s : mSt) (v : Int32) : mSt := (flds s v).foldl shd s
def scan (s : mSt) : mSt := (sNu s).foldl shdF ((rts s).foldl shd s)
def vis (s : mSt) (l : List Int32) (v : Int32) : List Int32 := if yngP s v then addL l v else l
def visF (s : mSt) (l : List Int32) (v : Int32) : List Int32 := (flds s v).foldl (vis s) l
def rch (s : mSt) (l : List Int32) (v : Int32) : List Int32 := if liveP s v then addL l v else l
def rchF (s : mSt) (l : List Int32) (v : Int32) : List Int32 := (flds s v).foldl (rch s) l
def bfs (st : List Int32 → Int32 → List Int32) : Nat → Nat → List Int32 → List Int32
  | 0, _, l => l
  | n + 1, i, l => if i < l.length then bfs st n (i + 1) (st l (l.getD i 0)) else l
def trc (s : mSt) : List Int32 := bfs (visF s) 101 0 ((sKn s).foldl (visF s) ((rts s).foldl (vis s) []))
def rcc (s : mSt) : List Int32 := bfs (rchF s) 101 0 ((rts s).foldl (rch s) [])
def sumL (h : Int32 → Int32) : List Int32 → Int32
  | [] => 0
  | x :: t => h x + sumL h t
def wds (g n : Int32 → Int32) (k : Int32) : Int32 := sumL (fun i => if g i = k then 1 + n i else 0) (seqI 100 0)
def cnt (g : Int32 → Int32) (k : Int32) : Int32 := sumL (fun i => if g i = k then 1 else 0) (seqI 100 0)
theorem sumL_upd {h : Int32 → Int32} {i v : Int32} : ∀ {l : List Int32}, l.Nodup → i ∈ l → sumL (up1 h i v) l = sumL h l - h i + v
  | [], _, hm => by cases hm
  | x :: t, hn, hm => by
    have hn2 := List.nodup_cons.mp hn
    by_cases e : x = i
    · subst e
      have : ∀ {t : List Int32}, x ∉ t → sumL (up1 h x v) t = sumL h t := by
        intro t
        induction t with
        | nil => intro _; rfl
        | cons y t ih =>
          intro hy
          simp only [List.mem_cons, not_or] at hy
          show (if y = x then v else h y) + sumL (up1 h x v) t = h y + sumL h t
          rw [if_neg (fun z => hy.1 z.symm), ih hy.2]
      show (if x = x then v else h x) + sumL (up1 h x v) t = h x + sumL h t - h x + v
      rw [if_pos rfl, this hn2.1]
      grind
    · have hm2 : i ∈ t := by
        rcases List.mem_cons.mp hm with z | z
        · exact absurd z.symm e
        · exact z
      show (if x = i then v else h x) + sumL (up1 h i v) t = h x + sumL h t - h i + v
      rw [if_neg e, sumL_upd hn2.2 hm2]
      grind
theorem sumL_congr {h g : Int32 → Int32} : ∀ {l : List Int32}, (∀ x ∈ l, h x = g x) → sumL h l = sumL g l
  | [], _ => rfl
  | x :: t, e => by
    show h x + sumL h t = g x + sumL g t
    rw [e x List.mem_cons_self, sumL_congr (fun y hy => e y (List.mem_cons_of_mem _ hy))]
theorem inR_mem {i : Int32} (h : inR i) : i ∈ seqI 100 0 := by
  obtain ⟨j, hj, rfl⟩ := inR_of h
  exact mem_seqI (Nat.zero_le _) (by omega)
theorem mem_inR {i : Int32} (h : i ∈ seqI 100 0) : inR i := by
  obtain ⟨k, _, h2, rfl⟩ := seqI_mem h
  exact inR_nI (by omega)
theorem wds_upd {g n : Int32 → Int32} {i k v : Int32} (hi : inR i) : wds (up1 g i v) n k = wds g n k - (if g i = k then 1 + n i else 0) + (if v = k then 1 + n i else 0) := by
  unfold wds
  rw [← sumL_upd (h := fun i => if g i = k then 1 + n i else 0) (i := i) (seqI_nodup (by decide)) (inR_mem hi)]
  refine sumL_congr fun x _ => ?_
  show (if (if x = i then v else g x) = k then 1 + n x else 0) = if x = i then _ else if g x = k then 1 + n x else 0
  by_cases e : x = i
  · subst e; simp only [if_true]
  · simp only [if_neg e]
theorem cnt_upd {g : Int32 → Int32} {i k v : Int32} (hi : inR i) : cnt (up1 g i v) k = cnt g k - (if g i = k then 1 else 0) + (if v = k then 1 else 0) := by
  unfold cnt
  rw [← sumL_upd (h := fun i => if g i = k then 1 else 0) (i := i) (seqI_nodup (by decide)) (inR_mem hi)]
  refine sumL_congr fun x _ => ?_
  show (if (if x = i then v else g x) = k then 1 else 0) = if x = i then _ else if g x = k then 1 else 0
  by_cases e : x = i
  · simp only [if_pos e]
  · simp only [if_neg e]
theorem foldl_inv {α β : Type} {P : α → Prop} {op : α → β → α} : ∀ {l : List β} {a : α}, (∀ a b, b ∈ l → P a → P (op a b)) → P a → P (l.foldl op a)
  | [], _, _, h => h
  | b :: l, a, ho, h => foldl_inv (l := l) (fun a b hb => ho a b (List.mem_cons_of_mem _ hb)) (ho a b List.mem_cons_self h)
/-! what is kept of it -/
def Inv (s : mSt) : Prop :=
  (∃ n, n ≤ 100 ∧ sAl s = nI n ∧ ∀ j, n ≤ j → j < 100 → sG s (nI j) = 0) ∧
  (∀ i, inR i → sG s i = 0 ∨ sG s i = 1 ∨ sG s i = 2) ∧
  (∀ i, inR i → ∃ n, n ≤ 4 ∧ sN s i = nI n) ∧
  (∀ k, sR s k = -1 ∨ inR (sR s k)) ∧
  (∀ k, sO s k = -1 ∨ inR (sO s k)) ∧
  ((sNu s).Nodup ∧ ∀ i, i ∈ sNu s ↔ yngP s i) ∧
  ((sKn s).Nodup ∧ ∀ i, i ∈ sKn s → oldP s i) ∧
  ((sQu s).Nodup ∧ (∀ i, i ∈ sQu s → oldP s i ∧ sC s i = 1) ∧ (¬ sPh s = 1 → sQu s = [])) ∧
  ((sSw s).Nodup ∧ (∀ i, i ∈ sSw s → oldP s i) ∧ (¬ sPh s = 2 → sSw s = [])) ∧
  (sPh s = 0 ∨ sPh s = 1 ∨ sPh s = 2)
/-! the class's memory -/
def RC (s : mSt) (F : mF) (M : mM) : Prop :=
  (∀ i, inR i → M 3 i = sG s i) ∧ (∀ i, inR i → M 4 i = sA s i) ∧ (∀ i, inR i → M 5 i = sN s i) ∧
  (∀ i, inR i → sG s i = 2 → ¬ sPh s = 0 → M 6 i = sC s i) ∧
  (∀ i j, inR i → ¬ sG s i = 0 → ¬ j < 0 → j < sN s i → M 7 (i * 4 + j) = sR s (4 * i + j)) ∧
  (∀ k, k < 4 → M 8 (nI k) = sO s (nI k)) ∧
  IL 9 (sNu s) F M ∧ IL 12 (sKn s) F M ∧ IL 19 (sQu s) F M ∧ IL 22 (sSw s) F M ∧
  (F 1 5 = sNc s ∧ F 1 6 = sOc s ∧ F 1 7 = sTe s) ∧
  (F 2 5 = sAl s ∧ F 2 6 = wds (sG s) (sN s) 1 ∧ F 2 7 = wds (sG s) (sN s) 2 ∧ F 2 8 = cnt (sG s) 2) ∧
  (F 18 4 = sPh s ∧ F 18 5 = sMa s) ∧ (F 25 4 = sFa s ∧ F 25 5 = sMi s)
/-- handles that a method leaves alone -/
def frC (F : mF) (M : mM) (F' : mF) (M' : mM) : Prop := (∀ a k, a = 0 ∨ 29 ≤ a → F' a k = F a k) ∧ (∀ a i, a = 0 ∨ 29 ≤ a → M' a i = M a i)
theorem frC.rf {F : mF} {M : mM} : frC F M F M := ⟨fun _ _ _ => rfl, fun _ _ _ => rfl⟩
theorem frC.tr {F F1 F2 : mF} {M M1 M2 : mM} (a : frC F M F1 M1) (b : frC F1 M1 F2 M2) : frC F M F2 M2 := ⟨fun x k h => (b.1 x k h).trans (a.1 x k h), fun x k h => (b.2 x k h).trans (a.2 x k h)⟩
theorem frL.c {h : Nat} {F F' : mF} {M M' : mM} (a : frL h F M F' M') (h0 : 0 < h) (h1 : h ≤ 26) : frC F M F' M' := ⟨fun x k hx => a.1 x k (by omega), fun x k hx => a.2 x k (by omega) (by omega)⟩
/-- the lists that serve but one call: at 15 and 26 -/
theorem RC.scr {s : mSt} {F F' : mF} {M M' : mM} (H : RC s F M) {h : Nat} (hh : h = 15 ∨ h = 26) (a : frL h F M F' M') : RC s F' M' := by
  obtain ⟨c1, c2, c3, c4, c5, c6, l1, l2, l3, l4, ⟨e1, e2, e3⟩, ⟨e4, e5, e6, e7⟩, ⟨e8, e9⟩, e10, e11⟩ := H
  have am := a.2
  have af := a.1
  refine ⟨fun i hi => by rw [am _ _ (by omega) (by omega)]; exact c1 i hi, fun i hi => by rw [am _ _ (by omega) (by omega)]; exact c2 i hi, fun i hi => by rw [am _ _ (by omega) (by omega)]; exact c3 i hi, fun i hi x y => by rw [am _ _ (by omega) (by omega)]; exact c4 i hi x y, fun i j hi x y z => by rw [am _ _ (by omega) (by omega)]; exact c5 i j hi x y z, fun k hk => by rw [am _ _ (by omega) (by omega)]; exact c6 k hk, ?_, ?_, ?_, ?_, ⟨?_, ?_, ?_⟩, ⟨?_, ?_, ?_, ?_⟩, ⟨?_, ?_⟩, ?_, ?_⟩
  · exact l1.ext (af _ _ (by omega)) (fun i => am _ _ (by omega) (by omega)) (fun i => am _ _ (by omega) (by omega))
  · exact l2.ext (af _ _ (by omega)) (fun i => am _ _ (by omega) (by omega)) (fun i => am _ _ (by omega) (by omega))
  · exact l3.ext (af _ _ (by omega)) (fun i => am _ _ (by omega) (by omega)) (fun i => am _ _ (by omega) (by omega))
  · exact l4.ext (af _ _ (by omega)) (fun i => am _ _ (by omega) (by omega)) (fun i => am _ _ (by omega) (by omega))
  all_goals (rw [af _ _ (by omega)]; assumption)
/-- the four lists: h and what becomes of its list -/
theorem RC.l9 {s : mSt} {F F' : mF} {M M' : mM} {l : List Int32} (H : RC s F M) (a : frL 9 F M F' M') (b : IL 9 l F' M') : RC (wNu s l) F' M' := by
  obtain ⟨c1, c2, c3, c4, c5, c6, l1, l2, l3, l4, ⟨e1, e2, e3⟩, ⟨e4, e5, e6, e7⟩, ⟨e8, e9⟩, e10, e11⟩ := H
  have am := a.2
  have af := a.1
  refine ⟨fun i hi => by rw [am _ _ (by omega) (by omega)]; exact c1 i hi, fun i hi => by rw [am _ _ (by omega) (by omega)]; exact c2 i hi, fun i hi => by rw [am _ _ (by omega) (by omega)]; exact c3 i hi, fun i hi x y => by rw [am _ _ (by omega) (by omega)]; exact c4 i hi x y, fun i j hi x y z => by rw [am _ _ (by omega) (by omega)]; exact c5 i j hi x y z, fun k hk => by rw [am _ _ (by omega) (by omega)]; exact c6 k hk, b, ?_, ?_, ?_, ⟨?_, ?_, ?_⟩, ⟨?_, ?_, ?_, ?_⟩, ⟨?_, ?_⟩, ?_, ?_⟩
  · exact l2.ext (af _ _ (by omega)) (fun i => am _ _ (by omega) (by omega)) (fun i => am _ _ (by omega) (by omega))
  · exact l3.ext (af _ _ (by omega)) (fun i => am _ _ (by omega) (by omega)) (fun i => am _ _ (by omega) (by omega))
  · exact l4.ext (af _ _ (by omega)) (fun i => am _ _ (by omega) (by omega)) (fun i => am _ _ (by omega) (by omega))
  all_goals (rw [af _ _ (by omega)]; assumption)
theorem RC.l12 {s : mSt} {F F' : mF} {M M' : mM} {l : List Int32} (H : RC s F M) (a : frL 12 F M F' M') (b : IL 12 l F' M') : RC (wKn s l) F' M' := by
  obtain ⟨c1, c2, c3, c4, c5, c6, l1, l2, l3, l4, ⟨e1, e2, e3⟩, ⟨e4, e5, e6, e7⟩, ⟨e8, e9⟩, e10, e11⟩ := H
  have am := a.2
  have af := a.1
  refine ⟨fun i hi => by rw [am _ _ (by omega) (by omega)]; exact c1 i hi, fun i hi => by rw [am _ _ (by omega) (by omega)]; exact c2 i hi, fun i hi => by rw [am _ _ (by omega) (by omega)]; exact c3 i hi, fun i hi x y => by rw [am _ _ (by omega) (by omega)]; exact c4 i hi x y, fun i j hi x y z => by rw [am _ _ (by omega) (by omega)]; exact c5 i j hi x y z, fun k hk => by rw [am _ _ (by omega) (by omega)]; exact c6 k hk, ?_, b, ?_, ?_, ⟨?_, ?_, ?_⟩, ⟨?_, ?_, ?_, ?_⟩, ⟨?_, ?_⟩, ?_, ?_⟩
  · exact l1.ext (af _ _ (by omega)) (fun i => am _ _ (by omega) (by omega)) (fun i => am _ _ (by omega) (by omega))
  · exact l3.ext (af _ _ (by omega)) (fun i => am _ _ (by omega) (by omega)) (fun i => am _ _ (by omega) (by omega))
  · exact l4.ext (af _ _ (by omega)) (fun i => am _ _ (by omega) (by omega)) (fun i => am _ _ (by omega) (by omega))
  all_goals (rw [af _ _ (by omega)]; assumption)
theorem RC.l19 {s : mSt} {F F' : mF} {M M' : mM} {l : List Int32} (H : RC s F M) (a : frL 19 F M F' M') (b : IL 19 l F' M') : RC (wQu s l) F' M' := by
  obtain ⟨c1, c2, c3, c4, c5, c6, l1, l2, l3, l4, ⟨e1, e2, e3⟩, ⟨e4, e5, e6, e7⟩, ⟨e8, e9⟩, e10, e11⟩ := H
  have am := a.2
  have af := a.1
  refine ⟨fun i hi => by rw [am _ _ (by omega) (by omega)]; exact c1 i hi, fun i hi => by rw [am _ _ (by omega) (by omega)]; exact c2 i hi, fun i hi => by rw [am _ _ (by omega) (by omega)]; exact c3 i hi, fun i hi x y => by rw [am _ _ (by omega) (by omega)]; exact c4 i hi x y, fun i j hi x y z => by rw [am _ _ (by omega) (by omega)]; exact c5 i j hi x y z, fun k hk => by rw [am _ _ (by omega) (by omega)]; exact c6 k hk, ?_, ?_, b, ?_, ⟨?_, ?_, ?_⟩, ⟨?_, ?_, ?_, ?_⟩, ⟨?_, ?_⟩, ?_, ?_⟩
  · exact l1.ext (af _ _ (by omega)) (fun i => am _ _ (by omega) (by omega)) (fun i => am _ _ (by omega) (by omega))
  · exact l2.ext (af _ _ (by omega)) (fun i => am _ _ (by omega) (by omega)) (fun i => am _ _ (by omega) (by omega))
  · exact l4.ext (af _ _ (by omega)) (fun i => am _ _ (by omega) (by omega)) (fun i => am _ _ (by omega) (by omega))
  all_goals (rw [af _ _ (by omega)]; assumption)
theorem RC.l22 {s : mSt} {F F' : mF} {M M' : mM} {l : List Int32} (H : RC s F M) (a : frL 22 F M F' M') (b : IL 22 l F' M') : RC (wSw s l) F' M' := by
  obtain ⟨c1, c2, c3, c4, c5, c6, l1, l2, l3, l4, ⟨e1, e2, e3⟩, ⟨e4, e5, e6, e7⟩, ⟨e8, e9⟩, e10, e11⟩ := H
  have am := a.2
  have af := a.1
  refine ⟨fun i hi => by rw [am _ _ (by omega) (by omega)]; exact c1 i hi, fun i hi => by rw [am _ _ (by omega) (by omega)]; exact c2 i hi, fun i hi => by rw [am _ _ (by omega) (by omega)]; exact c3 i hi, fun i hi x y => by rw [am _ _ (by omega) (by omega)]; exact c4 i hi x y, fun i j hi x y z => by rw [am _ _ (by omega) (by omega)]; exact c5 i j hi x y z, fun k hk => by rw [am _ _ (by omega) (by omega)]; exact c6 k hk, ?_, ?_, ?_, b, ⟨?_, ?_, ?_⟩, ⟨?_, ?_, ?_, ?_⟩, ⟨?_, ?_⟩, ?_, ?_⟩
  · exact l1.ext (af _ _ (by omega)) (fun i => am _ _ (by omega) (by omega)) (fun i => am _ _ (by omega) (by omega))
  · exact l2.ext (af _ _ (by omega)) (fun i => am _ _ (by omega) (by omega)) (fun i => am _ _ (by omega) (by omega))
  · exact l3.ext (af _ _ (by omega)) (fun i => am _ _ (by omega) (by omega)) (fun i => am _ _ (by omega) (by omega))
  all_goals (rw [af _ _ (by omega)]; assumption)
/-- what the table answers -/
theorem RC.live {s : mSt} {F : mF} {M : mM} (H : RC s F M) {v : Int32} : f_X4_isLive F M v = if liveP s v then 1 else 0 := by
  unfold f_X4_isLive
  by_cases h1 : v < 0
  · rw [if_pos h1, if_neg (fun z => z.1.1 h1)]
  by_cases h2 : (100 : Int32) ≤ v
  · rw [if_neg h1, if_pos h2, if_neg (fun z => z.1.2 h2)]
  rw [if_neg h1, if_neg h2, H.1 v ⟨h1, h2⟩]
  by_cases h3 : sG s v = 0
  · rw [if_pos h3, if_neg (fun z => z.2 h3)]
  · rw [if_neg h3, if_pos ⟨⟨h1, h2⟩, h3⟩]
theorem RC.yng {s : mSt} {F : mF} {M : mM} (H : RC s F M) {v : Int32} : f_X4_inNursery F M v = if yngP s v then 1 else 0 := by
  unfold f_X4_inNursery
  by_cases h1 : v < 0
  · rw [if_pos h1, if_neg (fun z => z.1.1 h1)]
  by_cases h2 : (100 : Int32) ≤ v
  · rw [if_neg h1, if_pos h2, if_neg (fun z => z.1.2 h2)]
  rw [if_neg h1, if_neg h2, H.1 v ⟨h1, h2⟩]
  by_cases h3 : sG s v = 1
  · rw [if_pos h3, if_pos ⟨⟨h1, h2⟩, h3⟩]
  · rw [if_neg h3, if_neg (fun z => h3 z.2)]
theorem RC.old {s : mSt} {F : mF} {M : mM} (H : RC s F M) {v : Int32} : f_X4_inOldGeneration F M v = if oldP s v then 1 else 0 := by
  unfold f_X4_inOldGeneration
  by_cases h1 : v < 0
  · rw [if_pos h1, if_neg (fun z => z.1.1 h1)]
  by_cases h2 : (100 : Int32) ≤ v
  · rw [if_neg h1, if_pos h2, if_neg (fun z => z.1.2 h2)]
  rw [if_neg h1, if_neg h2, H.1 v ⟨h1, h2⟩]
  by_cases h3 : sG s v = 2
  · rw [if_pos h3, if_pos ⟨⟨h1, h2⟩, h3⟩]
  · rw [if_neg h3, if_neg (fun z => h3 z.2)]
theorem RC.wht {s : mSt} {F : mF} {M : mM} (H : RC s F M) (hp : ¬ sPh s = 0) {v : Int32} : f_X4_isWhiteOld F M v = if whtP s v then 1 else 0 := by
  unfold f_X4_isWhiteOld
  by_cases h1 : v < 0
  · rw [if_pos h1, if_neg (fun z => z.1.1 h1)]
  by_cases h2 : (100 : Int32) ≤ v
  · rw [if_neg h1, if_pos h2, if_neg (fun z => z.1.2 h2)]
  rw [if_neg h1, if_neg h2, H.1 v ⟨h1, h2⟩]
  by_cases h3 : sG s v = 2
  · rw [if_pos h3, H.2.2.2.1 v ⟨h1, h2⟩ h3 hp]
    by_cases h4 : sC s v = 0
    · rw [if_pos h4, if_pos ⟨⟨h1, h2⟩, h3, h4⟩]
    · rw [if_neg h4, if_neg (fun z => h4 z.2.2)]
  · rw [if_neg h3, if_neg (fun z => h3 z.2.1)]
theorem RC.fc {s : mSt} {F : mF} {M : mM} (H : RC s F M) {v : Int32} (hv : inR v) : f_X4_fieldsOf F M v = sN s v := by
  unfold f_X4_fieldsOf
  rw [if_neg hv.1, if_neg hv.2, H.2.2.1 v hv]
theorem RC.ag {s : mSt} {F : mF} {M : mM} (H : RC s F M) {v : Int32} (hv : inR v) : f_X4_ageOf F M v = sA s v := by
  unfold f_X4_ageOf
  rw [if_neg hv.1, if_neg hv.2, H.2.1 v hv]
theorem RC.sz {s : mSt} {F : mF} {M : mM} (H : RC s F M) {v : Int32} (hv : inR v) : f_X4_sizeOf F M v = 1 + sN s v := by
  unfold f_X4_sizeOf
  rw [if_neg hv.1, if_neg hv.2, H.2.2.1 v hv]
theorem RC.fld {s : mSt} {F : mF} {M : mM} (H : RC s F M) {v j : Int32} (hv : liveP s v) (h0 : ¬ j < 0) (h4 : ¬ (4 : Int32) ≤ j) (h1 : j < sN s v) : f_X4_fieldOf F M v j = sR s (4 * v + j) := by
  unfold f_X4_fieldOf
  rw [if_neg hv.1.1, if_neg hv.1.2, if_neg h0, if_neg h4]
  exact H.2.2.2.2.1 v j hv.1 hv.2 h0 h1
theorem RC.rt {s : mSt} {F : mF} {M : mM} (H : RC s F M) {k : Nat} (hk : k < 4) : f_X0_rootAt F M (nI k) = sO s (nI k) := by
  unfold f_X0_rootAt f_X0_hasRoot
  rw [if_neg (nI_pos (by omega)), if_neg (show ¬ (4 : Int32) ≤ nI k from nI_ge (a := k) (b := 4) hk (by omega)), if_neg (by decide)]
  exact H.2.2.2.2.2.1 k hk
theorem RC.paint {s : mSt} {F : mF} {M : mM} (H : RC s F M) (v x : Int32) : RC (wC s (up1 (sC s) v x)) F (uM M 6 v x) := by
  obtain ⟨c1, c2, c3, c4, c5, c6, l1, l2, l3, l4, e⟩ := H
  refine ⟨c1, c2, c3, fun i hi hg hp => ?_, c5, c6, l1, l2, l3, l4, e⟩
  rw [uM_at]
  show _ = if i = v then x else sC s i
  rw [c4 i hi hg hp]
/-- shade -/
theorem RC.shade {s : mSt} {F : mF} {M : mM} (H : RC s F M) (hI : Inv s) (hp : sPh s = 1) (v : Int32) : RC (shd s v) (gF_X2_shade F M v) (gM_X2_shade F M v) ∧ frC F M (gF_X2_shade F M v) (gM_X2_shade F M v) := by
  have hp0 : ¬ sPh s = 0 := by rw [hp]; decide
  unfold gF_X2_shade gM_X2_shade shd
  rw [H.wht hp0]
  by_cases hw : whtP s v
  · simp only [if_pos hw, if_neg (show ¬ (1 : Int32) = 0 by decide)]
    unfold gM_X4_paint
    rw [if_neg hw.1.1, if_neg hw.1.2]
    have h1 := H.paint v 1
    have h2 := (h1.2.2.2.2.2.2.2.2.1).add v
    have hq : v ∉ sQu s := fun z => by
      have := (hI.2.2.2.2.2.2.2.1.2.1 v z).2
      rw [hw.2.2] at this
      exact absurd this (by decide)
    have e : addL (sQu (wC s (up1 (sC s) v 1))) v = sQu s ++ [v] := if_pos ⟨hw.1, hq⟩
    rw [e] at h2
    refine ⟨h1.l19 h2.2 h2.1, ?_⟩
    refine frC.tr (F1 := F) (M1 := uM M 6 v 1) ⟨fun _ _ _ => rfl, fun a i ha => uM_ne (by omega)⟩ (h2.2.c (by omega) (by omega))
  · simp only [if_neg hw, if_pos (show (0 : Int32) = 0 from rfl)]
    exact ⟨H, frC.rf⟩
