/-! ===== the small machine's calls are the machine's ===== -/
theorem mins_arg {ad : Nat → Nat} : ∀ (vs : List Value) (k i : Nat) (v : Value), mget (mins vs) i = some v → (k + i, mtr ad v) ∈ lv_args k (vs.map (mtr ad))
  | [], k, i, v, h => by simp [mins, mget] at h
  | u :: vs, k, i, v, h => by
    have ih := mins_arg (ad := ad) vs
    have one : u.category = 1 → mins (u :: vs) = some u :: mins vs := by
      intro hc
      cases u <;> first | rfl | (simp [Value.category] at hc)
    have two : u.category = 2 → mins (u :: vs) = some u :: none :: mins vs := by
      intro hc
      cases u <;> first | rfl | (simp [Value.category] at hc)
    show _ ∈ lv_args k (mtr ad u :: vs.map (mtr ad))
    rw [lv_args]
    rcases lv_cat u with hc | hc
    · rw [one hc] at h
      cases i with
      | zero => cases h; exact List.mem_cons_self
      | succ i =>
        refine List.mem_cons_of_mem _ ?_
        have := ih (k + 1) i v h
        rw [mtr_cat, hc]
        rw [show k + (i + 1) = k + 1 + i by omega]
        simpa using this
    · rw [two hc] at h
      match i, h with
      | 0, h => cases h; exact List.mem_cons_self
      | 1, h => cases h
      | i + 2, h =>
        refine List.mem_cons_of_mem _ ?_
        have := ih (k + 2) i v h
        rw [mtr_cat, hc]
        rw [show k + (i + 2) = k + 2 + i by omega]
        simpa using this
theorem mins_len {ad : Nat → Nat} : ∀ (vs : List Value), (lg_sl (vs.map (mtr ad))).length = (mins vs).length
  | [] => rfl
  | u :: vs => by
    have ih := mins_len (ad := ad) vs
    have e : lg_sl ((u :: vs).map (mtr ad)) = (if (mtr ad u).category = 2 then [.val (mtr ad u), .second] else [.val (mtr ad u)]) ++ lg_sl (vs.map (mtr ad)) := by simp [lg_sl]
    rw [e, List.length_append, ih, mtr_cat]
    cases u <;> simp [mins, Value.category] <;> omega
theorem mpad_le : ∀ (n : Nat) (l l' : mLs), mpad n l = some l' → l.length ≤ n
  | 0, [], l', h => Nat.le_refl _
  | 0, _ :: _, l', h => by cases h
  | n + 1, [], l', h => Nat.zero_le _
  | n + 1, a :: r, l', h => by
    unfold mpad at h
    cases e : mpad n r with
    | none => rw [e] at h; cases h
    | some l => exact Nat.succ_le_succ (mpad_le n r l e)
section MR
variable {p : Program} {l : Launch} {e : Env} {R : Room} {s : State} {m : MethodId} {args : Array Value} {below : List Frame} {meth : Method} {c : Code} {Q : State → Prop}
variable {cc : ByteArray} {own nl : Nat} {D : va_G} {dA : Nat → ClassId} {ad0 : Nat → Nat} {E : mN} {A : Nat → Prop} {n0 s0 : Nat}
set_option maxHeartbeats 4000000 in
theorem mrun_sound {d : Nat} {ini : Bool} {ret : Option FieldType} {T : mT} {res : mRs} (C : mCtx p s m args c cc own nl D dA ad0 E A) (hM : mMW) (hC : mCallOK l d) (hRf : d + 1 ≤ R.frames) (hRl : 40 * d + 40 ≤ R.locals) (hini : ini = true → meth.name = "<init>") (hT : mTC own ini ret cc T)
    (hRc : res.2.1.1 - n0 ≤ R.cells) (hRs : res.2.1.2.1 - s0 ≤ R.slots) (hB : res.2.1.1 ≤ mB)
    (hret : ∀ (i : Instr) (pc : Nat) (arr : Array Slot) (H : Heap) (locs : List Loc) (ad : Nat → Nat) (ls : mLs) (st : List Value), decode cc pc = .ok (i, 1) → mRetI ret i res.1 st → mPt s D dA ad0 E A n0 nl H locs ad res.2 ls arr → W p l e R s m args below meth c H locs (res.2.1.1 - n0) (res.2.1.2.1 - s0) Q (F0 m pc arr (st.map (mtr ad)))) :
    ∀ (n pc : Nat) (ls : mLs) (st : List Value) (w : mW) (arr : Array Slot) (H : Heap) (locs : List Loc) (ad : Nat → Nat), mrun (mcall mmk mrc d) mrc T n pc ls st w res → mPt s D dA ad0 E A n0 nl H locs ad w ls arr → okW w → okS w.1.1 st → okL w.1.1 ls → n0 ≤ w.1.1 → s0 ≤ w.1.2.1 →
      W p l e R s m args below meth c H locs (w.1.1 - n0) (w.1.2.1 - s0) Q (F0 m pc arr (st.map (mtr ad)))
  | 0, _, _, _, _, _, _, _, _, h, _, _, _, _, _, _ => h.elim
  | n + 1, pc, ls, st, w, arr, H, locs, ad, h, P, hw, hos, hol, hn0, hs0 => by
    obtain ⟨r, w2⟩ := res
    have hk := mrun_keeps (mcall_keeps mmk mrc d) (n + 1) pc ls st w r w2 h hw hos hol
    have hk1 := hk.1.1
    have hk2 := hk.1.2.1
    unfold mrun at h
    cases he : mlk2 T pc with
    | none => rw [he] at h; exact h.elim
    | some en =>
      rw [he] at h
      have h1 := msem_str (mcall_keeps mmk mrc d) hw hos hol h
      refine ms_step C P ⟨hw, hos, hol, hn0, hs0, Nat.le_trans hk1 hB⟩ ?_ ?_ hM hC hRf hRl (by dsimp only at hRc; omega) (by dsimp only at hRs; omega) hini (hT.at he) h1 ?_
      · intro pc' ls' st' w' arr' H' locs' ad' hK P'
        obtain ⟨hK, g1, g2, g3, g4, g5⟩ := hK
        have g11 := g1.1
        have g12 := g1.2.1
        exact mrun_sound C hM hC hRf hRl hini hT hRc hRs hB hret n pc' ls' st' w' arr' H' locs' ad' hK P' g2 g3 g4 (by omega) (by omega)
      · intro pc' ls' st' w' hK
        obtain ⟨hK, g1, g2, g3, g4, g5⟩ := hK
        have z := mrun_keeps (mcall_keeps mmk mrc d) n pc' ls' st' w' r w2 hK g2 g3 g4
        have z1 := z.1.1
        have z2 := z.1.2.1
        dsimp only at hRc hRs hB
        exact ⟨by omega, by omega, by omega⟩
      · intro i r' hd hrt hri
        obtain ⟨e1, e2, e3⟩ := hrt
        cases e1
        exact hret i pc arr H locs ad ls st hd hri P
end MR
set_option maxHeartbeats 8000000 in
theorem mcall_ok (hM : mMW) (hQ : ∀ (k : Nat) (q : mQ), mmk k = some q → mQC q) (l : Launch) : ∀ d, mCallOK l d
  | 0 => fun _ _ _ _ _ _ h => h.elim
  | d + 1 => by
    have IH := mcall_ok hM hQ l d
    intro k q vs w res hmk hcall hw hvs hB D dA ad sz
    obtain ⟨q', ls, n, hmk', hpad, hrun⟩ := hcall
    cases hmk.symm.trans hmk'
    obtain ⟨c1, c2, c3, c4⟩ := hQ k q hmk
    obtain ⟨r, w2⟩ := res
    have hol : okL w.1.1 ls := fun i v hv => mins_ok vs hvs i v ((mpad_get _ _ _ hpad).2 i v hv)
    have hle := (mrun_keeps (mcall_keeps mmk mrc d) n 0 ls [] w r w2 hrun hw (fun v hv => by cases hv) hol).1
    unfold mMet
    refine Met.ofW (cc := q.2.1) (maxL := q.2.2.1) (ret := q.2.2.2.1) c1 rfl ?_
    intro p e s m args below meth c s₁ B hml hv
    obtain ⟨rfl, hsz, hP, hD0, hSE⟩ := hv
    have hx := B.exec
    have hb := B.bytes
    have hr := B.returns
    have hts0 := atoms_spec (ws := Cond.code q.1 q.2.1 q.2.2.1 q.2.2.2.1 :: gtb) B.pre
    have hts : ∀ w ∈ gtb, w.before _ s = true := fun w hw => hts0 w (List.mem_cons_of_mem _ hw)
    have hown : s.vm.findClass (mcl q.2.2.2.2.1) = some m.cls := by rw [c2]; exact findClass_of_methodNamed B.named
    have hlocks := B.notSynchronized
    have hin : decide (q.1.name = "<init>") = true → meth.name = "<init>" := fun h => ((name_of_methodNamed B.named B.method).1).trans (of_decide_eq_true h)
    subst hsz
    have hD := hD0.self (sz := s.heap.size)
    have hA : ∀ z : Nat, s.heap.size ≤ z → va_A (mwl dA ad w) s.heap.size z := fun z h => Or.inr h
    have hlen : (lg_sl (vs.map (mtr ad))).length ≤ q.2.2.1 := by rw [mins_len]; exact mpad_le _ _ _ hpad
    have hl := lv_entry (vs.map (mtr ad)) (n := q.2.2.1) hlen
    rw [lg_entry_eq]
    generalize (lg_sl (vs.map (mtr ad)) ++ List.replicate (q.2.2.1 - (lg_sl (vs.map (mtr ad))).length) Slot.unset).toArray = arr at hl ⊢
    have hmlv : mlv ad ls arr := ⟨by rw [hl.1, (mpad_get _ _ _ hpad).1], hl.2.1, fun i v hv => by
      have := hl.2.2 _ (mins_arg (ad := ad) vs 0 i v ((mpad_get _ _ _ hpad).2 i v hv))
      simpa using this⟩
    have C : mCtx p s m (vs.map (mtr ad)).toArray c q.2.1 q.2.2.2.2.1 q.2.2.1 D dA ad w.1.2.2.2.2 (va_A (mwl dA ad w) s.heap.size) := ⟨hx, hb, hml, hown, hts, hSE, hA⟩
    have P : mPt s D dA ad w.1.2.2.2.2 (va_A (mwl dA ad w) s.heap.size) w.1.1 q.2.2.1 s.heap [] ad w ls arr := ⟨va_S.rf, hP, hD, fun _ _ => rfl, hmlv, (mpad_get _ _ _ hpad).1, rfl⟩
    have key := mrun_sound (p := p) (l := l) (e := e) (R := mrm (d + 1) (w2.1.1 - w.1.1) (w2.1.2.1 - w.1.2.1)) (below := below) (meth := meth) (Q := MQ below (mPost D dA ad w (r, w2) (va_A (mwl dA ad w) s.heap.size)) (vs.map (mtr ad)).toArray s (w2.1.1 - w.1.1) (w2.1.2.1 - w.1.2.1) (va_A (mwl dA ad w) s.heap.size)) (s0 := w.1.2.1) (T := q.2.2.2.2.2.2) (res := (r, w2))
      C hM IH (Nat.le_refl _) (by show 40 * d + 40 ≤ 40 * (d + 1); omega) hin c4 (Nat.le_refl _) (Nat.le_refl _) hB (fun i pc arr H locs ad' ls st hd hri P' => by
        obtain ⟨hS, hP', hD', hext, -, -, -⟩ := P'
        rcases hri with ⟨rfl, x, rfl, e1, ty, e2, e3⟩ | ⟨rfl, x, rfl, e1, e2⟩ | ⟨rfl, x, rfl, e1, ty, e2, e3⟩ | ⟨rfl, rfl, e1, e2⟩
        · exact W.zret hx hb (hr.trans e2) e3 (fun t ht hW => ⟨⟨ad', hext, by rw [show (r, w2).1 = r from rfl] at e1; rw [e1]; rfl, by rw [ht]; exact hP', hD'⟩, hS.F ht⟩) hS.2.2 hd
        · exact W.lret hx hb (hr.trans e2) (fun t ht hW => ⟨⟨ad', hext, by rw [show (r, w2).1 = r from rfl] at e1; rw [e1]; rfl, by rw [ht]; exact hP', hD'⟩, hS.F ht⟩) hS.2.2 hd
        · exact W.aret hx hb (hr.trans e2) e3 (Or.inr ⟨_, rfl⟩) (fun t ht hW => ⟨⟨ad', hext, by rw [show (r, w2).1 = r from rfl] at e1; rw [e1]; rfl, by rw [ht]; exact hP', hD'⟩, hS.F ht⟩) hS.2.2 hd
        · exact W.vret hx hb (hr.trans e2) (fun t ht hW => ⟨⟨ad', hext, by rw [show (r, w2).1 = r from rfl] at e1; rw [e1]; rfl, by rw [ht]; exact hP', hD'⟩, hS.F ht⟩) hS.2.2 hd)
      n 0 ls [] w arr s.heap [] ad hrun P hw (fun v hv => by cases hv) hol (Nat.le_refl _) (Nat.le_refl _)
    rw [Nat.sub_self, Nat.sub_self] at key
    exact key
