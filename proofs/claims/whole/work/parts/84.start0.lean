/-! ===== the law's start: classes, texts, static rows ===== -/
def mTm (i : Nat) : Term := ([Term.string RX6 53, Term.string RX6 246, Term.string RX6 248, Term.string RX6 253, Term.string RX6 255, Term.string RX5 92, Term.string RX5 94, Term.string RX5 96, Term.string RX5 98, Term.string RX5 100, Term.string RX5 102] : List Term).getD i (.int 0)
def fl1 : List Cond := flatC (Jvm.Cond.and given_1 narrow_1)
theorem fl_ex : ∀ i : Fin 11, Cond.exactly (mTm i.1) "java/lang/String" ∈ fl1 := by decide +kernel
theorem fl_co : ∀ i : Fin 11, Cond.eq (.field (mTm i.1) "java/lang/String" "coder" "B") (.int 0) ∈ fl1 := by decide +kernel
theorem fl_ar : ∀ i : Fin 11, Cond.arrayOf (.field (mTm i.1) "java/lang/String" "value" "[B") .byte ∈ fl1 := by decide +kernel
theorem fl_le : ∀ i : Fin 11, Cond.eq (.length (.field (mTm i.1) "java/lang/String" "value" "[B")) (.int (Int32.ofNat (mLen.getD i.1 0))) ∈ fl1 := by decide +kernel
theorem fl_el : ∀ i : Fin 11, ∀ j : Fin 6, j.1 < mLen.getD i.1 0 → Cond.eq (.elem (.field (mTm i.1) "java/lang/String" "value" "[B") (.int (Int32.ofNat j.1))) (.int ((mByt.getD i.1 []).getD j.1 0)) ∈ fl1 := by decide +kernel
theorem fl_ne : ∀ i j : Fin 11, i ≠ j → Cond.not (Cond.eq (mTm i.1) (mTm j.1)) ∈ fl1 ∨ Cond.not (Cond.eq (mTm j.1) (mTm i.1)) ∈ fl1 := by decide +kernel
theorem fl_ln : ∀ i : Fin 11, mLen.getD i.1 0 ≤ 6 := by decide +kernel
theorem fl_row {f : Nat → Cond} {k n : Nat} (h : (fl1.drop k).take n = (List.range n).map f) {j : Nat} (hj : j < n) : f j ∈ fl1 := List.mem_of_mem_drop (List.mem_of_mem_take (by rw [h]; exact List.mem_map.mpr ⟨j, List.mem_range.mpr hj, rfl⟩))
set_option maxRecDepth 100000 in
theorem fl_d1 : (fl1.drop 12).take 100 = (List.range 100).map (fun j => Cond.eq (.elem (.static RJ6 "DigitOnes" "[B") (.int (Int32.ofNat j))) (.int (mOne j))) := by rfl
set_option maxRecDepth 100000 in
theorem fl_d2 : (fl1.drop 115).take 100 = (List.range 100).map (fun j => Cond.eq (.elem (.static RJ6 "DigitTens" "[B") (.int (Int32.ofNat j))) (.int (mTen j))) := by rfl
set_option maxRecDepth 100000 in
theorem fl_ag : (fl1.drop 218).take 6 = (List.range 6).map (fun j => Cond.eq (.elem (.static RX5 "ARGUMENT_COUNTS" "[I") (.int (Int32.ofNat j))) (.int (mArg.getD j 0))) := by rfl
theorem fl_in : ∀ a : Fin 10, Cond.instantiable (mcC a.1) (mcN a.1) ∈ tables_1 := by decide +kernel
theorem fl_ml : ∀ q ∈ mMthT, q.2.2.2.2 = 6 ∨ q.2.2.2.2 = 7 → Cond.methodLinkNest (mcl q.1) q.2.1 (mnm q.2.2.1) RX6 ∈ tables_1 := by decide +kernel
theorem fl_ld : ∀ q ∈ mLdcT, q.2.2.2.2 = 0 → Cond.stringRef (mcl q.1) q.2.1 (mTexts.getD q.2.2.1 "") ∈ tables_1 ∧ q.2.2.1 < 11 ∧ (Term.string (mcl q.1) q.2.1 = mTm q.2.2.1 ∨ (q.2.2.1 = 0 ∧ Cond.eq (mTm 0) (Term.string (mcl q.1) q.2.1) ∈ fl1)) := by decide +kernel
def adT (adK adV : Nat → Nat) (t1 t2 t3 b t4 h : Nat) : Nat := if h < 1000011 then adK (h - 1000000) else if h < 1000111 then adV (h - 1000100) else if h = 1000200 then t1 else if h = 1000201 then t2 else if h = 1000202 then t3 else if h = 1000300 then b else t4
theorem eq_ev {args : Array Value} {s : State} {t u : Term} {a : Nat} (h : (Cond.eq t u).before args s = true) (ht : t.eval args s none [] s = some (.ref a)) : u.eval args s none [] s = some (.ref a) := by
  simp only [Cond.before, Cond.holds, Cond.value, ht] at h
  cases hv : u.eval args s none [] s with
  | none => simp [hv] at h
  | some w =>
    rw [hv] at h
    cases w <;> simp_all
theorem tb_in {w : Cond} (h : w ∈ tables_1) : w ∈ lw_tbl := List.mem_append_right _ h
theorem arr_of {args : Array Value} {s : State} {ty : FieldType} (h : (Cond.arrayClass ty).before args s = true) (hn : ∀ C, ty ≠ .object C) : ∃ c, ArrOfT s c ty ∧ va_RA s c ty := by
  obtain ⟨c, k, comp, h1, h2, h3⟩ := Cond.arrayClass_spec h
  refine ⟨c, fun n z => ⟨fun k h => (by cases h), k, h2, comp, h3⟩, ?_⟩
  unfold va_RA
  cases ty <;> first | exact absurd rfl (hn _) | exact h1
