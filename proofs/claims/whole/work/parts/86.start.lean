theorem mse_start {s : State} {b L : Nat} {xs : Nat → Int32} (hts : ∀ w ∈ lw_tbl, w.before #[Value.ref b] s = true) (hgv : (Jvm.Cond.and given_1 narrow_1).before #[Value.ref b] s = true) (hX : va_X b L xs s s.heap) (hbl : b < s.heap.size) :
    ∃ (D : va_G) (dA : Nat → ClassId) (ad : Nat → Nat) (z : Value), ad 1000300 = b ∧ (z = .null ∨ z = .ref 1000400) ∧ mSE D dA ad (L, xs, z) (fun q => s.heap.size ≤ q) s s.heap := by
  have hfl : ∀ c ∈ fl1, c.before #[Value.ref b] s = true := flat_of_before _ hgv
  have hA : ∀ a : Nat, a < s.heap.size → ¬ (fun q => s.heap.size ≤ q) a := fun a h => Nat.not_le.mpr h
  -- classes
  have hk : ∀ a : Nat, ∃ q : ClassId × (Nat → Nat), a < 10 → u_Kn s (mcC a) (mcT a) (mcN a) q.1 q.2 := fun a => by
    by_cases h : a < 10
    · obtain ⟨cC, iS, hK⟩ := u_known (C := mcC a) (T := mcT a) (N := mcN a) (n := mcN a) (mtbl_hts hts) (mc_in a h) (hts _ (tb_in (fl_in ⟨a, h⟩)))
      exact ⟨(cC, iS), fun _ => hK⟩
    · exact ⟨(default, fun _ => 0), fun q => absurd q h⟩
  obtain ⟨f, hf⟩ := Classical.axiomOfChoice hk
  obtain ⟨ci, hi1, hi2⟩ := arr_of (ty := .int) (hts (.arrayClass .int) (tb_in (by decide +kernel))) (fun C q => by cases q)
  obtain ⟨cz, hz1, hz2⟩ := arr_of (ty := .boolean) (hts (.arrayClass .boolean) (tb_in (by decide +kernel))) (fun C q => by cases q)
  obtain ⟨cb, hb1, hb2⟩ := arr_of (ty := .byte) (hts (.arrayClass .byte) (tb_in (by decide +kernel))) (fun C q => by cases q)
  -- texts
  obtain ⟨adK, adV, hS, hev⟩ := vk_Sof (args := #[Value.ref b]) (s := s) (N := 11) (tm := mTm) (len := mLen) (byt := mByt) (A := fun q => s.heap.size ≤ q) (fun i hi => by have := fl_ln ⟨i, hi⟩; exact Nat.lt_of_le_of_lt this (by decide)) (fun i hi => hfl _ (fl_ex ⟨i, hi⟩)) (fun i hi => hfl _ (fl_co ⟨i, hi⟩)) (fun i hi => hfl _ (fl_ar ⟨i, hi⟩)) (fun i hi => hfl _ (fl_le ⟨i, hi⟩)) (fun i hi j hj => hfl _ (fl_el ⟨i, hi⟩ ⟨j, Nat.lt_of_lt_of_le hj (fl_ln ⟨i, hi⟩)⟩ hj)) (fun i j hi hj hij => (fl_ne ⟨i, hi⟩ ⟨j, hj⟩ (fun q => hij (congrArg Fin.val q))).imp (fun h => hfl _ h) (fun h => hfl _ h)) hA
  -- static rows
  obtain ⟨t1, e1, T1⟩ := va_Tof (tm := .static RX5 "ARGUMENT_COUNTS" "[I") (ty := .int) (N := 6) (f := fun j => .int (mArg.getD j 0)) (A := fun q => s.heap.size ≤ q) (by decide) (hfl _ (by decide +kernel)) (va_eqt (hfl _ (by decide +kernel))) (fun j hj => va_eqt (hfl _ (fl_row fl_ag hj))) hA
  obtain ⟨t2, e2, T2⟩ := va_Tof (tm := .static RJ6 "DigitOnes" "[B") (ty := .byte) (N := 100) (f := fun j => .int (mOne j)) (A := fun q => s.heap.size ≤ q) (by decide) (hfl _ (by decide +kernel)) (va_eqt (hfl _ (by decide +kernel))) (fun j hj => va_eqt (hfl _ (fl_row fl_d1 hj))) hA
  obtain ⟨t3, e3, T3⟩ := va_Tof (tm := .static RJ6 "DigitTens" "[B") (ty := .byte) (N := 100) (f := fun j => .int (mTen j)) (A := fun q => s.heap.size ≤ q) (by decide) (hfl _ (by decide +kernel)) (va_eqt (hfl _ (by decide +kernel))) (fun j hj => va_eqt (hfl _ (fl_row fl_d2 hj))) hA
  have hq : ∃ (z : Value) (t4 : Nat), (z = .null ∨ z = .ref 1000400) ∧ (Term.static RJ3 "SIOOBE_FORMATTER" "Ljava/util/function/BiFunction;").eval #[Value.ref b] s none [] s = some (mtr (fun _ => t4) z) := by
    have h : (Cond.isRef (.static RJ3 "SIOOBE_FORMATTER" "Ljava/util/function/BiFunction;")).before #[Value.ref b] s = true := hfl _ (by decide +kernel)
    cases hv : (Term.static RJ3 "SIOOBE_FORMATTER" "Ljava/util/function/BiFunction;").eval #[Value.ref b] s none [] s with
    | none => simp [Cond.before, Cond.holds, Cond.value, hv] at h
    | some w =>
      simp only [Cond.before, Cond.holds, Cond.value, hv] at h
      cases w with
      | null => exact ⟨.null, 0, Or.inl rfl, rfl⟩
      | ref t => exact ⟨.ref 1000400, t, Or.inr rfl, rfl⟩
      | _ => simp at h
  obtain ⟨z, t4, hz, ez⟩ := hq
  have aK : ∀ i, i < 11 → adT adK adV t1 t2 t3 b t4 (mB + i) = adK i := fun i hi => by
    show (if 1000000 + i < 1000011 then adK (1000000 + i - 1000000) else _) = adK i
    rw [if_pos (by omega), Nat.add_sub_cancel_left]
  have aV : ∀ i, i < 11 → adT adK adV t1 t2 t3 b t4 (mB + 100 + i) = adV i := fun i hi => by
    show (if 1000100 + i < 1000011 then _ else if 1000100 + i < 1000111 then adV (1000100 + i - 1000100) else _) = adV i
    rw [if_neg (by omega), if_pos (by omega), Nat.add_sub_cancel_left]
  refine ⟨(fun a => (f a).1, fun a => (f a).2), fun t => if t = 1 then ci else if t = 2 then cz else cb, adT adK adV t1 t2 t3 b t4, z, rfl, hz, ⟨?_, ?_⟩, ?_, ?_, ?_, ?_, ?_, ?_, ?_, ?_, ?_, T1, T2, T3, ?_⟩
  · intro c q hq
    have hc : c < 10 := by
      have := (List.getElem?_eq_some_iff.mp hq).1
      exact this
    rw [mc_at c hc] at hq
    cases hq
    exact hf c hc
  · intro k q hq
    match k, hq with
    | 0, hq => cases hq; exact ⟨hi1, hi2⟩
    | 1, hq => cases hq; exact ⟨hz1, hz2⟩
    | 2, hq => cases hq; exact ⟨hb1, hb2⟩
    | k + 3, hq => simp at hq
  · exact fun q hq hc => va_Nw.of rfl (hts _ (tb_in (fl_ml q hq hc)))
  · exact va_Nw.of rfl (hts (.castable "[B" "java/lang/Cloneable") (tb_in (by decide +kernel)))
  · refine ⟨fun i hi => ?_, fun i j hi hj e => hS.2 i j hi hj ?_⟩
    · have h := hS.1 i hi
      rw [← aK i hi, ← aV i hi] at h
      exact h
    · have e : adT adK adV t1 t2 t3 b t4 (mB + i) = adT adK adV t1 t2 t3 b t4 (mB + j) := e
      rw [aK i hi, aK j hj] at e
      exact e
  · intro q hq hc
    obtain ⟨g1, g2, g3⟩ := fl_ld q hq hc
    refine vk_R.of (A := #[Value.ref b]) (hts _ (tb_in g1)) ?_
    rw [aK _ g2]
    rcases g3 with g3 | ⟨g3, g4⟩
    · rw [g3]; exact hev _ g2
    · rw [g3]
      exact eq_ev (hfl _ g4) (hev 0 (by omega))
  · exact va_Zof (hts _ (tb_in (by decide +kernel))) (hts _ (tb_in (by decide +kernel))) (va_eqt (hfl _ (by decide +kernel))) hA
  · exact va_Zof (hts _ (tb_in (by decide +kernel))) (hts _ (tb_in (by decide +kernel))) e1 hA
  · exact va_Zof (hts _ (tb_in (by decide +kernel))) (hts _ (tb_in (by decide +kernel))) e2 hA
  · exact va_Zof (hts _ (tb_in (by decide +kernel))) (hts _ (tb_in (by decide +kernel))) e3 hA
  · refine va_Zof (hts _ (tb_in (by decide +kernel))) (hts _ (tb_in (by decide +kernel))) (ez.trans ?_) hA
    rcases hz with rfl | rfl <;> rfl
  · obtain ⟨scr, h1, h2, h3, h4, h5⟩ := hX
    exact ⟨scr, h1, h2, h3, by rw [h4]; exact Nat.le_refl _, by rw [h4], h5, Nat.not_le.mpr hbl⟩
/-! THE CLAIM OUT OF ONE WALK OF THE LAW'S BODY. Your part is whole_start (and what it stands on); all else here is the same for every law, but numbers. -/
def R_law : String := "GenerationalHeapLaw"
def lw_P (b : Addr) (xs : List Int32) (args : Array Value) (s : State) : Prop := args = #[.ref b] ∧ s.IntsAt b xs ∧ xs.length ≤ 2048 ∧ (Jvm.Cond.and given_1 narrow_1).before args s = true
def lw_Q (_ : Array Value) (s : State) (o : Outcome) (t : State) : Prop := o = .returned (some (.int 1)) ∧ Framed s o t [] 600000 7302250
def lw_Z (below : List Frame) (a : Array Value) (s : State) : State → Prop := fun t => ∃ o, t.status = .running ∧ Ended t below o ∧ lw_Q a s o t
/-- the law's own end, with 1 on the stack, nothing written that was there before, its room as the claim has it -/
theorem lw_ret {p : Program} {l : Launch} {e : Env} {s : State} {m : MethodId} {below : List Frame} {meth : Method} {c : Code} {b : Nat} (hx : p.tables.exec = Jvm.exec) (hb : c.code = code) (hr : meth.sig.returnType = ret) (hlocks : meth.locks = false) {pc : Nat} {H : Heap} {ls : Array Slot} (hdg : decode code pc = .ok (.ireturn, 1)) : W p l e room_1 s m #[Value.ref b] below meth c H [] 600000 7302250 (lw_Z below #[Value.ref b] s) (F0 m pc ls [.int 1]) := by
  intro T hT X
  obtain ⟨fs, hret, hrun, hended, hW, hframe⟩ := X.leave (v := some (.int 1)) (hlocks := hlocks) (fun h => by rw [hr] at h; cases h)
  have hmeth' : T.vm.method? m = some meth := X.method'
  refine ⟨T.setFrames fs, ?_, .returned (some (.int 1)), hrun, hended, rfl, ⟨_, rfl⟩, hW, hframe⟩
  jvm_step X.here [X.here.top, hx, hb, hdg, hmeth', hr, ret, narrow_b1]
  (try refine ⟨rfl, ?_⟩); (try refine ⟨rfl, ?_⟩)
  first | (intro acts; rw [hret _ acts rfl rfl rfl]) | rw [hret _ _ rfl rfl rfl]
  exact Steps.refl _
/-- what holds at the law's entry: the machine, the code, the tables' words (any of lw_tbl by 'hts w (by decide +kernel)'), the script of L ints xs at the cell b, what the Statement gives of the start (any of its parts by flat_of_before) -/
def lw_At (p : Program) (s : State) (m : MethodId) (meth : Method) (c : Code) (b L : Nat) (xs : Nat → Int32) : Prop :=
  p.tables.exec = Jvm.exec ∧ c.code = code ∧ meth.sig.returnType = ret ∧ c.maxLocals = 4 ∧ s.vm.findClass R_law = some m.cls ∧ (∀ w ∈ lw_tbl, w.before #[Value.ref b] s = true) ∧ va_X b L xs s s.heap ∧ b < s.heap.size ∧ meth.locks = false ∧ (Jvm.Cond.and given_1 narrow_1).before #[Value.ref b] s = true
set_option maxHeartbeats 4000000 in
set_option maxRecDepth 100000 in
theorem whole_start {p : Program} {e : Env} {s : State} {m : MethodId} {below : List Frame} {meth : Method} {c : Code} (l : Launch) (hflags : l.flags = flags0) {b L : Nat} {xs : Nat → Int32} (hL : L ≤ 2048) (C0 : lw_At p s m meth c b L xs) : W p l e room_1 s m #[Value.ref b] below meth c s.heap [] 0 0 (lw_Z below #[Value.ref b] s) (entryFrame m ([Value.ref b] : List Value).toArray 4) := by
  obtain ⟨hx, hb, hr, hml, hown, hts, hX, hbl, hlocks, hgv⟩ := id C0
  obtain ⟨D, dA, ad, z, had, hz, hSE⟩ := mse_start hts hgv hX hbl
  have hs : (∃ a, ((L, xs, z) : mN).2.2 = .ref a) ∨ ((L, xs, z) : mN).2.2 = .null := hz.elim Or.inr (fun q => Or.inl ⟨_, q⟩)
  obtain ⟨n, r, w', hrun, hr1, hc1, hs1⟩ := law_all (E := (L, xs, z)) (kt := fun _ => (0, 0)) (F := fun _ _ => 0) (M := fun _ _ => 0) (L := fun _ _ => 0) (Q := fun r w => r = some (.int 1) ∧ w.1.1 ≤ 600000 ∧ w.1.2.1 ≤ 7302250) hL hs (fun Y F M L a b => ⟨rfl, a, b⟩)
  subst hr1
  have hl := lv_entry ([.ref b]) (n := 4) (Nat.le_of_ble_eq_true rfl)
  rw [lg_entry_eq]
  generalize (lg_sl ([.ref b]) ++ List.replicate (4 - (lg_sl ([.ref b])).length) Slot.unset).toArray = arr at hl ⊢
  have hmlv : mlv ad [some (.ref 1000300), none, none, none] arr := ⟨hl.1, hl.2.1, fun i v hv => by
    match i, hv with
    | 0, hv =>
      cases hv
      have := hl.2.2 (0, .ref b) List.mem_cons_self
      show arr[0]? = some (.val (.ref (ad 1000300)))
      rw [had]
      exact this
    | 1, hv => cases hv
    | 2, hv => cases hv
    | 3, hv => cases hv
    | i + 4, hv => cases hv⟩
  have C : mCtx p s m #[Value.ref b] c code 0 4 D dA ad (L, xs, z) (fun q => s.heap.size ≤ q) := ⟨hx, hb, hml, hown, mtbl_hts hts, hSE, fun _ h => h⟩
  have P : mPt s D dA ad (L, xs, z) (fun q => s.heap.size ≤ q) 0 4 s.heap [] ad ((0, 0, mKb (fun _ => (0, 0)), R0, (L, xs, z)), fun _ _ => 0, fun _ _ => 0, fun _ _ => 0) [some (.ref 1000300), none, none, none] arr := ⟨va_S.rf, (fun k q h => by cases h), ⟨(fun i j p q h => by cases h), (fun k q h => by cases h)⟩, fun _ _ => rfl, hmlv, rfl, rfl⟩
  have hB : w'.1.1 ≤ mB := Nat.le_trans hc1 (by decide)
  have key := mrun_sound (p := p) (l := l) (e := e) (R := room_1) (below := below) (meth := meth) (Q := lw_Z below #[Value.ref b] s) (d := 11) (ini := false) (ret := some .boolean) (T := tL_law) (res := (some (.int 1), w')) (n0 := 0) (s0 := 0)
    C mMW_ok (mcall_ok mMW_ok (fun k q h => mmk_c h) l 11) (by decide) (by decide) (fun h => by cases h) htL_law (Nat.le_trans (Nat.sub_le _ _) hc1) (Nat.le_trans (Nat.sub_le _ _) hs1) hB (fun i pc arr H locs ad' ls st hd hri P' => by
      have hS := P'.1
      rcases hri with ⟨rfl, x, rfl, e1, ty, e2, e3⟩ | ⟨rfl, x, rfl, e1, e2⟩ | ⟨rfl, x, rfl, e1, ty, e2, e3⟩ | ⟨rfl, rfl, e1, e2⟩
      · cases e1
        refine va_forget (fun q hq => hS.2.2 q hq) ?_
        refine W.widen (k := 600000) (n := 7302250) (Nat.le_trans (Nat.sub_le _ _) hc1) (Nat.le_trans (Nat.sub_le _ _) hs1) ?_
        exact lw_ret hx hb hr hlocks hd
      · cases e1
      · cases e1
      · cases e1)
    n 0 _ [] _ arr s.heap [] ad hrun P ⟨fun h k h' hh => absurd hh (Nat.not_lt_zero _), (fun h q => by rcases hz with e | e <;> rw [show ((L, xs, z) : mN).2.2 = z from rfl, e] at q <;> cases q; exact Or.inr (by decide))⟩ (fun v hv => by cases hv) (fun i v hv => by
      match i, hv with
      | 0, hv => cases hv; exact okv.ref (Or.inr (by decide))
      | 1, hv => cases hv
      | 2, hv => cases hv
      | 3, hv => cases hv
      | i + 4, hv => cases hv) (Nat.le_refl _) (Nat.le_refl _)
  exact key
set_option maxHeartbeats 4000000 in
theorem lw_walk (l : Launch) (hflags : l.flags = flags0) (b : Addr) (xs : List Int32) : MetFree l x (headSpec (Jvm.Cond.code x code maxLocals ret :: tables_1) room_1) (lw_P b xs) (fun _ _ _ _ _ => True) lw_Q := by
  refine MetFree.of_bodyS (code := code) (maxLocals := maxLocals) (ret := ret) (by decide) ?_ ?_
  · intro args s m h hn
    obtain ⟨meth, c, h1, h2, h3, h4, h5, h6, -, -⟩ := Cond.code_spec hn (atoms_spec (ws := Jvm.Cond.code x code maxLocals ret :: tables_1) h _ List.mem_cons_self)
    exact ⟨meth, c, h1, h2, h3, h4, h5, h6⟩
  · intro p e s m args below meth c s₁ B hml0 hP _
    obtain ⟨rfl, hx, hbd, hgv⟩ := hP
    obtain ⟨scr, harrAt, hlist, hof, hsmall⟩ := hx
    obtain ⟨hcb, hkn, -, -⟩ := State.arrayAt?_spec harrAt
    have hown : s.vm.findClass R_law = some m.cls := findClass_of_methodNamed B.named
    have hts0 : ∀ c ∈ (Jvm.Cond.code x code maxLocals ret :: tables_1), c.before #[Value.ref b] s = true := atoms_spec (ws := Jvm.Cond.code x code maxLocals ret :: tables_1) B.pre
    have hts : ∀ w ∈ lw_tbl, w.before #[Value.ref b] s = true := k2_hts_sels lw_privs (fun w hw => hts0 w (List.mem_cons_of_mem _ hw)) lw_privs_ok
    have hml : c.maxLocals = 4 := B.maxLocals_eq (hts0 _ List.mem_cons_self)
    have X₀ : Stand p l e room_1 s m #[Value.ref b] below meth c s₁ [] 0 0 := Stand.of_body B
    have hh0 : s₁.heap = s.heap := by rw [B.state]; rfl
    have hsz : scr.slots.size = xs.length := by rw [← Array.length_toList, hlist, List.length_map]
    have hval : ∀ j : Nat, j < xs.length → scr.slots[j]? = some (.int (xs.getD j 0)) := fun j hj => by
      rw [← Array.getElem?_toList, hlist]
      simp [hj]
    have hbl : b < s.heap.size := (Array.getElem?_eq_some_iff.mp hcb).1
    have hX : va_X b xs.length (fun j => xs.getD j 0) s s.heap := ⟨scr, hcb, hof, hkn, hsz, hval⟩
    have K : W p l e room_1 s m #[Value.ref b] below meth c s₁.heap [] 0 0 (lw_Z below #[Value.ref b] s) (entryFrame m ([Value.ref b] : List Value).toArray 4) := by
      rw [hh0]
      exact whole_start l hflags hbd ⟨B.exec, B.bytes, B.returns, hml, hown, hts, hX, hbl, B.notSynchronized, hgv⟩
    obtain ⟨t, a1, o, b1, b2, b3⟩ := K s₁ rfl X₀
    exact ⟨t, o, a1, b1, b2, b3⟩
theorem lw_pre_spec {args : Array Value} {s : State} (h : (Jvm.Cond.and given_1 narrow_1).before args s = true) (hr : rest_1_c.before args s = true) : ∃ (b : Addr) (xs : List Int32), lw_P b xs args s := by
  have hs := flat_of_before _ h
  have hq := flat_of_before _ hr
  have hc : (Cond.count 1).before args s = true := hs _ (by decide +kernel)
  have harr : (Cond.arrayOf (.arg 0) .int).before args s = true := hs _ (by decide +kernel)
  have hle : (Cond.le (.length (.arg 0)) (.int 2048)).before args s = true := hs _ (by decide +kernel)
  have hlen : (Cond.isInt (.length (.arg 0))).before args s = true := hq _ (by decide +kernel)
  have hall : (Cond.all (.arg 0) (.isInt (.elem (.arg 0) (.index 0)))).before args s = true := hq _ (by decide +kernel)
  obtain ⟨b, xs, hb, hx⟩ := State.ints_of_pre rfl harr hlen hall
  have hsm : xs.length < 2 ^ 31 := hx.choose_spec.2.2.2
  have hev : (Term.length (.arg 0)).eval args s none [] s = some (.int xs.length.toInt32) := hx.length_eval hb
  have hv := Cond.le_ints hev (show (Term.int 2048).eval args s none [] s = some (.int 2048) from rfl)
  have hd : xs.length.toInt32 ≤ 2048 := by
    simpa [Cond.before, Cond.holds, hv] using hle
  have hN : xs.length ≤ 2048 := (Int32.ofNat_le_ofNat hsm (by decide)).mp (show Int32.ofNat xs.length ≤ Int32.ofNat 2048 from hd)
  exact ⟨b, xs, Cond.one_arg hc (show args[0]? = some (.ref b) from hb), hx, hN, h⟩
theorem lw_comes (l : Launch) (hflags : l.flags = flags0) : Comes l x (Jvm.Cond.code x code maxLocals ret :: tables_1) room_1 (fun tb e args s => Calls_1 tb e args s ∧ rest_1 tb e args s ∧ Pre_1 tb e args s)
    (fun _ _ args s o t => lw_Q args s o t) := by
  intro p e ha hc hk s m args below hf hfit hheap happ hpre
  obtain ⟨b, xs, hP⟩ := lw_pre_spec hpre.2.2 hpre.2.1
  obtain ⟨k, o, h1, h2, h3, hQ⟩ := lw_walk l hflags b xs p e ha hc hk s m args below hf ((Spec.applies_iff_loose hf).mp happ).1 hP trivial
  exact ⟨k, o, h1, h2, h3, hQ⟩
theorem lw_frame {s t : State} {o : Outcome} {args : Array Value} (h : Framed s o t [] 600000 7302250) :
    Framed s o t (fieldLocs frame_1_writes args s ++ arrayLocs frame_1_arrays args s ++ staticLocs frame_1_statics s) 600000 7302250 := h
theorem lw_limb (L : Cond) (hL : ∀ (args : Array Value) (s t : State), L.after args s (.returned (some (.int 1))) t = true) :
    ArmFor flags0 classFile x code maxLocals ret World_1 tables_1 room_1 Calls_1 rest_1 Pre_1
      (fun tb e a s o t => postC L tb e a s o t ∧ Framed s o t (fieldLocs frame_1_writes a s ++ arrayLocs frame_1_arrays a s ++ staticLocs frame_1_statics s) 600000 7302250) := by
  intro l hflags _ _ p e ha hc hk s m args below hf hfit hheap happ hpre
  obtain ⟨k, o, h1, h2, h3, rfl, hF⟩ := lw_comes l hflags p e ha hc hk s m args below hf hfit hheap happ hpre
  exact ⟨k, _, h1, h2, h3, hL args s _, lw_frame hF⟩
theorem i_vc : Claimed_1_1 ∧ Claimed_1_2 := ⟨lw_limb limb_1_1 (fun args s t => by simp [limb_1_1, Cond.after, Cond.holds, Cond.value]), lw_limb limb_1_2 (fun args s t => Cond.after_iff.mpr (by
  first | (rw [show limb_1_2 = Cond.eq .result (.int 1) from rfl, Cond.eq_ints (x := 1) (y := 1) rfl rfl]; simp; done) | (simp [limb_1_2, Cond.value, Term.eval]; done)))⟩
