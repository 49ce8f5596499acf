/-! ===== rules of the small machine, goal first ===== -/
def Wp (d : Nat) (T : mT) (pc : Nat) (ls : mLs) (st : List Value) (w : mW) (Q : Option Value → mW → Prop) : Prop := ∃ (n : Nat) (r : Option Value) (w' : mW), mrun (mcall mmk mrc d) mrc T n pc ls st w (r, w') ∧ Q r w'
def Cw (d k : Nat) (vs : List Value) (w : mW) (Q : Option Value → mW → Prop) : Prop := ∃ (r : Option Value) (w' : mW), mcall mmk mrc d k vs w (r, w') ∧ Q r w'
abbrev KQ (d : Nat) (T : mT) (pc : Nat) (ls : mLs) (rest : List Value) (Q : Option Value → mW → Prop) (r : Option Value) (w : mW) : Prop := match r with
  | some v => Wp d T pc ls (v :: rest) w Q
  | none => Wp d T pc ls rest w Q
section RU
variable {d : Nat} {T : mT} {pc p : Nat} {ls : mLs} {st : List Value} {w : mW} {Q : Option Value → mW → Prop} {q : Nat × Nat × Nat × Nat}
theorem Wp_1 {e : mE} {pc' : Nat} {ls' : mLs} {st' : List Value} {w' : mW} (he : mlk2 T pc = some e) (hs : ∀ (K : Nat → mLs → List Value → mW → Prop) (rt : Option Value → mW → Prop), K pc' ls' st' w' → msem (mcall mmk mrc d) mrc e pc ls st w K rt) (h : Wp d T pc' ls' st' w' Q) : Wp d T pc ls st w Q := by
  obtain ⟨n, r, w2, h1, h2⟩ := h
  refine ⟨n + 1, r, w2, ?_, h2⟩
  unfold mrun
  rw [he]
  exact hs _ _ h1
theorem Wp_r {e : mE} {r : Option Value} (he : mlk2 T pc = some e) (hs : ∀ (K : Nat → mLs → List Value → mW → Prop) (rt : Option Value → mW → Prop), rt r w → msem (mcall mmk mrc d) mrc e pc ls st w K rt) (h : Q r w) : Wp d T pc ls st w Q := by
  refine ⟨1, r, w, ?_, h⟩
  unfold mrun
  rw [he]
  exact hs _ _ rfl
theorem Cw_in {k : Nat} {vs : List Value} {q : mQ} (hk : mmk k = some q) (hl : mpad q.2.2.1 (mins vs) = some ls) (h : Wp d q.2.2.2.2.2.2 0 ls [] w Q) : Cw (d + 1) k vs w Q := by
  obtain ⟨n, r, w2, h1, h2⟩ := h
  exact ⟨r, w2, ⟨q, ls, n, hk, hl, h1⟩, h2⟩
theorem Cw_imp {k : Nat} {vs : List Value} {Q' : Option Value → mW → Prop} (h : Cw d k vs w Q') (hq : ∀ r w', Q' r w' → Q r w') : Cw d k vs w Q := by
  obtain ⟨r, w', h1, h2⟩ := h
  exact ⟨r, w', h1, hq r w' h2⟩
theorem Wp_imp {Q' : Option Value → mW → Prop} (h : Wp d T pc ls st w Q') (hq : ∀ r w', Q' r w' → Q r w') : Wp d T pc ls st w Q := by
  obtain ⟨n, r, w', h1, h2⟩ := h
  exact ⟨n, r, w', h1, hq r w' h2⟩
theorem r_iconst {n : Int} {v : Int32} (he : mlk2 T pc = some (.iconst n, q)) (hv : Int32.ofInt n = v) (hp : pc + 1 = p) (hz : Wp d T p ls (.int v :: st) w Q) : Wp d T pc ls st w Q := by
  subst hv hp
  exact Wp_1 he (fun K rt z => z) hz
theorem r_bipush {n : Int} {v : Int32} (he : mlk2 T pc = some (.bipush n, q)) (hv : (Int8.ofInt n).toInt32 = v) (hp : pc + 2 = p) (hz : Wp d T p ls (.int v :: st) w Q) : Wp d T pc ls st w Q := by
  subst hv hp
  exact Wp_1 he (fun K rt z => z) hz
theorem r_sipush {n : Int} {v : Int32} (he : mlk2 T pc = some (.sipush n, q)) (hv : (Int16.ofInt n).toInt32 = v) (hp : pc + 3 = p) (hz : Wp d T p ls (.int v :: st) w Q) : Wp d T pc ls st w Q := by
  subst hv hp
  exact Wp_1 he (fun K rt z => z) hz
theorem r_lconst {n : Fin 2} {v : Int64} (he : mlk2 T pc = some (.lconst n, q)) (hv : Int64.ofNat (n : Nat) = v) (hp : pc + 1 = p) (hz : Wp d T p ls (.long v :: st) w Q) : Wp d T pc ls st w Q := by
  subst hv hp
  exact Wp_1 he (fun K rt z => z) hz
theorem r_null  (he : mlk2 T pc = some (.aconst_null, q)) (hp : pc + 1 = p) (hz : Wp d T p ls (.null :: st) w Q) : Wp d T pc ls st w Q := by
  subst hp
  exact Wp_1 he (fun K rt z => z) hz
theorem r_ldcS {i l a b y : Nat} (he : mlk2 T pc = some (.ldc i, l, a, b, 0)) (hy : mB + a = y) (hp : pc + 2 = p) (hz : Wp d T p ls (.ref y :: st) w Q) : Wp d T pc ls st w Q := by
  subst hy hp
  exact Wp_1 he (fun K rt z => z) hz
theorem r_ldcI {i l a b : Nat} {v : Int32} (he : mlk2 T pc = some (.ldc i, l, a, b, 1)) (hy : nI a = v) (hp : pc + 2 = p) (hz : Wp d T p ls (.int v :: st) w Q) : Wp d T pc ls st w Q := by
  subst hy hp
  exact Wp_1 he (fun K rt z => z) hz
theorem r_ldc2 {i l a : Nat} {q : Nat × Nat} {v : Int64} (he : mlk2 T pc = some (.ldc2_w i, l, a, q)) (hy : lN a = v) (hp : pc + 3 = p) (hz : Wp d T p ls (.long v :: st) w Q) : Wp d T pc ls st w Q := by
  subst hy hp
  exact Wp_1 he (fun K rt z => z) hz
theorem r_iload {i : Nat} {x : Int32} (he : mlk2 T pc = some (.iload i, q)) (hl : mget ls i = some (.int x)) (hp : pc + 2 = p) (hz : Wp d T p ls (.int x :: st) w Q) : Wp d T pc ls st w Q := by
  subst hp
  exact Wp_1 he (fun K rt z => by show ldI ls i _; unfold ldI; rw [hl]; exact z) hz
theorem r_iload_n {i : Fin 4} {x : Int32} (he : mlk2 T pc = some (.iload_n i, q)) (hl : mget ls i = some (.int x)) (hp : pc + 1 = p) (hz : Wp d T p ls (.int x :: st) w Q) : Wp d T pc ls st w Q := by
  subst hp
  exact Wp_1 he (fun K rt z => by show ldI ls i _; unfold ldI; rw [hl]; exact z) hz
theorem r_lload {i : Nat} {x : Int64} (he : mlk2 T pc = some (.lload i, q)) (hl : mget ls i = some (.long x)) (hp : pc + 2 = p) (hz : Wp d T p ls (.long x :: st) w Q) : Wp d T pc ls st w Q := by
  subst hp
  exact Wp_1 he (fun K rt z => by show ldL ls i _; unfold ldL; rw [hl]; exact z) hz
theorem r_lload_n {i : Fin 4} {x : Int64} (he : mlk2 T pc = some (.lload_n i, q)) (hl : mget ls i = some (.long x)) (hp : pc + 1 = p) (hz : Wp d T p ls (.long x :: st) w Q) : Wp d T pc ls st w Q := by
  subst hp
  exact Wp_1 he (fun K rt z => by show ldL ls i _; unfold ldL; rw [hl]; exact z) hz
theorem r_aload {i : Nat} {x : Nat} (he : mlk2 T pc = some (.aload i, q)) (hl : mget ls i = some (.ref x)) (hp : pc + 2 = p) (hz : Wp d T p ls (.ref x :: st) w Q) : Wp d T pc ls st w Q := by
  subst hp
  exact Wp_1 he (fun K rt z => by show ldA ls i (fun x => K (pc + 2) ls (va_rf x :: st) w); unfold ldA; rw [hl]; exact z) hz
theorem r_aload_n {i : Fin 4} {x : Nat} (he : mlk2 T pc = some (.aload_n i, q)) (hl : mget ls i = some (.ref x)) (hp : pc + 1 = p) (hz : Wp d T p ls (.ref x :: st) w Q) : Wp d T pc ls st w Q := by
  subst hp
  exact Wp_1 he (fun K rt z => by show ldA ls i (fun x => K (pc + 1) ls (va_rf x :: st) w); unfold ldA; rw [hl]; exact z) hz
theorem r_istore {i : Nat} {x : Int32} {ls' : mLs} (he : mlk2 T pc = some (.istore i, q)) (hl : mset ls i (.int x) = some ls') (hp : pc + 2 = p) (hz : Wp d T p ls' st w Q) : Wp d T pc ls (.int x :: st) w Q := by
  subst hp
  exact Wp_1 he (fun K rt z => by show stV ls i _ _; unfold stV; rw [hl]; exact z) hz
theorem r_istore_n {i : Fin 4} {x : Int32} {ls' : mLs} (he : mlk2 T pc = some (.istore_n i, q)) (hl : mset ls i (.int x) = some ls') (hp : pc + 1 = p) (hz : Wp d T p ls' st w Q) : Wp d T pc ls (.int x :: st) w Q := by
  subst hp
  exact Wp_1 he (fun K rt z => by show stV ls i _ _; unfold stV; rw [hl]; exact z) hz
theorem r_lstore {i : Nat} {x : Int64} {ls' : mLs} (he : mlk2 T pc = some (.lstore i, q)) (hl : mset2 ls i (.long x) = some ls') (hp : pc + 2 = p) (hz : Wp d T p ls' st w Q) : Wp d T pc ls (.long x :: st) w Q := by
  subst hp
  exact Wp_1 he (fun K rt z => by show stL ls i _ _; unfold stL; rw [hl]; exact z) hz
theorem r_lstore_n {i : Fin 4} {x : Int64} {ls' : mLs} (he : mlk2 T pc = some (.lstore_n i, q)) (hl : mset2 ls i (.long x) = some ls') (hp : pc + 1 = p) (hz : Wp d T p ls' st w Q) : Wp d T pc ls (.long x :: st) w Q := by
  subst hp
  exact Wp_1 he (fun K rt z => by show stL ls i _ _; unfold stL; rw [hl]; exact z) hz
theorem r_astore {i : Nat} {x : Nat} {ls' : mLs} (he : mlk2 T pc = some (.astore i, q)) (hl : mset ls i (.ref x) = some ls') (hp : pc + 2 = p) (hz : Wp d T p ls' st w Q) : Wp d T pc ls (.ref x :: st) w Q := by
  subst hp
  exact Wp_1 he (fun K rt z => by show stV ls i _ _; unfold stV; rw [hl]; exact z) hz
theorem r_astore_n {i : Fin 4} {x : Nat} {ls' : mLs} (he : mlk2 T pc = some (.astore_n i, q)) (hl : mset ls i (.ref x) = some ls') (hp : pc + 1 = p) (hz : Wp d T p ls' st w Q) : Wp d T pc ls (.ref x :: st) w Q := by
  subst hp
  exact Wp_1 he (fun K rt z => by show stV ls i _ _; unfold stV; rw [hl]; exact z) hz
theorem r_iinc {i : Nat} {n : Int} {x v : Int32} {ls' : mLs} (he : mlk2 T pc = some (.iinc i n, q)) (hx : mget ls i = some (.int x)) (hv : x + Int32.ofInt n = v) (hl : mset ls i (.int v) = some ls') (hp : pc + 3 = p) (hz : Wp d T p ls' st w Q) : Wp d T pc ls st w Q := by
  subst hv hp
  exact Wp_1 he (fun K rt z => by show ldI ls i _; unfold ldI; rw [hx]; show stV ls i _ _; unfold stV; rw [hl]; exact z) hz
theorem r_iadd {x y : Int32} (he : mlk2 T pc = some (.iadd, q)) (hp : pc + 1 = p) (hz : Wp d T p ls (.int (x + y) :: st) w Q) : Wp d T pc ls (.int y :: .int x :: st) w Q := by
  subst hp
  exact Wp_1 he (fun K rt z => z) hz
theorem r_isub {x y : Int32} (he : mlk2 T pc = some (.isub, q)) (hp : pc + 1 = p) (hz : Wp d T p ls (.int (x - y) :: st) w Q) : Wp d T pc ls (.int y :: .int x :: st) w Q := by
  subst hp
  exact Wp_1 he (fun K rt z => z) hz
theorem r_imul {x y : Int32} (he : mlk2 T pc = some (.imul, q)) (hp : pc + 1 = p) (hz : Wp d T p ls (.int (x * y) :: st) w Q) : Wp d T pc ls (.int y :: .int x :: st) w Q := by
  subst hp
  exact Wp_1 he (fun K rt z => z) hz
theorem r_iand {x y : Int32} (he : mlk2 T pc = some (.iand, q)) (hp : pc + 1 = p) (hz : Wp d T p ls (.int (x &&& y) :: st) w Q) : Wp d T pc ls (.int y :: .int x :: st) w Q := by
  subst hp
  exact Wp_1 he (fun K rt z => z) hz
theorem r_ior {x y : Int32} (he : mlk2 T pc = some (.ior, q)) (hp : pc + 1 = p) (hz : Wp d T p ls (.int (x ||| y) :: st) w Q) : Wp d T pc ls (.int y :: .int x :: st) w Q := by
  subst hp
  exact Wp_1 he (fun K rt z => z) hz
theorem r_ishl {x y : Int32} (he : mlk2 T pc = some (.ishl, q)) (hp : pc + 1 = p) (hz : Wp d T p ls (.int (x <<< (y &&& 31)) :: st) w Q) : Wp d T pc ls (.int y :: .int x :: st) w Q := by
  subst hp
  exact Wp_1 he (fun K rt z => z) hz
theorem r_ishr {x y : Int32} (he : mlk2 T pc = some (.ishr, q)) (hp : pc + 1 = p) (hz : Wp d T p ls (.int (x >>> (y &&& 31)) :: st) w Q) : Wp d T pc ls (.int y :: .int x :: st) w Q := by
  subst hp
  exact Wp_1 he (fun K rt z => z) hz
theorem r_idiv {x y : Int32} (he : mlk2 T pc = some (.idiv, q)) (hy : ¬ y = 0) (hp : pc + 1 = p) (hz : Wp d T p ls (.int (x / y) :: st) w Q) : Wp d T pc ls (.int y :: .int x :: st) w Q := by
  subst hp
  exact Wp_1 he (fun K rt z => And.intro hy z) hz
theorem r_irem {x y : Int32} (he : mlk2 T pc = some (.irem, q)) (hy : ¬ y = 0) (hp : pc + 1 = p) (hz : Wp d T p ls (.int (x - x / y * y) :: st) w Q) : Wp d T pc ls (.int y :: .int x :: st) w Q := by
  subst hp
  exact Wp_1 he (fun K rt z => And.intro hy z) hz
theorem r_ineg {x : Int32} (he : mlk2 T pc = some (.ineg, q)) (hp : pc + 1 = p) (hz : Wp d T p ls (.int (-x) :: st) w Q) : Wp d T pc ls (.int x :: st) w Q := by
  subst hp
  exact Wp_1 he (fun K rt z => z) hz
theorem r_ladd {x y : Int64} (he : mlk2 T pc = some (.ladd, q)) (hp : pc + 1 = p) (hz : Wp d T p ls (.long (x + y) :: st) w Q) : Wp d T pc ls (.long y :: .long x :: st) w Q := by
  subst hp
  exact Wp_1 he (fun K rt z => z) hz
theorem r_lmul {x y : Int64} (he : mlk2 T pc = some (.lmul, q)) (hp : pc + 1 = p) (hz : Wp d T p ls (.long (x * y) :: st) w Q) : Wp d T pc ls (.long y :: .long x :: st) w Q := by
  subst hp
  exact Wp_1 he (fun K rt z => z) hz
theorem r_lcmp {x y : Int64} (he : mlk2 T pc = some (.lcmp, q)) (hp : pc + 1 = p) (hz : Wp d T p ls (.int (lg_cmp x y) :: st) w Q) : Wp d T pc ls (.long y :: .long x :: st) w Q := by
  subst hp
  exact Wp_1 he (fun K rt z => z) hz
theorem r_i2l {x : Int32} (he : mlk2 T pc = some (.i2l, q)) (hp : pc + 1 = p) (hz : Wp d T p ls (.long x.toInt64 :: st) w Q) : Wp d T pc ls (.int x :: st) w Q := by
  subst hp
  exact Wp_1 he (fun K rt z => z) hz
theorem r_i2b {x : Int32} (he : mlk2 T pc = some (.i2b, q)) (hp : pc + 1 = p) (hz : Wp d T p ls (.int x.toInt8.toInt32 :: st) w Q) : Wp d T pc ls (.int x :: st) w Q := by
  subst hp
  exact Wp_1 he (fun K rt z => z) hz
theorem r_i2c {x : Int32} (he : mlk2 T pc = some (.i2c, q)) (hp : pc + 1 = p) (hz : Wp d T p ls (.int (x.toUInt32 % 65536).toInt32 :: st) w Q) : Wp d T pc ls (.int x :: st) w Q := by
  subst hp
  exact Wp_1 he (fun K rt z => z) hz
theorem r_dup {v : Value} (he : mlk2 T pc = some (.dup, q)) (hc : v.category = 1) (hp : pc + 1 = p) (hz : Wp d T p ls (v :: v :: st) w Q) : Wp d T pc ls (v :: st) w Q := by
  subst hp
  exact Wp_1 he (fun K rt z => And.intro hc z) hz
theorem r_pop {v : Value} (he : mlk2 T pc = some (.pop, q)) (hc : v.category = 1) (hp : pc + 1 = p) (hz : Wp d T p ls st w Q) : Wp d T pc ls (v :: st) w Q := by
  subst hp
  exact Wp_1 he (fun K rt z => And.intro hc z) hz
theorem r_dup_x1 {v u : Value} (he : mlk2 T pc = some (.dup_x1, q)) (hc : v.category = 1) (hu : u.category = 1) (hp : pc + 1 = p) (hz : Wp d T p ls (v :: u :: v :: st) w Q) : Wp d T pc ls (v :: u :: st) w Q := by
  subst hp
  exact Wp_1 he (fun K rt z => And.intro hc (And.intro hu z)) hz
theorem r_dup2 {v u : Value} (he : mlk2 T pc = some (.dup2, q)) (hc : v.category = 1) (hu : u.category = 1) (hp : pc + 1 = p) (hz : Wp d T p ls (v :: u :: v :: u :: st) w Q) : Wp d T pc ls (v :: u :: st) w Q := by
  subst hp
  exact Wp_1 he (fun K rt z => And.intro hc (And.intro hu z)) hz
theorem r_icmp_eq {x y : Int32} {off : Int} {l a : Nat} {q : Nat × Nat} (he : mlk2 T pc = some (.if_icmp .eq off, l, a, q)) (hp : pc + 3 = p) (ht : x = y → Wp d T a ls st w Q) (hf : ¬ x = y → Wp d T p ls st w Q) : Wp d T pc ls (.int y :: .int x :: st) w Q := by
  subst hp
  by_cases hc : mcmp .eq x y
  · exact Wp_1 he (fun K rt z => And.intro (fun _ => z) (fun n => absurd hc n)) (ht hc)
  · exact Wp_1 he (fun K rt z => And.intro (fun n => absurd n hc) (fun _ => z)) (hf hc)
theorem r_if_eq {x : Int32} {off : Int} {l a : Nat} {q : Nat × Nat} (he : mlk2 T pc = some (.ifCond .eq off, l, a, q)) (hp : pc + 3 = p) (ht : x = 0 → Wp d T a ls st w Q) (hf : ¬ x = 0 → Wp d T p ls st w Q) : Wp d T pc ls (.int x :: st) w Q := by
  subst hp
  by_cases hc : mcmp .eq x 0
  · exact Wp_1 he (fun K rt z => And.intro (fun _ => z) (fun n => absurd hc n)) (ht hc)
  · exact Wp_1 he (fun K rt z => And.intro (fun n => absurd n hc) (fun _ => z)) (hf hc)
theorem r_icmp_ne {x y : Int32} {off : Int} {l a : Nat} {q : Nat × Nat} (he : mlk2 T pc = some (.if_icmp .ne off, l, a, q)) (hp : pc + 3 = p) (ht : ¬ x = y → Wp d T a ls st w Q) (hf : x = y → Wp d T p ls st w Q) : Wp d T pc ls (.int y :: .int x :: st) w Q := by
  subst hp
  by_cases hc : mcmp .ne x y
  · exact Wp_1 he (fun K rt z => And.intro (fun _ => z) (fun n => absurd hc n)) (ht hc)
  · exact Wp_1 he (fun K rt z => And.intro (fun n => absurd n hc) (fun _ => z)) ((fun n => hf (Classical.not_not.mp n)) hc)
theorem r_if_ne {x : Int32} {off : Int} {l a : Nat} {q : Nat × Nat} (he : mlk2 T pc = some (.ifCond .ne off, l, a, q)) (hp : pc + 3 = p) (ht : ¬ x = 0 → Wp d T a ls st w Q) (hf : x = 0 → Wp d T p ls st w Q) : Wp d T pc ls (.int x :: st) w Q := by
  subst hp
  by_cases hc : mcmp .ne x 0
  · exact Wp_1 he (fun K rt z => And.intro (fun _ => z) (fun n => absurd hc n)) (ht hc)
  · exact Wp_1 he (fun K rt z => And.intro (fun n => absurd n hc) (fun _ => z)) ((fun n => hf (Classical.not_not.mp n)) hc)
theorem r_icmp_lt {x y : Int32} {off : Int} {l a : Nat} {q : Nat × Nat} (he : mlk2 T pc = some (.if_icmp .lt off, l, a, q)) (hp : pc + 3 = p) (ht : x < y → Wp d T a ls st w Q) (hf : ¬ x < y → Wp d T p ls st w Q) : Wp d T pc ls (.int y :: .int x :: st) w Q := by
  subst hp
  by_cases hc : mcmp .lt x y
  · exact Wp_1 he (fun K rt z => And.intro (fun _ => z) (fun n => absurd hc n)) (ht hc)
  · exact Wp_1 he (fun K rt z => And.intro (fun n => absurd n hc) (fun _ => z)) (hf hc)
theorem r_if_lt {x : Int32} {off : Int} {l a : Nat} {q : Nat × Nat} (he : mlk2 T pc = some (.ifCond .lt off, l, a, q)) (hp : pc + 3 = p) (ht : x < 0 → Wp d T a ls st w Q) (hf : ¬ x < 0 → Wp d T p ls st w Q) : Wp d T pc ls (.int x :: st) w Q := by
  subst hp
  by_cases hc : mcmp .lt x 0
  · exact Wp_1 he (fun K rt z => And.intro (fun _ => z) (fun n => absurd hc n)) (ht hc)
  · exact Wp_1 he (fun K rt z => And.intro (fun n => absurd n hc) (fun _ => z)) (hf hc)
theorem r_icmp_ge {x y : Int32} {off : Int} {l a : Nat} {q : Nat × Nat} (he : mlk2 T pc = some (.if_icmp .ge off, l, a, q)) (hp : pc + 3 = p) (ht : y ≤ x → Wp d T a ls st w Q) (hf : ¬ y ≤ x → Wp d T p ls st w Q) : Wp d T pc ls (.int y :: .int x :: st) w Q := by
  subst hp
  by_cases hc : mcmp .ge x y
  · exact Wp_1 he (fun K rt z => And.intro (fun _ => z) (fun n => absurd hc n)) (ht hc)
  · exact Wp_1 he (fun K rt z => And.intro (fun n => absurd n hc) (fun _ => z)) (hf hc)
theorem r_if_ge {x : Int32} {off : Int} {l a : Nat} {q : Nat × Nat} (he : mlk2 T pc = some (.ifCond .ge off, l, a, q)) (hp : pc + 3 = p) (ht : 0 ≤ x → Wp d T a ls st w Q) (hf : ¬ 0 ≤ x → Wp d T p ls st w Q) : Wp d T pc ls (.int x :: st) w Q := by
  subst hp
  by_cases hc : mcmp .ge x 0
  · exact Wp_1 he (fun K rt z => And.intro (fun _ => z) (fun n => absurd hc n)) (ht hc)
  · exact Wp_1 he (fun K rt z => And.intro (fun n => absurd n hc) (fun _ => z)) (hf hc)
theorem r_icmp_gt {x y : Int32} {off : Int} {l a : Nat} {q : Nat × Nat} (he : mlk2 T pc = some (.if_icmp .gt off, l, a, q)) (hp : pc + 3 = p) (ht : y < x → Wp d T a ls st w Q) (hf : ¬ y < x → Wp d T p ls st w Q) : Wp d T pc ls (.int y :: .int x :: st) w Q := by
  subst hp
  by_cases hc : mcmp .gt x y
  · exact Wp_1 he (fun K rt z => And.intro (fun _ => z) (fun n => absurd hc n)) (ht hc)
  · exact Wp_1 he (fun K rt z => And.intro (fun n => absurd n hc) (fun _ => z)) (hf hc)
theorem r_if_gt {x : Int32} {off : Int} {l a : Nat} {q : Nat × Nat} (he : mlk2 T pc = some (.ifCond .gt off, l, a, q)) (hp : pc + 3 = p) (ht : 0 < x → Wp d T a ls st w Q) (hf : ¬ 0 < x → Wp d T p ls st w Q) : Wp d T pc ls (.int x :: st) w Q := by
  subst hp
  by_cases hc : mcmp .gt x 0
  · exact Wp_1 he (fun K rt z => And.intro (fun _ => z) (fun n => absurd hc n)) (ht hc)
  · exact Wp_1 he (fun K rt z => And.intro (fun n => absurd n hc) (fun _ => z)) (hf hc)
theorem r_icmp_le {x y : Int32} {off : Int} {l a : Nat} {q : Nat × Nat} (he : mlk2 T pc = some (.if_icmp .le off, l, a, q)) (hp : pc + 3 = p) (ht : x ≤ y → Wp d T a ls st w Q) (hf : ¬ x ≤ y → Wp d T p ls st w Q) : Wp d T pc ls (.int y :: .int x :: st) w Q := by
  subst hp
  by_cases hc : mcmp .le x y
  · exact Wp_1 he (fun K rt z => And.intro (fun _ => z) (fun n => absurd hc n)) (ht hc)
  · exact Wp_1 he (fun K rt z => And.intro (fun n => absurd n hc) (fun _ => z)) (hf hc)
theorem r_if_le {x : Int32} {off : Int} {l a : Nat} {q : Nat × Nat} (he : mlk2 T pc = some (.ifCond .le off, l, a, q)) (hp : pc + 3 = p) (ht : x ≤ 0 → Wp d T a ls st w Q) (hf : ¬ x ≤ 0 → Wp d T p ls st w Q) : Wp d T pc ls (.int x :: st) w Q := by
  subst hp
  by_cases hc : mcmp .le x 0
  · exact Wp_1 he (fun K rt z => And.intro (fun _ => z) (fun n => absurd hc n)) (ht hc)
  · exact Wp_1 he (fun K rt z => And.intro (fun n => absurd n hc) (fun _ => z)) (hf hc)
theorem r_goto {off : Int} {l a : Nat} {q : Nat × Nat} (he : mlk2 T pc = some (.goto off, l, a, q))  (hz : Wp d T a ls st w Q) : Wp d T pc ls st w Q := by
  exact Wp_1 he (fun K rt z => z) hz
theorem r_ifnonnull {off : Int} {l a : Nat} {q : Nat × Nat} {x : Nat} (he : mlk2 T pc = some (.ifnonnull off, l, a, q))  (hz : Wp d T a ls st w Q) : Wp d T pc ls (.ref x :: st) w Q := by
  exact Wp_1 he (fun K rt z => z) hz
theorem r_table {dflt lo hi : Int} {offs : Array Int} {x : Int32} {tgt : Nat} (he : mlk2 T pc = some (.tableswitch dflt lo hi offs, q)) (hm : mtab dflt lo hi offs pc x = some tgt) (h : Wp d T tgt ls st w Q) : Wp d T pc ls (.int x :: st) w Q :=
  Wp_1 he (fun K rt z => by
    show match mtab dflt lo hi offs pc x with
      | some tgt => K tgt ls st w
      | none => False
    rw [hm]; exact z) h
theorem r_lookup {dflt : Int} {ps : Array (Int × Int)} {x : Int32} {tgt : Nat} (he : mlk2 T pc = some (.lookupswitch dflt ps, q)) (hs : (ps.toList.zip (ps.toList.drop 1)).all (fun (a, next) => a.1 < next.1) = true) (hm : mlku dflt ps pc x = some tgt) (h : Wp d T tgt ls st w Q) : Wp d T pc ls (.int x :: st) w Q :=
  Wp_1 he (fun K rt z => And.intro hs (by
    show match mlku dflt ps pc x with
      | some tgt => K tgt ls st w
      | none => False
    rw [hm]; exact z)) h
variable {X : mX} {F : mF} {M : mM} {L : mL} {i l a b c : Nat}
theorem m_ror {h : Nat} (hB : Nat.blt h mB = true) {α : Sort _} {x y : α} : cond (Nat.blt h mB) x y = x := by rw [hB]; rfl
theorem r_getI {h : Nat} (he : mlk2 T pc = some (.getfield i, l, a, b, 0)) (hB : Nat.blt h mB = true) (hk : X.2.2.1 h = (0, a)) (hp : pc + 3 = p) (hz : Wp d T p ls (.int (F h b) :: st) (X, F, M, L) Q) : Wp d T pc ls (.ref h :: st) (X, F, M, L) Q := by
  subst hp
  exact Wp_1 he (fun K rt z => by show msGet a b 0 pc ls (.ref h :: st) (X, F, M, L) K; unfold msGet popR; dsimp only; rw [hB]; exact ⟨hk, z⟩) hz
theorem r_getI3 {h : Nat} (he : mlk2 T pc = some (.getfield i, l, a, b, 3)) (hB : Nat.blt h mB = true) (hk : X.2.2.1 h = (0, a)) (hp : pc + 3 = p) (hz : Wp d T p ls (.int (F h b) :: st) (X, F, M, L) Q) : Wp d T pc ls (.ref h :: st) (X, F, M, L) Q := by
  subst hp
  exact Wp_1 he (fun K rt z => by show msGet a b 3 pc ls (.ref h :: st) (X, F, M, L) K; unfold msGet popR; dsimp only; rw [hB]; exact ⟨hk, z⟩) hz
theorem r_getI4 {h : Nat} (he : mlk2 T pc = some (.getfield i, l, a, b, 4)) (hB : Nat.blt h mB = true) (hk : X.2.2.1 h = (0, a)) (hp : pc + 3 = p) (hz : Wp d T p ls (.int (F h b) :: st) (X, F, M, L) Q) : Wp d T pc ls (.ref h :: st) (X, F, M, L) Q := by
  subst hp
  exact Wp_1 he (fun K rt z => by show msGet a b 4 pc ls (.ref h :: st) (X, F, M, L) K; unfold msGet popR; dsimp only; rw [hB]; exact ⟨hk, z⟩) hz
theorem r_getL {h : Nat} (he : mlk2 T pc = some (.getfield i, l, a, b, 1)) (hB : Nat.blt h mB = true) (hk : X.2.2.1 h = (0, a)) (hp : pc + 3 = p) (hz : Wp d T p ls (.long (L h b) :: st) (X, F, M, L) Q) : Wp d T pc ls (.ref h :: st) (X, F, M, L) Q := by
  subst hp
  exact Wp_1 he (fun K rt z => by show msGet a b 1 pc ls (.ref h :: st) (X, F, M, L) K; unfold msGet popR; dsimp only; rw [hB]; exact ⟨hk, z⟩) hz
theorem r_getR {h y : Nat} (he : mlk2 T pc = some (.getfield i, l, a, b, 2)) (hB : Nat.blt h mB = true) (hk : X.2.2.1 h = (0, a)) (hv : X.2.2.2.1 h b = some y) (hp : pc + 3 = p) (hz : Wp d T p ls (.ref y :: st) (X, F, M, L) Q) : Wp d T pc ls (.ref h :: st) (X, F, M, L) Q := by
  subst hp
  exact Wp_1 he (fun K rt z => by show msGet a b 2 pc ls (.ref h :: st) (X, F, M, L) K; unfold msGet popR; dsimp only; rw [hB]; exact ⟨hk, by rw [hv]; exact z⟩) hz
theorem r_getV {h y : Nat} (he : mlk2 T pc = some (.getfield i, l, 0, 0, 2)) (hB : Nat.blt h mB = false) (h1 : Nat.blt h 1000011 = true) (hy : h + 100 = y) (hp : pc + 3 = p) (hz : Wp d T p ls (.ref y :: st) (X, F, M, L) Q) : Wp d T pc ls (.ref h :: st) (X, F, M, L) Q := by
  subst hy hp
  exact Wp_1 he (fun K rt z => by show msGet 0 0 2 pc ls (.ref h :: st) (X, F, M, L) K; unfold msGet popR; dsimp only; rw [hB]; exact ⟨rfl, h1, z⟩) hz
theorem r_getC {h : Nat} (he : mlk2 T pc = some (.getfield i, l, 0, 1, 4)) (hB : Nat.blt h mB = false) (h1 : Nat.blt h 1000011 = true) (hp : pc + 3 = p) (hz : Wp d T p ls (.int 0 :: st) (X, F, M, L) Q) : Wp d T pc ls (.ref h :: st) (X, F, M, L) Q := by
  subst hp
  exact Wp_1 he (fun K rt z => by show msGet 0 1 4 pc ls (.ref h :: st) (X, F, M, L) K; unfold msGet popR; dsimp only; rw [hB]; exact ⟨rfl, h1, z⟩) hz
theorem r_putI {h : Nat} {x : Int32} (he : mlk2 T pc = some (.putfield i, l, a, b, 0)) (hB : Nat.blt h mB = true) (hk : X.2.2.1 h = (0, a)) (hp : pc + 3 = p) (hz : Wp d T p ls st (X, uF F h b x, M, L) Q) : Wp d T pc ls (.int x :: .ref h :: st) (X, F, M, L) Q := by
  subst hp
  exact Wp_1 he (fun K rt z => ⟨hB, hk, trivial, z⟩) hz
theorem r_putI3 {h : Nat} {x : Int32} (he : mlk2 T pc = some (.putfield i, l, a, b, 3)) (hB : Nat.blt h mB = true) (hk : X.2.2.1 h = (0, a)) (hf : mfit 3 x) (hp : pc + 3 = p) (hz : Wp d T p ls st (X, uF F h b x, M, L) Q) : Wp d T pc ls (.int x :: .ref h :: st) (X, F, M, L) Q := by
  subst hp
  exact Wp_1 he (fun K rt z => ⟨hB, hk, hf, z⟩) hz
theorem r_putI4 {h : Nat} {x : Int32} (he : mlk2 T pc = some (.putfield i, l, a, b, 4)) (hB : Nat.blt h mB = true) (hk : X.2.2.1 h = (0, a)) (hf : mfit 4 x) (hp : pc + 3 = p) (hz : Wp d T p ls st (X, uF F h b x, M, L) Q) : Wp d T pc ls (.int x :: .ref h :: st) (X, F, M, L) Q := by
  subst hp
  exact Wp_1 he (fun K rt z => ⟨hB, hk, hf, z⟩) hz
theorem r_putL {h : Nat} {x : Int64} (he : mlk2 T pc = some (.putfield i, l, a, b, 1)) (hB : Nat.blt h mB = true) (hk : X.2.2.1 h = (0, a)) (hp : pc + 3 = p) (hz : Wp d T p ls st (X, F, M, uL L h b x) Q) : Wp d T pc ls (.long x :: .ref h :: st) (X, F, M, L) Q := by
  subst hp
  exact Wp_1 he (fun K rt z => ⟨hB, hk, z⟩) hz
theorem r_putR {h y : Nat} (he : mlk2 T pc = some (.putfield i, l, a, b, 2)) (hB : Nat.blt h mB = true) (hk : X.2.2.1 h = (0, a)) (hp : pc + 3 = p) (hz : Wp d T p ls st (rX X h b (some y), F, M, L) Q) : Wp d T pc ls (.ref y :: .ref h :: st) (X, F, M, L) Q := by
  subst hp
  exact Wp_1 he (fun K rt z => ⟨hB, hk, z⟩) hz
theorem r_getsI {v : Int32} (he : mlk2 T pc = some (.getstatic i, l, a, b, 0)) (hv : nI a = v) (hp : pc + 3 = p) (hz : Wp d T p ls (.int v :: st) (X, F, M, L) Q) : Wp d T pc ls st (X, F, M, L) Q := by
  subst hv hp
  exact Wp_1 he (fun K rt z => z) hz
theorem r_getsR  (he : mlk2 T pc = some (.getstatic i, l, a, b, 1)) (hb : Nat.ble mB a = true) (hp : pc + 3 = p) (hz : Wp d T p ls (.ref a :: st) (X, F, M, L) Q) : Wp d T pc ls st (X, F, M, L) Q := by
  subst hp
  exact Wp_1 he (fun K rt z => And.intro hb z) hz
theorem r_getsF  (he : mlk2 T pc = some (.getstatic i, l, a, b, 2)) (hp : pc + 3 = p) (hz : Wp d T p ls (X.2.2.2.2.2.2 :: st) (X, F, M, L) Q) : Wp d T pc ls st (X, F, M, L) Q := by
  subst hp
  exact Wp_1 he (fun K rt z => z) hz
theorem r_iald {h n : Nat} {i : Int32} (he : mlk2 T pc = some (.iaload, q)) (hB : Nat.blt h mB = true) (hk : X.2.2.1 h = (1, n)) (hin : vp_in i n) (hp : pc + 1 = p) (hz : Wp d T p ls (.int (M h i) :: st) (X, F, M, L) Q) : Wp d T pc ls (.int i :: .ref h :: st) (X, F, M, L) Q := by
  subst hp
  exact Wp_1 he (fun K rt z => by
    have e : mkd X h = X.2.2.1 h := m_ror hB
    have e2 : mgM X M h i = M h i := m_ror hB
    refine ⟨?_, ?_, ?_⟩
    · show (mkd X h).1 = 1
      rw [e, hk]
    · show vp_in i (mkd X h).2
      rw [e, hk]; exact hin
    · show K (pc + 1) ls (.int (mgM X M h i) :: st) _
      rw [e2]; exact z) hz
theorem r_bald {h n : Nat} {i : Int32} (he : mlk2 T pc = some (.baload, q)) (hB : Nat.blt h mB = true) (hk : X.2.2.1 h = (3, n)) (hin : vp_in i n) (hp : pc + 1 = p) (hz : Wp d T p ls (.int (M h i) :: st) (X, F, M, L) Q) : Wp d T pc ls (.int i :: .ref h :: st) (X, F, M, L) Q := by
  subst hp
  exact Wp_1 he (fun K rt z => by
    have e : mkd X h = X.2.2.1 h := m_ror hB
    have e2 : mgM X M h i = M h i := m_ror hB
    refine ⟨?_, ?_, ?_⟩
    · show (mkd X h).1 = 3 ∨ ((mkd X h).1 = 2 ∧ Nat.blt h mB = true)
      rw [e, hk]; exact Or.inl rfl
    · show vp_in i (mkd X h).2
      rw [e, hk]; exact hin
    · show K (pc + 1) ls (.int (mgM X M h i) :: st) _
      rw [e2]; exact z) hz
theorem r_zald {h n : Nat} {i : Int32} (he : mlk2 T pc = some (.baload, q)) (hB : Nat.blt h mB = true) (hk : X.2.2.1 h = (2, n)) (hin : vp_in i n) (hp : pc + 1 = p) (hz : Wp d T p ls (.int (M h i) :: st) (X, F, M, L) Q) : Wp d T pc ls (.int i :: .ref h :: st) (X, F, M, L) Q := by
  subst hp
  exact Wp_1 he (fun K rt z => by
    have e : mkd X h = X.2.2.1 h := m_ror hB
    have e2 : mgM X M h i = M h i := m_ror hB
    refine ⟨?_, ?_, ?_⟩
    · show (mkd X h).1 = 3 ∨ ((mkd X h).1 = 2 ∧ Nat.blt h mB = true)
      rw [e, hk]; exact Or.inr ⟨rfl, hB⟩
    · show vp_in i (mkd X h).2
      rw [e, hk]; exact hin
    · show K (pc + 1) ls (.int (mgM X M h i) :: st) _
      rw [e2]; exact z) hz
theorem r_iald_ro {h n : Nat} {i : Int32} (he : mlk2 T pc = some (.iaload, q)) (hB : Nat.blt h mB = false) (hk : mroK X.2.2.2.2 h = (1, n)) (hin : vp_in i n) (hp : pc + 1 = p) (hz : Wp d T p ls (.int (mroM X.2.2.2.2 h i) :: st) (X, F, M, L) Q) : Wp d T pc ls (.int i :: .ref h :: st) (X, F, M, L) Q := by
  subst hp
  exact Wp_1 he (fun K rt z => by
    have e : mkd X h = mroK X.2.2.2.2 h := by unfold mkd; rw [hB]; rfl
    have e2 : mgM X M h i = mroM X.2.2.2.2 h i := by unfold mgM; rw [hB]; rfl
    refine ⟨?_, ?_, ?_⟩
    · show (mkd X h).1 = 1
      rw [e, hk]
    · show vp_in i (mkd X h).2
      rw [e, hk]; exact hin
    · show K (pc + 1) ls (.int (mgM X M h i) :: st) _
      rw [e2]; exact z) hz
theorem r_bald_ro {h n : Nat} {i : Int32} (he : mlk2 T pc = some (.baload, q)) (hB : Nat.blt h mB = false) (hk : mroK X.2.2.2.2 h = (3, n)) (hin : vp_in i n) (hp : pc + 1 = p) (hz : Wp d T p ls (.int (mroM X.2.2.2.2 h i) :: st) (X, F, M, L) Q) : Wp d T pc ls (.int i :: .ref h :: st) (X, F, M, L) Q := by
  subst hp
  exact Wp_1 he (fun K rt z => by
    have e : mkd X h = mroK X.2.2.2.2 h := by unfold mkd; rw [hB]; rfl
    have e2 : mgM X M h i = mroM X.2.2.2.2 h i := by unfold mgM; rw [hB]; rfl
    refine ⟨?_, ?_, ?_⟩
    · show (mkd X h).1 = 3 ∨ ((mkd X h).1 = 2 ∧ Nat.blt h mB = true)
      rw [e, hk]; exact Or.inl rfl
    · show vp_in i (mkd X h).2
      rw [e, hk]; exact hin
    · show K (pc + 1) ls (.int (mgM X M h i) :: st) _
      rw [e2]; exact z) hz
theorem r_iast {h n : Nat} {i x : Int32} (he : mlk2 T pc = some (.iastore, q)) (hB : Nat.blt h mB = true) (hk : X.2.2.1 h = (1, n)) (hin : vp_in i n) (hn : n ≤ 65536) (hp : pc + 1 = p) (hz : Wp d T p ls st (X, F, uM M h i x, L) Q) : Wp d T pc ls (.int x :: .int i :: .ref h :: st) (X, F, M, L) Q := by
  subst hp
  exact Wp_1 he (fun K rt z => ⟨hB, by show (X.2.2.1 h).1 = 1; rw [hk], by show (X.2.2.1 h).2 ≤ _; rw [hk]; exact hn, by show vp_in i (X.2.2.1 h).2; rw [hk]; exact hin, z⟩) hz
theorem r_bast {h n : Nat} {i x v : Int32} (he : mlk2 T pc = some (.bastore, q)) (hB : Nat.blt h mB = true) (hk : X.2.2.1 h = (3, n)) (hin : vp_in i n) (hn : n ≤ 65536) (hv : mnar 3 x = v) (hp : pc + 1 = p) (hz : Wp d T p ls st (X, F, uM M h i v, L) Q) : Wp d T pc ls (.int x :: .int i :: .ref h :: st) (X, F, M, L) Q := by
  subst hp
  exact Wp_1 he (fun K rt z => ⟨hB, by show (X.2.2.1 h).1 = 2 ∨ (X.2.2.1 h).1 = 3; rw [hk]; exact Or.inr rfl, by show (X.2.2.1 h).2 ≤ _; rw [hk]; exact hn, by show vp_in i (X.2.2.1 h).2; rw [hk]; exact hin, by show K _ _ _ (X, F, uM M h i (mnar (X.2.2.1 h).1 x), L); rw [hk, show mnar (3, n).1 x = v from hv]; exact z⟩) hz
theorem r_zast {h n : Nat} {i x v : Int32} (he : mlk2 T pc = some (.bastore, q)) (hB : Nat.blt h mB = true) (hk : X.2.2.1 h = (2, n)) (hin : vp_in i n) (hn : n ≤ 65536) (hv : mnar 2 x = v) (hp : pc + 1 = p) (hz : Wp d T p ls st (X, F, uM M h i v, L) Q) : Wp d T pc ls (.int x :: .int i :: .ref h :: st) (X, F, M, L) Q := by
  subst hp
  exact Wp_1 he (fun K rt z => ⟨hB, by show (X.2.2.1 h).1 = 2 ∨ (X.2.2.1 h).1 = 3; rw [hk]; exact Or.inl rfl, by show (X.2.2.1 h).2 ≤ _; rw [hk]; exact hn, by show vp_in i (X.2.2.1 h).2; rw [hk]; exact hin, by show K _ _ _ (X, F, uM M h i (mnar (X.2.2.1 h).1 x), L); rw [hk, show mnar (2, n).1 x = v from hv]; exact z⟩) hz
theorem r_alen_i {h n : Nat} {v : Int32} (he : mlk2 T pc = some (.arraylength, q)) (hk : mkd X h = (1, n)) (hv : nI n = v) (hp : pc + 1 = p) (hz : Wp d T p ls (.int v :: st) (X, F, M, L) Q) : Wp d T pc ls (.ref h :: st) (X, F, M, L) Q := by
  subst hv hp
  exact Wp_1 he (fun K rt z => ⟨by show (mkd X h).1 = 1 ∨ (mkd X h).1 = 2 ∧ _ ∨ (mkd X h).1 = 3; rw [hk]; exact Or.inl rfl, by show K (pc + 1) ls (.int (nI (mkd X h).2) :: st) _; rw [hk]; exact z⟩) hz
theorem r_alen_b {h n : Nat} {v : Int32} (he : mlk2 T pc = some (.arraylength, q)) (hk : mkd X h = (3, n)) (hv : nI n = v) (hp : pc + 1 = p) (hz : Wp d T p ls (.int v :: st) (X, F, M, L) Q) : Wp d T pc ls (.ref h :: st) (X, F, M, L) Q := by
  subst hv hp
  exact Wp_1 he (fun K rt z => ⟨by show (mkd X h).1 = 1 ∨ (mkd X h).1 = 2 ∧ _ ∨ (mkd X h).1 = 3; rw [hk]; exact Or.inr (Or.inr rfl), by show K (pc + 1) ls (.int (nI (mkd X h).2) :: st) _; rw [hk]; exact z⟩) hz
theorem r_newa {t : ArrayType} {n : Int32} {N : Nat} {q : Nat × Nat} (he : mlk2 T pc = some (.newarray t, l, a, q)) (ha : a = 1 ∨ a = 2 ∨ a = 3) (hn : ¬ n < 0) (hN : n.toNatClampNeg = N) (hN2 : N ≤ 65536) (hp : pc + 2 = p) (hz : Wp d T p ls (.ref X.1 :: st) (pX X (a, N) N, zF F X.1, sM M X.1 (fun _ => 0), zL L X.1) Q) : Wp d T pc ls (.int n :: st) (X, F, M, L) Q := by
  subst hN hp
  exact Wp_1 he (fun K rt z => ⟨ha, hn, hN2, z⟩) hz
theorem r_new  (he : mlk2 T pc = some (.new i, l, a, b, 0)) (hp : pc + 3 = p) (hz : Wp d T p ls (.ref X.1 :: st) (pX X (0, a) b, zF F X.1, M, zL L X.1) Q) : Wp d T pc ls st (X, F, M, L) Q := by
  subst hp
  exact Wp_1 he (fun K rt z => And.intro rfl z) hz
theorem r_cast {h n : Nat} (he : mlk2 T pc = some (.checkcast i, q)) (hB : Nat.blt h mB = true) (hk : X.2.2.1 h = (3, n)) (hp : pc + 3 = p) (hz : Wp d T p ls (.ref h :: st) (X, F, M, L) Q) : Wp d T pc ls (.ref h :: st) (X, F, M, L) Q := by
  subst hp
  exact Wp_1 he (fun K rt z => ⟨hB, by show (X.2.2.1 h).1 = 3; rw [hk], z⟩) hz
theorem KQ_i {r : Option Value} {rest : List Value} (h : KQ d T p ls rest Q r w) : Wp d T p ls (r.toList ++ rest) w Q := by cases r <;> exact h
theorem r_cS1 {rest vs : List Value} (he : mlk2 T pc = some (.invokestatic i, l, a, b, 1)) (hs : mspl b [] st = some (vs, rest)) (h4 : rest.length ≤ 4) (hp : pc + 3 = p) (h : Cw d a vs w (KQ d T p ls rest Q)) : Wp d T pc ls st w Q := by
  subst hp
  obtain ⟨r, w', h1, h2⟩ := h
  exact Wp_1 he (fun K rt z => by
    show match mspl b [] st with
      | some (args, rest) => msInv (mcall mmk mrc d) a args rest pc ls w K
      | none => False
    rw [hs]; exact ⟨h4, r, w', h1, z⟩) (KQ_i h2)
theorem r_cS7 {rest vs : List Value} (he : mlk2 T pc = some (.invokestatic i, l, a, b, 7)) (hs : mspl b [] st = some (vs, rest)) (h4 : rest.length ≤ 4) (hp : pc + 3 = p) (h : Cw d a vs w (KQ d T p ls rest Q)) : Wp d T pc ls st w Q := by
  subst hp
  obtain ⟨r, w', h1, h2⟩ := h
  exact Wp_1 he (fun K rt z => by
    show match mspl b [] st with
      | some (args, rest) => msInv (mcall mmk mrc d) a args rest pc ls w K
      | none => False
    rw [hs]; exact ⟨h4, r, w', h1, z⟩) (KQ_i h2)
theorem r_cV {rest vs : List Value} {h : Nat} (he : mlk2 T pc = some (.invokevirtual i, l, a, b, 0)) (hs : mspl b [] st = some (vs, .ref h :: rest)) (hk : mkd w.1 h = (0, mrc a)) (h4 : rest.length ≤ 4) (hp : pc + 3 = p) (hh : Cw d a (.ref h :: vs) w (KQ d T p ls rest Q)) : Wp d T pc ls st w Q := by
  subst hp
  obtain ⟨r, w', h1, h2⟩ := hh
  exact Wp_1 he (fun K rt z => by
    show match mspl b [] st with
      | some (args, rest) => popR rest fun h r => (0 = 2 ∨ 0 = 6 ∨ mkd w.1 h = (0, mrc a)) ∧ msInv (mcall mmk mrc d) a (.ref h :: args) r pc ls w K
      | none => False
    rw [hs]; exact ⟨Or.inr (Or.inr hk), h4, r, w', h1, z⟩) (KQ_i h2)
theorem r_cU {rest vs : List Value} {h : Nat} (he : mlk2 T pc = some (.invokevirtual i, l, a, b, 3)) (hs : mspl b [] st = some (vs, .ref h :: rest)) (hk : mkd w.1 h = (0, mrc a)) (h4 : rest.length ≤ 4) (hp : pc + 3 = p) (hh : Cw d a (.ref h :: vs) w (KQ d T p ls rest Q)) : Wp d T pc ls st w Q := by
  subst hp
  obtain ⟨r, w', h1, h2⟩ := hh
  exact Wp_1 he (fun K rt z => by
    show match mspl b [] st with
      | some (args, rest) => popR rest fun h r => (3 = 2 ∨ 3 = 6 ∨ mkd w.1 h = (0, mrc a)) ∧ msInv (mcall mmk mrc d) a (.ref h :: args) r pc ls w K
      | none => False
    rw [hs]; exact ⟨Or.inr (Or.inr hk), h4, r, w', h1, z⟩) (KQ_i h2)
theorem r_cO {rest vs : List Value} {h : Nat} (he : mlk2 T pc = some (.invokevirtual i, l, a, b, 4)) (hs : mspl b [] st = some (vs, .ref h :: rest)) (hk : mkd w.1 h = (0, mrc a)) (h4 : rest.length ≤ 4) (hp : pc + 3 = p) (hh : Cw d a (.ref h :: vs) w (KQ d T p ls rest Q)) : Wp d T pc ls st w Q := by
  subst hp
  obtain ⟨r, w', h1, h2⟩ := hh
  exact Wp_1 he (fun K rt z => by
    show match mspl b [] st with
      | some (args, rest) => popR rest fun h r => (4 = 2 ∨ 4 = 6 ∨ mkd w.1 h = (0, mrc a)) ∧ msInv (mcall mmk mrc d) a (.ref h :: args) r pc ls w K
      | none => False
    rw [hs]; exact ⟨Or.inr (Or.inr hk), h4, r, w', h1, z⟩) (KQ_i h2)
theorem r_cSU {rest vs : List Value} {h : Nat} (he : mlk2 T pc = some (.invokespecial i, l, a, b, 5)) (hs : mspl b [] st = some (vs, .ref h :: rest)) (hk : mkd w.1 h = (0, mrc a)) (h4 : rest.length ≤ 4) (hp : pc + 3 = p) (hh : Cw d a (.ref h :: vs) w (KQ d T p ls rest Q)) : Wp d T pc ls st w Q := by
  subst hp
  obtain ⟨r, w', h1, h2⟩ := hh
  exact Wp_1 he (fun K rt z => by
    show match mspl b [] st with
      | some (args, rest) => popR rest fun h r => (5 = 2 ∨ 5 = 6 ∨ mkd w.1 h = (0, mrc a)) ∧ msInv (mcall mmk mrc d) a (.ref h :: args) r pc ls w K
      | none => False
    rw [hs]; exact ⟨Or.inr (Or.inr hk), h4, r, w', h1, z⟩) (KQ_i h2)
theorem r_cI {rest vs : List Value} {h : Nat} (he : mlk2 T pc = some (.invokespecial i, l, a, b, 2)) (hs : mspl b [] st = some (vs, .ref h :: rest)) (h4 : rest.length ≤ 4) (hp : pc + 3 = p) (hh : Cw d a (.ref h :: vs) w (KQ d T p ls rest Q)) : Wp d T pc ls st w Q := by
  subst hp
  obtain ⟨r, w', h1, h2⟩ := hh
  exact Wp_1 he (fun K rt z => by
    show match mspl b [] st with
      | some (args, rest) => popR rest fun h r => (2 = 2 ∨ 2 = 6 ∨ mkd w.1 h = (0, mrc a)) ∧ msInv (mcall mmk mrc d) a (.ref h :: args) r pc ls w K
      | none => False
    rw [hs]; exact ⟨Or.inl rfl, h4, r, w', h1, z⟩) (KQ_i h2)
theorem r_cIN {rest vs : List Value} {h : Nat} (he : mlk2 T pc = some (.invokespecial i, l, a, b, 6)) (hs : mspl b [] st = some (vs, .ref h :: rest)) (h4 : rest.length ≤ 4) (hp : pc + 3 = p) (hh : Cw d a (.ref h :: vs) w (KQ d T p ls rest Q)) : Wp d T pc ls st w Q := by
  subst hp
  obtain ⟨r, w', h1, h2⟩ := hh
  exact Wp_1 he (fun K rt z => by
    show match mspl b [] st with
      | some (args, rest) => popR rest fun h r => (6 = 2 ∨ 6 = 6 ∨ mkd w.1 h = (0, mrc a)) ∧ msInv (mcall mmk mrc d) a (.ref h :: args) r pc ls w K
      | none => False
    rw [hs]; exact ⟨Or.inr (Or.inl rfl), h4, r, w', h1, z⟩) (KQ_i h2)
theorem r_obj {h : Nat} (he : mlk2 T pc = some (.invokespecial i, l, a, b, 9)) (h4 : st.length ≤ 4) (hp : pc + 3 = p) (hh : Wp d T p ls st w Q) : Wp d T pc ls (.ref h :: st) w Q := by
  subst hp
  exact Wp_1 he (fun K rt z => ⟨h4, z⟩) hh
theorem r_max {x y : Int32} (he : mlk2 T pc = some (.invokestatic i, l, a, b, 11)) (h4 : st.length ≤ 4) (hp : pc + 3 = p) (hh : Wp d T p ls (.int (if x < y then y else x) :: st) w Q) : Wp d T pc ls (.int y :: .int x :: st) w Q := by
  subst hp
  exact Wp_1 he (fun K rt z => ⟨h4, z⟩) hh
theorem r_min {x y : Int32} (he : mlk2 T pc = some (.invokestatic i, l, a, b, 12)) (h4 : st.length ≤ 4) (hp : pc + 3 = p) (hh : Wp d T p ls (.int (if y < x then y else x) :: st) w Q) : Wp d T pc ls (.int y :: .int x :: st) w Q := by
  subst hp
  exact Wp_1 he (fun K rt z => ⟨h4, z⟩) hh
theorem r_copy {n dp sp : Int32} {hd hs : Nat} (he : mlk2 T pc = some (.invokestatic i, l, a, b, 8)) (h4 : st.length ≤ 4) (hB : Nat.blt hd mB = true) (hn : (mkd X hd).2 ≤ 65536) (hk1 : (mkd X hd).1 = 3) (hk2 : (mkd X hs).1 = 3) (a1 : ¬ sp < 0) (a2 : ¬ dp < 0) (a3 : ¬ n < 0) (a4 : sp.toNatClampNeg + n.toNatClampNeg ≤ (mkd X hs).2) (a5 : dp.toNatClampNeg + n.toNatClampNeg ≤ (mkd X hd).2)
    (hf : ∀ i : Nat, i < n.toNatClampNeg → fits .byte (.int (mgM X M hs (nI (sp.toNatClampNeg + i)))) = true) (hp : pc + 3 = p) (hh : Wp d T p ls st (X, F, mcpy X M hs hd sp dp n, L) Q) : Wp d T pc ls (.int n :: .int dp :: .ref hd :: .int sp :: .ref hs :: st) (X, F, M, L) Q := by
  subst hp
  exact Wp_1 he (fun K rt z => ⟨h4, hB, hn, hk1, hk2, a1, a2, a3, a4, a5, hf, z⟩) hh
theorem r_clone {h n : Nat} (he : mlk2 T pc = some (.invokevirtual i, l, a, b, 10)) (h4 : st.length ≤ 4) (hB : Nat.blt h mB = true) (hk : X.2.2.1 h = (3, n)) (hf : ∀ i : Nat, i < n → fits .byte (.int (M h (nI i))) = true) (hp : pc + 3 = p)
    (hh : Wp d T p ls (.ref X.1 :: st) (pX X (3, n) n, zF F X.1, sM M X.1 (M h), zL L X.1) Q) : Wp d T pc ls (.ref h :: st) (X, F, M, L) Q := by
  subst hp
  exact Wp_1 he (fun K rt z => ⟨h4, hB, by show (X.2.2.1 h).1 = 3; rw [hk], by show ∀ i : Nat, i < (X.2.2.1 h).2 → _; rw [hk]; exact hf, by show K _ _ _ (pX X (X.2.2.1 h) (X.2.2.1 h).2, zF F X.1, sM M X.1 (M h), zL L X.1); rw [hk]; exact z⟩) hh
theorem r_ireturn {x : Int32} {q : Nat × Nat} (he : mlk2 T pc = some (.ireturn, l, a, q)) (hr : mokR a x) (h : Q (some (.int x)) w) : Wp d T pc ls [.int x] w Q := Wp_r he (fun K rt z => And.intro hr z) h
theorem r_lreturn {x : Int64} (he : mlk2 T pc = some (.lreturn, q)) (h : Q (some (.long x)) w) : Wp d T pc ls [.long x] w Q := Wp_r he (fun K rt z => z) h
theorem r_areturn {x : Nat} (he : mlk2 T pc = some (.areturn, q)) (h : Q (some (.ref x)) w) : Wp d T pc ls [.ref x] w Q := Wp_r he (fun K rt z => z) h
theorem r_return (he : mlk2 T pc = some (.return_, q)) (h : Q none w) : Wp d T pc ls [] w Q := Wp_r he (fun K rt z => z) h
end RU
theorem vpi {i v : Int32} {n : Nat} (hn : n < 2 ^ 31) (hv : nI n = v) (h0 : ¬ i < 0) (h1 : ¬ v ≤ i) : vp_in i n := by
  subst hv
  obtain ⟨j, hj, rfl⟩ := nI_of h0
  exact vp_in_nI (Nat.lt_of_not_le fun z => h1 (nI_le z hj)) hn
theorem vpi2 {i v : Int32} {n : Nat} (hn : n < 2 ^ 31) (hv : nI n = v) (h0 : 0 ≤ i) (h1 : i < v) : vp_in i n := vpi hn hv (Int32.not_lt.mpr h0) (Int32.not_le.mpr h1)
