/-! ===== the small machine: the claim's bytecode over a flat memory; handles stand for addresses ===== -/
abbrev mE : Type := Instr × Nat × Nat × Nat × Nat
abbrev mT : Type := List (Nat × List (Nat × mE))
abbrev mQ : Type := MethodName × ByteArray × Nat × Option FieldType × Nat × Nat × mT
def mlk : List (Nat × mE) → Nat → Option mE
  | [], _ => none
  | (p, e) :: l, pc => cond (Nat.beq p pc) (some e) (mlk l pc)
def mlk2 : mT → Nat → Option mE
  | [], _ => none
  | (b, ch) :: r, pc => cond (Nat.blt pc b) (mlk ch pc) (mlk2 r pc)
/-- the script's length and ints, a static of the JDK's that is a reference or null -/
abbrev mN : Type := Nat × (Nat → Int32) × Value
/-- handles made, slots made, kinds (0, class) or (1 int 2 boolean 3 byte, length), references in fields, the environment -/
abbrev mX : Type := Nat × Nat × (Nat → Nat × Nat) × (Nat → Nat → Option Nat) × mN
abbrev mF : Type := Nat → Nat → Int32
abbrev mM : Type := Nat → Int32 → Int32
abbrev mL : Type := Nat → Nat → Int64
abbrev mW : Type := mX × mF × mM × mL
abbrev mLs : Type := List (Option Value)
abbrev mRs : Type := Option Value × mW
/-- handles from here on are cells that stood before and that nobody writes: texts, tables, the script -/
def mB : Nat := 1000000
def mLen : List Nat := [0, 4, 6, 5, 2, 5, 4, 5, 5, 5, 4]
def mByt : List (List Int32) := [[], [32, 111, 108, 100], [32, 121, 111, 117, 110, 103], [32, 97, 103, 101, 61], [32, 91], [97, 108, 108, 111, 99], [114, 111, 111, 116], [119, 114, 105, 116, 101], [109, 105, 110, 111, 114], [115, 116, 97, 114, 116], [115, 116, 101, 112]]
def mArg : List Int32 := [1, 2, 3, 0, 0, 1]
def mOne (j : Nat) : Int32 := nI (48 + j % 10)
def mTen (j : Nat) : Int32 := nI (48 + j / 10)
def mroK (E : mN) (h : Nat) : Nat × Nat :=
  cond (Nat.blt h 1000011) (0, 0) (cond (Nat.blt h 1000100) (99, 0) (cond (Nat.blt h 1000111) (3, mLen.getD (h - 1000100) 0)
    (cond (Nat.beq h 1000200) (1, 6) (cond (Nat.beq h 1000201) (3, 100) (cond (Nat.beq h 1000202) (3, 100) (cond (Nat.beq h 1000300) (1, E.1) (99, 0)))))))
def mroM (E : mN) (h : Nat) (i : Int32) : Int32 :=
  cond (Nat.blt h 1000111) ((mByt.getD (h - 1000100) []).getD i.toNatClampNeg 0)
    (cond (Nat.beq h 1000200) (mArg.getD i.toNatClampNeg 0) (cond (Nat.beq h 1000201) (mOne i.toNatClampNeg) (cond (Nat.beq h 1000202) (mTen i.toNatClampNeg) (E.2.1 i.toNatClampNeg))))
def mkd (X : mX) (h : Nat) : Nat × Nat := cond (Nat.blt h mB) (X.2.2.1 h) (mroK X.2.2.2.2 h)
def mgM (X : mX) (M : mM) (h : Nat) (i : Int32) : Int32 := cond (Nat.blt h mB) (M h i) (mroM X.2.2.2.2 h i)
def uM (M : mM) (h : Nat) (i x : Int32) : mM := fun h' i' => cond (Nat.beq h' h) (if i' = i then x else M h' i') (M h' i')
def uF (F : mF) (h k : Nat) (x : Int32) : mF := fun h' k' => cond (Nat.beq h' h) (cond (Nat.beq k' k) x (F h' k')) (F h' k')
def uL (L : mL) (h k : Nat) (x : Int64) : mL := fun h' k' => cond (Nat.beq h' h) (cond (Nat.beq k' k) x (L h' k')) (L h' k')
def uR (R : Nat → Nat → Option Nat) (h k : Nat) (x : Option Nat) : Nat → Nat → Option Nat := fun h' k' => cond (Nat.beq h' h) (cond (Nat.beq k' k) x (R h' k')) (R h' k')
/-- a row of the memory as a whole -/
def sM (M : mM) (h : Nat) (f : Int32 → Int32) : mM := fun h' i' => cond (Nat.beq h' h) (f i') (M h' i')
def pX (X : mX) (kd : Nat × Nat) (sl : Nat) : mX := (X.1 + 1, X.2.1 + sl, fun h => cond (Nat.beq h X.1) kd (X.2.2.1 h), fun h k => cond (Nat.beq h X.1) none (X.2.2.2.1 h k), X.2.2.2.2)
def zF (F : mF) (h : Nat) : mF := fun h' k => cond (Nat.beq h' h) 0 (F h' k)
def zL (L : mL) (h : Nat) : mL := fun h' k => cond (Nat.beq h' h) 0 (L h' k)
def rX (X : mX) (h k : Nat) (v : Option Nat) : mX := (X.1, X.2.1, X.2.2.1, uR X.2.2.2.1 h k v, X.2.2.2.2)
def mcpy (X : mX) (M : mM) (hs hd : Nat) (sp dp n : Int32) : mM := fun h i => cond (Nat.beq h hd) (if ¬ i < 0 ∧ dp.toNatClampNeg ≤ i.toNatClampNeg ∧ i.toNatClampNeg < dp.toNatClampNeg + n.toNatClampNeg then mgM X M hs (nI (sp.toNatClampNeg + (i.toNatClampNeg - dp.toNatClampNeg))) else M h i) (M h i)
def mnar (t : Nat) (x : Int32) : Int32 := match t with
  | 2 => vp_nar .boolean x
  | _ => vp_nar .byte x
def mfit (c : Nat) (x : Int32) : Prop := match c with
  | 3 => x = 0 ∨ x = 1
  | 4 => x.toInt8.toInt32 = x
  | _ => True
def mokR (c : Nat) (x : Int32) : Prop := match c with
  | 0 => True
  | 1 => narrow .boolean (.int x) = .int x
  | 2 => narrow .byte (.int x) = .int x
  | _ => narrow .char (.int x) = .int x
def mget : mLs → Nat → Option Value
  | [], _ => none
  | a :: _, 0 => a
  | _ :: l, i + 1 => mget l i
def mlg2 (a : Option Value) : Bool := match a with
  | some (.long _) => true
  | some (.double _) => true
  | _ => false
def mset : mLs → Nat → Value → Option mLs
  | [], _, _ => none
  | _ :: l, 0, v => some (some v :: l)
  | a :: l, i + 1, v => match mset l i v with
    | some l' => cond (Nat.beq i 0 && mlg2 a) none (some (a :: l'))
    | none => none
def mset2 : mLs → Nat → Value → Option mLs
  | [], _, _ => none
  | [_], _, _ => none
  | _ :: _ :: l, 0, v => some (some v :: none :: l)
  | a :: b :: l, i + 1, v => match mset2 (b :: l) i v with
    | some l' => cond (Nat.beq i 0 && mlg2 a) none (some (a :: l'))
    | none => none
def mspl : Nat → List Value → List Value → Option (List Value × List Value)
  | 0, acc, st => some (acc, st)
  | n + 1, acc, v :: st => mspl n (v :: acc) st
  | _ + 1, _, [] => none
def mins : List Value → mLs
  | [] => []
  | .long x :: r => some (.long x) :: none :: mins r
  | .double x :: r => some (.double x) :: none :: mins r
  | v :: r => some v :: mins r
def mpad : Nat → mLs → Option mLs
  | 0, [] => some []
  | 0, _ :: _ => none
  | n + 1, [] => match mpad n [] with
    | some l => some (none :: l)
    | none => none
  | n + 1, a :: l => match mpad n l with
    | some l' => some (a :: l')
    | none => none
def popI (st : List Value) (f : Int32 → List Value → Prop) : Prop := match st with
  | .int x :: r => f x r
  | _ => False
def popL (st : List Value) (f : Int64 → List Value → Prop) : Prop := match st with
  | .long x :: r => f x r
  | _ => False
def popR (st : List Value) (f : Nat → List Value → Prop) : Prop := match st with
  | .ref x :: r => f x r
  | _ => False
def popA (st : List Value) (f : Option Nat → List Value → Prop) : Prop := match st with
  | .ref x :: r => f (some x) r
  | .null :: r => f none r
  | _ => False
def pop1 (st : List Value) (f : Value → List Value → Prop) : Prop := match st with
  | v :: r => v.category = 1 ∧ f v r
  | [] => False
def ldI (ls : mLs) (i : Nat) (f : Int32 → Prop) : Prop := match mget ls i with
  | some (.int x) => f x
  | _ => False
def ldL (ls : mLs) (i : Nat) (f : Int64 → Prop) : Prop := match mget ls i with
  | some (.long x) => f x
  | _ => False
def ldA (ls : mLs) (i : Nat) (f : Option Nat → Prop) : Prop := match mget ls i with
  | some (.ref x) => f (some x)
  | some .null => f none
  | _ => False
def stV (ls : mLs) (i : Nat) (v : Value) (f : mLs → Prop) : Prop := match mset ls i v with
  | some l => f l
  | none => False
def stL (ls : mLs) (i : Nat) (v : Value) (f : mLs → Prop) : Prop := match mset2 ls i v with
  | some l => f l
  | none => False
def mcmp (c : ClassFile.Cond) (x y : Int32) : Prop := match c with
  | .eq => x = y
  | .ne => ¬ x = y
  | .lt => x < y
  | .ge => y ≤ x
  | .gt => y < x
  | .le => x ≤ y
def mtn (z : Int) : Option Nat := match z with
  | .ofNat n => some n
  | .negSucc _ => none
def mtab (dflt lo hi : Int) (offs : Array Int) (pc : Nat) (x : Int32) : Option Nat :=
  if x.toInt < lo ∨ hi < x.toInt then mtn ((pc : Int) + dflt) else match offs[(x.toInt - lo).toNat]? with
    | some o => mtn ((pc : Int) + o)
    | none => none
def mlku (dflt : Int) (ps : Array (Int × Int)) (pc : Nat) (x : Int32) : Option Nat := mtn ((pc : Int) + Op.lookupswitch.offset ps.toList dflt x.toInt)
/-- a call of one of ours -/
def msInv (call : Nat → List Value → mW → mRs → Prop) (k : Nat) (args rest : List Value) (pc : Nat) (ls : mLs) (w : mW) (K : Nat → mLs → List Value → mW → Prop) : Prop :=
  rest.length ≤ 4 ∧ ∃ (r : Option Value) (w' : mW), call k args w (r, w') ∧ K (pc + 3) ls (r.toList ++ rest) w'
def msCall (call : Nat → List Value → mW → mRs → Prop) (rci : Nat → Nat) (a b c : Nat) (pc : Nat) (ls : mLs) (st : List Value) (w : mW) (K : Nat → mLs → List Value → mW → Prop) : Prop :=
  match c with
  | 9 => popR st fun _ r => r.length ≤ 4 ∧ K (pc + 3) ls r w
  | 8 => popI st fun n r => popI r fun dp r => popR r fun hd r => popI r fun sp r => popR r fun hs r =>
      r.length ≤ 4 ∧ Nat.blt hd mB = true ∧ (mkd w.1 hd).2 ≤ 65536 ∧ (mkd w.1 hd).1 = 3 ∧ (mkd w.1 hs).1 = 3 ∧ ¬ sp < 0 ∧ ¬ dp < 0 ∧ ¬ n < 0 ∧ sp.toNatClampNeg + n.toNatClampNeg ≤ (mkd w.1 hs).2 ∧ dp.toNatClampNeg + n.toNatClampNeg ≤ (mkd w.1 hd).2 ∧
      (∀ i : Nat, i < n.toNatClampNeg → fits .byte (.int (mgM w.1 w.2.2.1 hs (nI (sp.toNatClampNeg + i)))) = true) ∧ K (pc + 3) ls r (w.1, w.2.1, mcpy w.1 w.2.2.1 hs hd sp dp n, w.2.2.2)
  | 10 => popR st fun h r => r.length ≤ 4 ∧ Nat.blt h mB = true ∧ (w.1.2.2.1 h).1 = 3 ∧ (∀ i : Nat, i < (w.1.2.2.1 h).2 → fits .byte (.int (w.2.2.1 h (nI i))) = true) ∧
      K (pc + 3) ls (.ref w.1.1 :: r) (pX w.1 (w.1.2.2.1 h) (w.1.2.2.1 h).2, zF w.2.1 w.1.1, sM w.2.2.1 w.1.1 (w.2.2.1 h), zL w.2.2.2 w.1.1)
  | 11 => popI st fun y r => popI r fun x r => r.length ≤ 4 ∧ K (pc + 3) ls (.int (if x < y then y else x) :: r) w
  | 12 => popI st fun y r => popI r fun x r => r.length ≤ 4 ∧ K (pc + 3) ls (.int (if y < x then y else x) :: r) w
  | 1 => match mspl b [] st with
    | some (args, rest) => msInv call a args rest pc ls w K
    | none => False
  | 7 => match mspl b [] st with
    | some (args, rest) => msInv call a args rest pc ls w K
    | none => False
  | 99 => False
  | _ => match mspl b [] st with
    | some (args, rest) => popR rest fun h r => (c = 2 ∨ c = 6 ∨ mkd w.1 h = (0, rci a)) ∧ msInv call a (.ref h :: args) r pc ls w K
    | none => False
def msGet (a b c : Nat) (pc : Nat) (ls : mLs) (st : List Value) (w : mW) (K : Nat → mLs → List Value → mW → Prop) : Prop :=
  popR st fun h r => cond (Nat.blt h mB)
    (w.1.2.2.1 h = (0, a) ∧ match c with
      | 99 => False
      | 2 => K (pc + 3) ls (va_rf (w.1.2.2.2.1 h b) :: r) w
      | 1 => K (pc + 3) ls (.long (w.2.2.2 h b) :: r) w
      | _ => K (pc + 3) ls (.int (w.2.1 h b) :: r) w)
    (a = 0 ∧ Nat.blt h 1000011 = true ∧ match b with
      | 0 => K (pc + 3) ls (.ref (h + 100) :: r) w
      | 1 => K (pc + 3) ls (.int 0 :: r) w
      | _ => False)
def msPut (a b c : Nat) (pc : Nat) (ls : mLs) (st : List Value) (w : mW) (K : Nat → mLs → List Value → mW → Prop) : Prop :=
  match c with
  | 99 => False
  | 2 => popA st fun v r => popR r fun h r => Nat.blt h mB = true ∧ w.1.2.2.1 h = (0, a) ∧ K (pc + 3) ls r (rX w.1 h b v, w.2)
  | 1 => popL st fun x r => popR r fun h r => Nat.blt h mB = true ∧ w.1.2.2.1 h = (0, a) ∧ K (pc + 3) ls r (w.1, w.2.1, w.2.2.1, uL w.2.2.2 h b x)
  | _ => popI st fun x r => popR r fun h r => Nat.blt h mB = true ∧ w.1.2.2.1 h = (0, a) ∧ mfit c x ∧ K (pc + 3) ls r (w.1, uF w.2.1 h b x, w.2.2.1, w.2.2.2)
/-- one instruction -/
def msem (call : Nat → List Value → mW → mRs → Prop) (rci : Nat → Nat) (en : mE) (pc : Nat) (ls : mLs) (st : List Value) (w : mW) (K : Nat → mLs → List Value → mW → Prop) (rt : Option Value → mW → Prop) : Prop :=
  match en with
  | (.iconst n, _) => K (pc + 1) ls (.int (Int32.ofInt n) :: st) w
  | (.bipush n, _) => K (pc + 2) ls (.int (Int8.ofInt n).toInt32 :: st) w
  | (.sipush n, _) => K (pc + 3) ls (.int (Int16.ofInt n).toInt32 :: st) w
  | (.lconst n, _) => K (pc + 1) ls (.long (Int64.ofNat (n : Nat)) :: st) w
  | (.aconst_null, _) => K (pc + 1) ls (.null :: st) w
  | (.ldc _, _, a, _, c) => match c with
    | 0 => K (pc + 2) ls (.ref (mB + a) :: st) w
    | 1 => K (pc + 2) ls (.int (nI a) :: st) w
    | _ => False
  | (.ldc2_w _, _, a, _, _) => K (pc + 3) ls (.long (lN a) :: st) w
  | (.iload i, _) => ldI ls i fun x => K (pc + 2) ls (.int x :: st) w
  | (.iload_n i, _) => ldI ls i fun x => K (pc + 1) ls (.int x :: st) w
  | (.lload i, _) => ldL ls i fun x => K (pc + 2) ls (.long x :: st) w
  | (.lload_n i, _) => ldL ls i fun x => K (pc + 1) ls (.long x :: st) w
  | (.aload i, _) => ldA ls i fun x => K (pc + 2) ls (va_rf x :: st) w
  | (.aload_n i, _) => ldA ls i fun x => K (pc + 1) ls (va_rf x :: st) w
  | (.istore i, _) => popI st fun x r => stV ls i (.int x) fun ls => K (pc + 2) ls r w
  | (.istore_n i, _) => popI st fun x r => stV ls i (.int x) fun ls => K (pc + 1) ls r w
  | (.lstore i, _) => popL st fun x r => stL ls i (.long x) fun ls => K (pc + 2) ls r w
  | (.lstore_n i, _) => popL st fun x r => stL ls i (.long x) fun ls => K (pc + 1) ls r w
  | (.astore i, _) => popR st fun x r => stV ls i (.ref x) fun ls => K (pc + 2) ls r w
  | (.astore_n i, _) => popR st fun x r => stV ls i (.ref x) fun ls => K (pc + 1) ls r w
  | (.iinc i n, _) => ldI ls i fun x => stV ls i (.int (x + Int32.ofInt n)) fun ls => K (pc + 3) ls st w
  | (.iadd, _) => popI st fun y r => popI r fun x r => K (pc + 1) ls (.int (x + y) :: r) w
  | (.isub, _) => popI st fun y r => popI r fun x r => K (pc + 1) ls (.int (x - y) :: r) w
  | (.imul, _) => popI st fun y r => popI r fun x r => K (pc + 1) ls (.int (x * y) :: r) w
  | (.iand, _) => popI st fun y r => popI r fun x r => K (pc + 1) ls (.int (x &&& y) :: r) w
  | (.ior, _) => popI st fun y r => popI r fun x r => K (pc + 1) ls (.int (x ||| y) :: r) w
  | (.ishl, _) => popI st fun y r => popI r fun x r => K (pc + 1) ls (.int (x <<< (y &&& 31)) :: r) w
  | (.ishr, _) => popI st fun y r => popI r fun x r => K (pc + 1) ls (.int (x >>> (y &&& 31)) :: r) w
  | (.idiv, _) => popI st fun y r => popI r fun x r => ¬ y = 0 ∧ K (pc + 1) ls (.int (x / y) :: r) w
  | (.irem, _) => popI st fun y r => popI r fun x r => ¬ y = 0 ∧ K (pc + 1) ls (.int (x - x / y * y) :: r) w
  | (.ineg, _) => popI st fun x r => K (pc + 1) ls (.int (-x) :: r) w
  | (.ladd, _) => popL st fun y r => popL r fun x r => K (pc + 1) ls (.long (x + y) :: r) w
  | (.lmul, _) => popL st fun y r => popL r fun x r => K (pc + 1) ls (.long (x * y) :: r) w
  | (.lcmp, _) => popL st fun y r => popL r fun x r => K (pc + 1) ls (.int (lg_cmp x y) :: r) w
  | (.i2l, _) => popI st fun x r => K (pc + 1) ls (.long x.toInt64 :: r) w
  | (.i2b, _) => popI st fun x r => K (pc + 1) ls (.int x.toInt8.toInt32 :: r) w
  | (.i2c, _) => popI st fun x r => K (pc + 1) ls (.int (x.toUInt32 % 65536).toInt32 :: r) w
  | (.dup, _) => pop1 st fun v r => K (pc + 1) ls (v :: v :: r) w
  | (.pop, _) => pop1 st fun _ r => K (pc + 1) ls r w
  | (.dup_x1, _) => pop1 st fun v r => pop1 r fun u r => K (pc + 1) ls (v :: u :: v :: r) w
  | (.dup2, _) => pop1 st fun v r => pop1 r fun u r => K (pc + 1) ls (v :: u :: v :: u :: r) w
  | (.if_icmp c _, _, a, _) => popI st fun y r => popI r fun x r => (mcmp c x y → K a ls r w) ∧ (¬ mcmp c x y → K (pc + 3) ls r w)
  | (.ifCond c _, _, a, _) => popI st fun x r => (mcmp c x 0 → K a ls r w) ∧ (¬ mcmp c x 0 → K (pc + 3) ls r w)
  | (.goto _, _, a, _) => K a ls st w
  | (.ifnonnull _, _, a, _) => popR st fun _ r => K a ls r w
  | (.tableswitch dflt lo hi offs, _) => popI st fun x r => match mtab dflt lo hi offs pc x with
    | some tgt => K tgt ls r w
    | none => False
  | (.lookupswitch dflt ps, _) => popI st fun x r => (ps.toList.zip (ps.toList.drop 1)).all (fun (a, next) => a.1 < next.1) = true ∧ match mlku dflt ps pc x with
    | some tgt => K tgt ls r w
    | none => False
  | (.getfield _, _, a, b, c) => msGet a b c pc ls st w K
  | (.putfield _, _, a, b, c) => msPut a b c pc ls st w K
  | (.getstatic _, _, a, _, c) => match c with
    | 0 => K (pc + 3) ls (.int (nI a) :: st) w
    | 1 => Nat.ble mB a = true ∧ K (pc + 3) ls (.ref a :: st) w
    | 2 => K (pc + 3) ls (w.1.2.2.2.2.2.2 :: st) w
    | _ => False
  | (.iaload, _) => popI st fun i r => popR r fun h r => (mkd w.1 h).1 = 1 ∧ vp_in i (mkd w.1 h).2 ∧ K (pc + 1) ls (.int (mgM w.1 w.2.2.1 h i) :: r) w
  | (.baload, _) => popI st fun i r => popR r fun h r => ((mkd w.1 h).1 = 3 ∨ ((mkd w.1 h).1 = 2 ∧ Nat.blt h mB = true)) ∧ vp_in i (mkd w.1 h).2 ∧ K (pc + 1) ls (.int (mgM w.1 w.2.2.1 h i) :: r) w
  | (.iastore, _) => popI st fun x r => popI r fun i r => popR r fun h r => Nat.blt h mB = true ∧ (w.1.2.2.1 h).1 = 1 ∧ (w.1.2.2.1 h).2 ≤ 65536 ∧ vp_in i (w.1.2.2.1 h).2 ∧ K (pc + 1) ls r (w.1, w.2.1, uM w.2.2.1 h i x, w.2.2.2)
  | (.bastore, _) => popI st fun x r => popI r fun i r => popR r fun h r => Nat.blt h mB = true ∧ ((w.1.2.2.1 h).1 = 2 ∨ (w.1.2.2.1 h).1 = 3) ∧ (w.1.2.2.1 h).2 ≤ 65536 ∧ vp_in i (w.1.2.2.1 h).2 ∧ K (pc + 1) ls r (w.1, w.2.1, uM w.2.2.1 h i (mnar (w.1.2.2.1 h).1 x), w.2.2.2)
  | (.arraylength, _) => popR st fun h r => ((mkd w.1 h).1 = 1 ∨ (mkd w.1 h).1 = 2 ∧ Nat.blt h mB = true ∨ (mkd w.1 h).1 = 3) ∧ K (pc + 1) ls (.int (nI (mkd w.1 h).2) :: r) w
  | (.newarray _, _, a, _) => popI st fun n r => (a = 1 ∨ a = 2 ∨ a = 3) ∧ ¬ n < 0 ∧ n.toNatClampNeg ≤ 65536 ∧ K (pc + 2) ls (.ref w.1.1 :: r) (pX w.1 (a, n.toNatClampNeg) n.toNatClampNeg, zF w.2.1 w.1.1, sM w.2.2.1 w.1.1 (fun _ => 0), zL w.2.2.2 w.1.1)
  | (.new _, _, a, b, c) => c = 0 ∧ K (pc + 3) ls (.ref w.1.1 :: st) (pX w.1 (0, a) b, zF w.2.1 w.1.1, w.2.2.1, zL w.2.2.2 w.1.1)
  | (.checkcast _, _) => popR st fun h r => Nat.blt h mB = true ∧ (w.1.2.2.1 h).1 = 3 ∧ K (pc + 3) ls (.ref h :: r) w
  | (.invokevirtual _, _, a, b, c) => msCall call rci a b c pc ls st w K
  | (.invokespecial _, _, a, b, c) => msCall call rci a b c pc ls st w K
  | (.invokestatic _, _, a, b, c) => msCall call rci a b c pc ls st w K
  | (.ireturn, _, a, _) => match st with
    | [.int x] => mokR a x ∧ rt (some (.int x)) w
    | _ => False
  | (.lreturn, _) => match st with
    | [.long x] => rt (some (.long x)) w
    | _ => False
  | (.areturn, _) => match st with
    | [.ref h] => rt (some (.ref h)) w
    | _ => False
  | (.return_, _) => match st with
    | [] => rt none w
    | _ => False
  | _ => False
def mrun (call : Nat → List Value → mW → mRs → Prop) (rci : Nat → Nat) (T : mT) : Nat → Nat → mLs → List Value → mW → mRs → Prop
  | 0, _, _, _, _, _ => False
  | n + 1, pc, ls, st, w, res => match mlk2 T pc with
    | none => False
    | some e => msem call rci e pc ls st w (fun pc ls st w => mrun call rci T n pc ls st w res) (fun r w' => res = (r, w'))
/-- a call at depth d: methods by their number -/
def mcall (mm : Nat → Option mQ) (rci : Nat → Nat) : Nat → Nat → List Value → mW → mRs → Prop
  | 0 => fun _ _ _ _ => False
  | d + 1 => fun k args w res => ∃ (q : mQ) (ls : mLs) (n : Nat), mm k = some q ∧ mpad q.2.2.1 (mins args) = some ls ∧ mrun (mcall mm rci d) rci q.2.2.2.2.2.2 n 0 ls [] w res
