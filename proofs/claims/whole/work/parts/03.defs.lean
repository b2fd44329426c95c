/-! THE SMALL MACHINE: values are whole numbers; a heap is a table V of numbers by address and place; addresses are one more than the machine's (0: null) -/
abbrev TV : Type := Int ⊕ (Nat ⊕ Int)
abbrev VH : Type := Nat → Nat → Int
abbrev GM : Type := (Nat → Nat) × (Nat → Nat) × Nat
abbrev LT : Type := List (Option TV)
/-- an instruction at its place: pc, instruction, length, three numbers, a list -/
abbrev EN : Type := Nat × Instr × Nat × Nat × Nat × Int × List Nat
/-- a method: name, code, locals, what it returns, number of its class, cells and slots that it may make -/
abbrev ME : Type := MethodName × ByteArray × Nat × Option FieldType × Nat × Nat × Nat
theorem wr_ex (x : Int) : ∃ y, y = x.bmod 4294967296 := ⟨_, rfl⟩
theorem wl_ex (x : Int) : ∃ y, y = x.bmod 18446744073709551616 := ⟨_, rfl⟩
/-- 32 and 64 bits, by choice, so that nobody reckons with them by unfolding -/
noncomputable def wr (x : Int) : Int := Classical.choose (wr_ex x)
noncomputable def wl (x : Int) : Int := Classical.choose (wl_ex x)
theorem wr_def (x : Int) : wr x = x.bmod 4294967296 := Classical.choose_spec (wr_ex x)
theorem wl_def (x : Int) : wl x = x.bmod 18446744073709551616 := Classical.choose_spec (wl_ex x)
def up (V : VH) (a k : Nat) (x : Int) : VH := fun b j => if b = a ∧ j = k then x else V b j
def rz (V : VH) (a : Nat) : VH := fun b j => if b = a then 0 else V b j
def uf (f : Nat → Nat) (a x : Nat) : Nat → Nat := fun b => if b = a then x else f b
def lg : LT → Nat → Option TV
  | [], _ => none
  | v :: _, 0 => v
  | _ :: l, k + 1 => lg l k
def lt_ : LT → Nat → TV → LT
  | [], _, _ => []
  | _ :: l, 0, v => some v :: l
  | none :: l, k + 1, v => none :: lt_ l k v
  | some (.inl x) :: l, k + 1, v => some (.inl x) :: lt_ l k v
  | some (.inr (.inl x)) :: l, k + 1, v => some (.inr (.inl x)) :: lt_ l k v
  | some (.inr (.inr _)) :: l, k + 1, v => none :: lt_ l k v
def tk : Nat → List TV → List TV → Option (List TV × List TV)
  | 0, acc, st => some (acc, st)
  | _ + 1, _, [] => none
  | k + 1, acc, v :: st => tk k (v :: acc) st
def cs : List TV → Nat
  | [] => 0
  | .inl _ :: l => cs l + 1
  | .inr (.inl _) :: l => cs l + 1
  | .inr (.inr _) :: l => cs l + 2
def pr_ (r : Option TV) (st : List TV) : List TV := match r with
  | none => st
  | some v => v :: st
/-- a field's or element's value by its kind: 0 int, 1 boolean, 2 long, 3 reference, 4 byte -/
def fv (t : Nat) (x : Int) : TV := match t with
  | 2 => .inr (.inr x)
  | 3 => .inr (.inl x.toNat)
  | _ => .inl x
def okt (t : Nat) (x : Int) : Prop := match t with
  | 0 => -2147483648 ≤ x ∧ x ≤ 2147483647
  | 1 => x = 0 ∨ x = 1
  | 2 => -9223372036854775808 ≤ x ∧ x ≤ 9223372036854775807
  | 4 => -128 ≤ x ∧ x ≤ 127
  | _ => True
def okv : TV → Prop
  | .inl x => okt 0 x
  | .inr (.inl _) => True
  | .inr (.inr x) => okt 2 x
def rv : Nat → Value
  | 0 => .null
  | t + 1 => .ref t
def tvv : TV → Value
  | .inl x => .int (Int32.ofInt x)
  | .inr (.inl a) => rv a
  | .inr (.inr x) => .long (Int64.ofInt x)
def bAnd (x y : Int) : Int := (Int32.ofInt x &&& Int32.ofInt y).toInt
def bOr (x y : Int) : Int := (Int32.ofInt x ||| Int32.ofInt y).toInt
def bShl (x y : Int) : Int := (Int32.ofInt x <<< (Int32.ofInt y &&& 31)).toInt
def bShr (x y : Int) : Int := (Int32.ofInt x >>> (Int32.ofInt y &&& 31)).toInt
def bUsh (x y : Int) : Int := ((Int32.ofInt x).toUInt32 >>> ((Int32.ofInt y).toUInt32 &&& Int32.toUInt32 31)).toInt32.toInt
def bDiv (x y : Int) : Int := (Int32.ofInt x / Int32.ofInt y).toInt
def bRem (x y : Int) : Int := (Int32.ofInt x - Int32.ofInt x / Int32.ofInt y * Int32.ofInt y).toInt
def bI2b (x : Int) : Int := (Int32.ofInt x).toInt8.toInt32.toInt
def cmpP (c : ClassFile.Cond) (x y : Int) : Prop := match c with
  | .eq => x = y
  | .ne => ¬ x = y
  | .lt => x < y
  | .ge => ¬ x < y
  | .gt => y < x
  | .le => ¬ y < x
abbrev KT : Type := LT → List TV → GM → VH → Nat → Nat → Prop
abbrev QT : Type := Option TV → GM → VH → Prop
/-- a switch: its targets one by one -/
def swl (x : Int) (J : Nat → Prop) : Int → List Nat → Prop
  | _, [] => True
  | lo, t :: l => (x = lo → J t) ∧ swl x J (lo + 1) l
def bi (p : Prop) [Decidable p] : Int := if p then 1 else 0
noncomputable def at_ (m w : Int) : Int := wr (wr (6 + wr (70 * m)) + w)
noncomputable def sn_ (k w : Int) : Int := wr (wr (426 + wr (30 * k)) + w)
noncomputable def th_ (a b c : Int) : Int := wl (wl (wl (27 * wl (wl (wl (27 * wl (a - 96)) + b) - 96)) + c) - 96)
noncomputable def si_ (a b c d e f : Int) : Int := wl (wl (19683 * th_ a b c) + th_ d e f)
noncomputable def fo_ (a b c d : Int) : Int := wl (wl (wl (27 * th_ a b c) + d) - 96)
/-- calls that only look: by a number the condition and the answer -/
noncomputable def pu (k : Nat) (args : List TV) (Γ : GM) (V : VH) : Option (Prop × TV) :=
  match k, args with
  | 0, [.inl v, .inl a, .inl b] => some (True, .inl (bi (a ≤ v ∧ v ≤ b)))
  | 1, [.inl c] => some (True, .inl (bi (48 ≤ c ∧ c ≤ 57)))
  | 2, [.inl c] => some (True, .inl (bi (97 ≤ c ∧ c ≤ 122)))
  | 3, [.inl a, .inl b, .inl c] => some (True, .inr (.inr (th_ a b c)))
  | 4, [.inl a, .inl b, .inl c, .inl d, .inl e, .inl f] => some (True, .inr (.inr (si_ a b c d e f)))
  | 5, [.inl a, .inl b, .inl c, .inl d] => some (True, .inr (.inr (fo_ a b c d)))
  | 6, [.inl m, .inl w] => some (True, .inl (at_ m w))
  | 7, [.inl m, .inl w] => some (True, .inl (sn_ m w))
  | 10, [.inr (.inl o), .inl m, .inl w] => some (Γ.1 o = 9 ∧ Γ.1 (V o 11).toNat = 10 ∧ 0 ≤ at_ m w ∧ at_ m w < (Γ.2.1 (V o 11).toNat : Int), .inl (V (V o 11).toNat (at_ m w).toNat))
  | 11, [.inr (.inl o), .inl m] => some (Γ.1 o = 9 ∧ Γ.1 (V o 11).toNat = 10 ∧ 0 < (Γ.2.1 (V o 11).toNat : Int), .inl (bi (0 ≤ m ∧ m ≤ wr (V (V o 11).toNat 0 - 1))))
  | 12, [.inr (.inl o), .inl m] => some (Γ.1 o = 9 ∧ Γ.1 (V o 11).toNat = 10 ∧ 0 ≤ at_ m 30 ∧ at_ m 30 < (Γ.2.1 (V o 11).toNat : Int), .inl (bi (0 < V (V o 11).toNat (at_ m 30).toNat)))
  | 16, [.inr (.inl o), .inl m] => some (Γ.1 o = 4, .inl (bi (0 ≤ m ∧ m < V o 3)))
  | 17, [.inl c] => some (True, .inl (bi (c = 32 ∨ c = 10)))
  | 18, [.inl c] => some (True, .inl (bi (97 ≤ c ∧ c ≤ 122)))
  | 19, [.inl c] => some (True, .inl (bi (48 ≤ c ∧ c ≤ 57)))
  | 20, [.inl x, .inl y] => some (True, .inl (if y ≤ x then x else y))
  | 21, [.inl x, .inl y] => some (True, .inl (if x ≤ y then x else y))
  | _, _ => none
/-- what one instruction does: K goes on behind it, J elsewhere, Q ends, C calls -/
def sm (A : Nat → Nat) (C : Nat → List TV → GM → VH → QT → Prop) (i : Instr) (pc a b : Nat) (c : Int) (tg : List Nat) (K : KT) (J : Nat → KT) (Q : QT) (ls : LT) (st : List TV) (Γ : GM) (V : VH) (uc us : Nat) : Prop :=
  match i with
  | .aload_n n => match lg ls n.val with
    | some (.inr (.inl x)) => K ls (.inr (.inl x) :: st) Γ V uc us
    | _ => False
  | .aload n => match lg ls n with
    | some (.inr (.inl x)) => K ls (.inr (.inl x) :: st) Γ V uc us
    | _ => False
  | .iload_n n => match lg ls n.val with
    | some (.inl x) => K ls (.inl x :: st) Γ V uc us
    | _ => False
  | .iload n => match lg ls n with
    | some (.inl x) => K ls (.inl x :: st) Γ V uc us
    | _ => False
  | .lload_n n => match lg ls n.val with
    | some (.inr (.inr x)) => K ls (.inr (.inr x) :: st) Γ V uc us
    | _ => False
  | .istore_n n => match st with
    | .inl x :: st => K (lt_ ls n.val (.inl x)) st Γ V uc us
    | _ => False
  | .istore n => match st with
    | .inl x :: st => K (lt_ ls n (.inl x)) st Γ V uc us
    | _ => False
  | .astore_n n => match st with
    | .inr (.inl x) :: st => K (lt_ ls n.val (.inr (.inl x))) st Γ V uc us
    | _ => False
  | .astore n => match st with
    | .inr (.inl x) :: st => K (lt_ ls n (.inr (.inl x))) st Γ V uc us
    | _ => False
  | .iinc n k => match lg ls n with
    | some (.inl x) => K (lt_ ls n (.inl (wr (x + k)))) st Γ V uc us
    | _ => False
  | .iconst n => K ls (.inl n :: st) Γ V uc us
  | .bipush n => K ls (.inl n :: st) Γ V uc us
  | .sipush n => K ls (.inl n :: st) Γ V uc us
  | .lconst n => K ls (.inr (.inr (n.val : Int)) :: st) Γ V uc us
  | .ldc _ => match b with
    | 0 => K ls (.inl c :: st) Γ V uc us
    | k + 1 => K ls (.inr (.inl (A k)) :: st) Γ V uc us
  | .ldc_w _ => K ls (.inl c :: st) Γ V uc us
  | .ldc2_w _ => K ls (.inr (.inr c) :: st) Γ V uc us
  | .iadd => match st with
    | .inl y :: .inl x :: st => K ls (.inl (wr (x + y)) :: st) Γ V uc us
    | _ => False
  | .isub => match st with
    | .inl y :: .inl x :: st => K ls (.inl (wr (x - y)) :: st) Γ V uc us
    | _ => False
  | .imul => match st with
    | .inl y :: .inl x :: st => K ls (.inl (wr (x * y)) :: st) Γ V uc us
    | _ => False
  | .iand => match st with
    | .inl y :: .inl x :: st => K ls (.inl (bAnd x y) :: st) Γ V uc us
    | _ => False
  | .ior => match st with
    | .inl y :: .inl x :: st => K ls (.inl (bOr x y) :: st) Γ V uc us
    | _ => False
  | .ishl => match st with
    | .inl y :: .inl x :: st => K ls (.inl (bShl x y) :: st) Γ V uc us
    | _ => False
  | .ishr => match st with
    | .inl y :: .inl x :: st => K ls (.inl (bShr x y) :: st) Γ V uc us
    | _ => False
  | .iushr => match st with
    | .inl y :: .inl x :: st => K ls (.inl (bUsh x y) :: st) Γ V uc us
    | _ => False
  | .idiv => match st with
    | .inl y :: .inl x :: st => y ≠ 0 ∧ K ls (.inl (bDiv x y) :: st) Γ V uc us
    | _ => False
  | .irem => match st with
    | .inl y :: .inl x :: st => y ≠ 0 ∧ K ls (.inl (bRem x y) :: st) Γ V uc us
    | _ => False
  | .i2b => match st with
    | .inl x :: st => K ls (.inl (bI2b x) :: st) Γ V uc us
    | _ => False
  | .i2l => match st with
    | .inl x :: st => K ls (.inr (.inr x) :: st) Γ V uc us
    | _ => False
  | .ladd => match st with
    | .inr (.inr y) :: .inr (.inr x) :: st => K ls (.inr (.inr (wl (x + y))) :: st) Γ V uc us
    | _ => False
  | .lsub => match st with
    | .inr (.inr y) :: .inr (.inr x) :: st => K ls (.inr (.inr (wl (x - y))) :: st) Γ V uc us
    | _ => False
  | .lmul => match st with
    | .inr (.inr y) :: .inr (.inr x) :: st => K ls (.inr (.inr (wl (x * y))) :: st) Γ V uc us
    | _ => False
  | .lcmp => match st with
    | .inr (.inr y) :: .inr (.inr x) :: st => K ls (.inl (if x = y then 0 else if x < y then -1 else 1) :: st) Γ V uc us
    | _ => False
  | .dup => match st with
    | .inl x :: st => K ls (.inl x :: .inl x :: st) Γ V uc us
    | .inr (.inl x) :: st => K ls (.inr (.inl x) :: .inr (.inl x) :: st) Γ V uc us
    | _ => False
  | .dup2 => match st with
    | .inl y :: .inr (.inl x) :: st => K ls (.inl y :: .inr (.inl x) :: .inl y :: .inr (.inl x) :: st) Γ V uc us
    | _ => False
  | .pop => match st with
    | .inl _ :: st => K ls st Γ V uc us
    | .inr (.inl _) :: st => K ls st Γ V uc us
    | _ => False
  | .goto _ => J a ls st Γ V uc us
  | .if_icmp k _ => match st with
    | .inl y :: .inl x :: st => (cmpP k x y → J a ls st Γ V uc us) ∧ (¬ cmpP k x y → J (pc + 3) ls st Γ V uc us)
    | _ => False
  | .ifCond k _ => match st with
    | .inl x :: st => (cmpP k x 0 → J a ls st Γ V uc us) ∧ (¬ cmpP k x 0 → J (pc + 3) ls st Γ V uc us)
    | _ => False
  | .ifnonnull _ => match st with
    | .inr (.inl x) :: st => (x ≠ 0 → J a ls st Γ V uc us) ∧ (x = 0 → J (pc + 3) ls st Γ V uc us)
    | _ => False
  | .tableswitch _ lo hi _ => match st with
    | .inl x :: st => (x < lo ∨ hi < x → J a ls st Γ V uc us) ∧ swl x (fun t => J t ls st Γ V uc us) lo tg
    | _ => False
  | .getfield _ => match st with
    | .inr (.inl o) :: st => Γ.1 o = a + 1 ∧ (match c with
      | 2 => K ls (.inr (.inr (V o b)) :: st) Γ V uc us
      | 3 => K ls (.inr (.inl (V o b).toNat) :: st) Γ V uc us
      | _ => K ls (.inl (V o b) :: st) Γ V uc us)
    | _ => False
  | .putfield _ => match c, st with
    | 0, .inl x :: .inr (.inl o) :: st => Γ.1 o = a + 1 ∧ K ls st Γ (up V o b x) uc us
    | 1, .inl x :: .inr (.inl o) :: st => Γ.1 o = a + 1 ∧ (x = 0 ∨ x = 1) ∧ K ls st Γ (up V o b x) uc us
    | 2, .inr (.inr x) :: .inr (.inl o) :: st => Γ.1 o = a + 1 ∧ K ls st Γ (up V o b x) uc us
    | 3, .inr (.inl x) :: .inr (.inl o) :: st => Γ.1 o = a + 1 ∧ K ls st Γ (up V o b (x : Int)) uc us
    | _, _ => False
  | .iaload => match st with
    | .inl x :: .inr (.inl o) :: st => (Γ.1 o = 10 ∨ Γ.1 o = 16) ∧ 0 ≤ x ∧ x < (Γ.2.1 o : Int) ∧ K ls (.inl (V o x.toNat) :: st) Γ V uc us
    | _ => False
  | .baload => match st with
    | .inl x :: .inr (.inl o) :: st => Γ.1 o = 11 ∧ 0 ≤ x ∧ x < (Γ.2.1 o : Int) ∧ K ls (.inl (V o x.toNat) :: st) Γ V uc us
    | _ => False
  | .laload => match st with
    | .inl x :: .inr (.inl o) :: st => Γ.1 o = 12 ∧ 0 ≤ x ∧ x < (Γ.2.1 o : Int) ∧ K ls (.inr (.inr (V o x.toNat)) :: st) Γ V uc us
    | _ => False
  | .aaload => match st with
    | .inl x :: .inr (.inl o) :: st => (13 ≤ Γ.1 o ∧ Γ.1 o ≤ 15) ∧ 0 ≤ x ∧ x < (Γ.2.1 o : Int) ∧ K ls (.inr (.inl (V o x.toNat).toNat) :: st) Γ V uc us
    | _ => False
  | .iastore => match st with
    | .inl y :: .inl x :: .inr (.inl o) :: st => Γ.1 o = 10 ∧ 0 ≤ x ∧ x < (Γ.2.1 o : Int) ∧ K ls st Γ (up V o x.toNat y) uc us
    | _ => False
  | .bastore => match st with
    | .inl y :: .inl x :: .inr (.inl o) :: st => Γ.1 o = 11 ∧ 0 ≤ x ∧ x < (Γ.2.1 o : Int) ∧ -128 ≤ y ∧ y ≤ 127 ∧ K ls st Γ (up V o x.toNat y) uc us
    | _ => False
  | .lastore => match st with
    | .inr (.inr y) :: .inl x :: .inr (.inl o) :: st => Γ.1 o = 12 ∧ 0 ≤ x ∧ x < (Γ.2.1 o : Int) ∧ K ls st Γ (up V o x.toNat y) uc us
    | _ => False
  | .aastore => match st with
    | .inr (.inl y) :: .inl x :: .inr (.inl o) :: st => (2 ≤ Γ.1 y ∧ Γ.1 y ≤ 4 ∧ Γ.1 o = Γ.1 y + 11) ∧ 0 ≤ x ∧ x < (Γ.2.1 o : Int) ∧ K ls st Γ (up V o x.toNat (y : Int)) uc us
    | _ => False
  | .arraylength => match st with
    | .inr (.inl o) :: st => (10 ≤ Γ.1 o ∧ Γ.1 o ≤ 16) ∧ K ls (.inl (Γ.2.1 o : Int) :: st) Γ V uc us
    | _ => False
  | .newarray _ => match st, tg with
    | .inl x :: st, [mc, ms] => 0 ≤ x ∧ x ≤ 100000 ∧ uc + 1 ≤ mc ∧ us + x.toNat ≤ ms ∧ K ls (.inr (.inl (Γ.2.2 + 1)) :: st) (uf Γ.1 (Γ.2.2 + 1) a, uf Γ.2.1 (Γ.2.2 + 1) x.toNat, Γ.2.2 + 1) (rz V (Γ.2.2 + 1)) (uc + 1) (us + x.toNat)
    | _, _ => False
  | .anewarray _ => match st, tg with
    | .inl x :: st, [mc, ms] => 0 ≤ x ∧ x ≤ 100000 ∧ uc + 1 ≤ mc ∧ us + x.toNat ≤ ms ∧ K ls (.inr (.inl (Γ.2.2 + 1)) :: st) (uf Γ.1 (Γ.2.2 + 1) a, uf Γ.2.1 (Γ.2.2 + 1) x.toNat, Γ.2.2 + 1) (rz V (Γ.2.2 + 1)) (uc + 1) (us + x.toNat)
    | _, _ => False
  | .new _ => match tg with
    | [mc, ms] => uc + 1 ≤ mc ∧ us + b ≤ ms ∧ K ls (.inr (.inl (Γ.2.2 + 1)) :: st) (uf Γ.1 (Γ.2.2 + 1) (a + 1), Γ.2.1, Γ.2.2 + 1) (rz V (Γ.2.2 + 1)) (uc + 1) (us + b)
    | _ => False
  | .invokestatic _ => match tk b [] st with
    | some (args, st) => cs st ≤ 8 ∧ (match tg with
      | [k] => (match pu k args Γ V with
        | some (h, r) => h ∧ K ls (r :: st) Γ V uc us
        | none => False)
      | _ => C a args Γ V (fun r Γ V => K ls (pr_ r st) Γ V uc us))
    | none => False
  | .invokevirtual _ => match tk b [] st with
    | some (.inr (.inl o) :: args, st) => (Γ.1 o : Int) = c ∧ cs st ≤ 8 ∧ (match tg with
      | [k] => (match pu k (.inr (.inl o) :: args) Γ V with
        | some (h, r) => h ∧ K ls (r :: st) Γ V uc us
        | none => False)
      | [mc, ms, mc0, ms0] => uc + mc ≤ mc0 ∧ us + ms ≤ ms0 ∧ C a (.inr (.inl o) :: args) Γ V (fun r Γ V => K ls (pr_ r st) Γ V (uc + mc) (us + ms))
      | _ => C a (.inr (.inl o) :: args) Γ V (fun r Γ V => K ls (pr_ r st) Γ V uc us))
    | _ => False
  | .invokespecial _ => match tk b [] st with
    | some (.inr (.inl o) :: args, st) => cs st ≤ 8 ∧ (match c, tg with
      | -1, _ => o ≠ 0 ∧ K ls st Γ V uc us
      | _, [mc, ms, mc0, ms0] => (Γ.1 o : Int) = c ∧ uc + mc ≤ mc0 ∧ us + ms ≤ ms0 ∧ C a (.inr (.inl o) :: args) Γ V (fun r Γ V => K ls (pr_ r st) Γ V (uc + mc) (us + ms))
      | _, _ => False)
    | _ => False
  | .ireturn => match st with
    | [.inl x] => (c = 1 → x = 0 ∨ x = 1) ∧ Q (some (.inl x)) Γ V
    | _ => False
  | .lreturn => match st with
    | [.inr (.inr x)] => Q (some (.inr (.inr x))) Γ V
    | _ => False
  | .areturn => match st with
    | [.inr (.inl x)] => Q (some (.inr (.inl x))) Γ V
    | _ => False
  | .return_ => match st with
    | [] => Q none Γ V
    | _ => False
  | _ => False
/-- a row of instructions, one behind the other -/
def rn (A : Nat → Nat) (C : Nat → List TV → GM → VH → QT → Prop) (J : Nat → KT) (Q : QT) : Nat → List EN → KT
  | pc, [] => J pc
  | _, e :: l => sm A C e.2.1 e.1 e.2.2.2.1 e.2.2.2.2.1 e.2.2.2.2.2.1 e.2.2.2.2.2.2 (rn A C J Q (e.1 + e.2.2.1) l) J Q
