/-! ===== the heap as a function, and the weakest precondition of a stretch of code ===== -/
abbrev Hp : Type := Nat → Option va_E
abbrev Tr : Type := List Value → Hp → (Option Value → Hp → Prop) → (String → Hp → Prop) → Prop
/-- a method as its caller sees it: number of arguments (with the receiver), what it may make (cells, slots), its transformer -/
abbrev Sg : Type := Nat × (List Value → Hp → Nat × Nat) × Tr
/-- a class's pool: fields (class, place, type, may it be written), new (class, defaults), ldc, getstatic, checkcast (to which classes' numbers), fields of old objects, rows of references (1: of Objects, 2: of int rows) -/
abbrev Cl : Type := (Nat → Option (Nat × Nat × FieldType × Bool)) × (Nat → Option (Nat × List Value)) × (Nat → Option Value) × (Nat → Option Value) × (Nat → Nat → Bool) × (Nat → Nat → Option Value) × (Nat → Nat)
/-- what lies in the heap from the start and is never written: the JDK's one empty array, and byte arrays (of String constants) -/
abbrev Old : Type := Nat × (Nat → Option (Nat × (Nat → Int32)))
def hup (σ : Hp) (a : Nat) (e : va_E) : Hp := fun b => if b = a then some e else σ b
theorem hup_same (σ : Hp) (a : Nat) (e : va_E) : hup σ a e a = some e := if_pos rfl
theorem hup_ne (σ : Hp) {a b : Nat} (e : va_E) (h : b ≠ a) : hup σ a e b = σ b := if_neg h
theorem hup_hup (σ : Hp) (a : Nat) (e e' : va_E) : hup (hup σ a e) a e' = hup σ a e' := by
  funext b; unfold hup; by_cases h : b = a <;> simp [h]
def nth {α : Type} : List α → Nat → Option α
  | [], _ => none
  | a :: _, 0 => some a
  | _ :: l, n + 1 => nth l n
def sto : List (Option Value) → Nat → Value → List (Option Value)
  | [], _, _ => []
  | _ :: l, 0, v => some v :: l
  | x :: l, n + 1, v => x :: sto l n v
def setN : List Value → Nat → Value → List Value
  | [], _, _ => []
  | _ :: l, 0, v => v :: l
  | x :: l, n + 1, v => x :: setN l n v
def popN : Nat → List Value → List Value → Option (List Value × List Value)
  | 0, st, acc => some (acc, st)
  | n + 1, v :: st, acc => popN n st (v :: acc)
  | _ + 1, [], _ => none
def okv : FieldType → Value → Bool
  | .int, .int _ => true
  | .object _, .ref _ => true
  | .object _, .null => true
  | .array _, .ref _ => true
  | .array _, .null => true
  | _, _ => false
/-- the room that a stack's rest takes -/
def rsum : List Value → Nat
  | [] => 0
  | v :: r => v.category + rsum r
def tgt (pc : Nat) (off : Int) : Nat := ((pc : Int) + off).toNat
abbrev Jt : Type := Nat → List (Option Value) → List Value → Hp → Nat → Nat → Prop
def goTo (k : Jt) (pc : Nat) (off : Int) (ls : List (Option Value)) (st : List Value) (σ : Hp) (rc rs : Nat) : Prop := 0 ≤ (pc : Int) + off ∧ k (tgt pc off) ls st σ rc rs
def ifC (c : Prop) (k : Jt) (pc : Nat) (off : Int) (ls : List (Option Value)) (st : List Value) (σ : Hp) (rc rs : Nat) : Prop := 0 ≤ (pc : Int) + off ∧ (c → k (tgt pc off) ls st σ rc rs) ∧ (¬ c → k (pc + 3) ls st σ rc rs)
def ldI (k : Jt) (v : Option (Option Value)) (pc : Nat) (ls : List (Option Value)) (st : List Value) (σ : Hp) (rc rs : Nat) : Prop := match v with
  | some (some (.int x)) => k pc ls (.int x :: st) σ rc rs
  | _ => False
def ldA (k : Jt) (v : Option (Option Value)) (pc : Nat) (ls : List (Option Value)) (st : List Value) (σ : Hp) (rc rs : Nat) : Prop := match v with
  | some (some (.ref x)) => k pc ls (.ref x :: st) σ rc rs
  | some (some .null) => k pc ls (.null :: st) σ rc rs
  | _ => False
def stI (k : Jt) (i : Nat) (pc : Nat) (ls : List (Option Value)) (st : List Value) (σ : Hp) (rc rs : Nat) : Prop := match st with
  | .int x :: r => i < ls.length ∧ k pc (sto ls i (.int x)) r σ rc rs
  | _ => False
def stA (k : Jt) (i : Nat) (pc : Nat) (ls : List (Option Value)) (st : List Value) (σ : Hp) (rc rs : Nat) : Prop := match st with
  | .ref x :: r => i < ls.length ∧ k pc (sto ls i (.ref x)) r σ rc rs
  | .null :: r => i < ls.length ∧ k pc (sto ls i .null) r σ rc rs
  | _ => False
def bin (f : Int32 → Int32 → Int32) (k : Jt) (pc : Nat) (ls : List (Option Value)) (st : List Value) (σ : Hp) (rc rs : Nat) : Prop := match st with
  | .int y :: .int x :: r => k (pc + 1) ls (.int (f x y) :: r) σ rc rs
  | _ => False
def cmp1 (f : Int32 → Prop) (k : Jt) (pc : Nat) (off : Int) (ls : List (Option Value)) (st : List Value) (σ : Hp) (rc rs : Nat) : Prop := match st with
  | .int x :: r => ifC (f x) k pc off ls r σ rc rs
  | _ => False
def cmp2 (f : Int32 → Int32 → Prop) (k : Jt) (pc : Nat) (off : Int) (ls : List (Option Value)) (st : List Value) (σ : Hp) (rc rs : Nat) : Prop := match st with
  | .int y :: .int x :: r => ifC (f x y) k pc off ls r σ rc rs
  | _ => False
def getF (e : Option (Nat × Nat × FieldType × Bool)) (og : Nat → Option Value) (k : Jt) (pc : Nat) (ls : List (Option Value)) (st : List Value) (σ : Hp) (rc rs : Nat) : Prop := match e, st with
  | some (ci, j, _, _), .ref a :: r => match σ a with
    | some (.inr (c, fs)) => c = ci ∧ match nth fs j with
      | some v => k (pc + 3) ls (v :: r) σ rc rs
      | none => False
    | _ => False
  | none, .ref a :: r => match og a with
    | some v => k (pc + 3) ls (v :: r) σ rc rs
    | none => False
  | _, _ => False
def putF (e : Option (Nat × Nat × FieldType × Bool)) (k : Jt) (pc : Nat) (ls : List (Option Value)) (st : List Value) (σ : Hp) (rc rs : Nat) : Prop := match e, st with
  | some (ci, j, ty, true), v :: .ref a :: r => match σ a with
    | some (.inr (c, fs)) => c = ci ∧ j < fs.length ∧ okv ty v = true ∧ k (pc + 3) ls r (hup σ a (.inr (ci, setN fs j v))) rc rs
    | _ => False
  | _, _ => False
/-- an array's length; z: the JDK's one empty array, which lies outside -/
def alen (cy : Nat → ClassId) (O : Old) (k : Jt) (pc : Nat) (ls : List (Option Value)) (st : List Value) (σ : Hp) (rc rs : Nat) : Prop := match st with
  | .ref a :: r => if a = O.1 then k (pc + 1) ls (.int 0 :: r) σ rc rs else match σ a with
    | some (.inl (c, x)) => (c = cy 0 ∨ c = cy 1 ∨ c = cy 2 ∨ c = cy 3 ∨ c = cy 4) ∧ k (pc + 1) ls (.int (Int32.ofNat x.1) :: r) σ rc rs
    | none => match O.2 a with
      | some (n, _) => k (pc + 1) ls (.int (Int32.ofNat n) :: r) σ rc rs
      | none => False
    | _ => False
  | _ => False
def ald (cI : ClassId) (k : Jt) (pc : Nat) (ls : List (Option Value)) (st : List Value) (σ : Hp) (rc rs : Nat) : Prop := match st with
  | .int i :: .ref a :: r => match σ a with
    | some (.inl (c, n, .inl f)) => c = cI ∧ vp_in i n ∧ k (pc + 1) ls (.int (f i.toNatClampNeg) :: r) σ rc rs
    | _ => False
  | _ => False
def bald (cB : ClassId) (O : Old) (k : Jt) (pc : Nat) (ls : List (Option Value)) (st : List Value) (σ : Hp) (rc rs : Nat) : Prop := match st with
  | .int i :: .ref a :: r => match σ a with
    | some (.inl (c, n, .inl f)) => c = cB ∧ vp_in i n ∧ k (pc + 1) ls (.int (f i.toNatClampNeg) :: r) σ rc rs
    | none => match O.2 a with
      | some (n, f) => vp_in i n ∧ k (pc + 1) ls (.int (f i.toNatClampNeg) :: r) σ rc rs
      | none => False
    | _ => False
  | _ => False
def ast (cI : ClassId) (g : Int32 → Int32) (k : Jt) (pc : Nat) (ls : List (Option Value)) (st : List Value) (σ : Hp) (rc rs : Nat) : Prop := match st with
  | .int x :: .int i :: .ref a :: r => match σ a with
    | some (.inl (c, n, .inl f)) => c = cI ∧ vp_in i n ∧ k (pc + 1) ls r (hup σ a (.inl (c, n, .inl (upd f i.toNatClampNeg (g x))))) rc rs
    | _ => False
  | _ => False
def lald (cJ : ClassId) (k : Jt) (pc : Nat) (ls : List (Option Value)) (st : List Value) (σ : Hp) (rc rs : Nat) : Prop := match st with
  | .int i :: .ref a :: r => match σ a with
    | some (.inl (c, n, .inr (.inl f))) => c = cJ ∧ vp_in i n ∧ k (pc + 1) ls (.long (f i.toNatClampNeg) :: r) σ rc rs
    | _ => False
  | _ => False
def last (cJ : ClassId) (k : Jt) (pc : Nat) (ls : List (Option Value)) (st : List Value) (σ : Hp) (rc rs : Nat) : Prop := match st with
  | .long x :: .int i :: .ref a :: r => match σ a with
    | some (.inl (c, n, .inr (.inl f))) => c = cJ ∧ vp_in i n ∧ k (pc + 1) ls r (hup σ a (.inl (c, n, .inr (.inl (vp_updL f i.toNatClampNeg x))))) rc rs
    | _ => False
  | _ => False
/-- arrays of references: of Objects (cO) or of int rows (cII) -/
def rald (cO cII : ClassId) (k : Jt) (pc : Nat) (ls : List (Option Value)) (st : List Value) (σ : Hp) (rc rs : Nat) : Prop := match st with
  | .int i :: .ref a :: r => match σ a with
    | some (.inl (c, n, .inr (.inr (.inr (.inr f))))) => (c = cO ∨ c = cII) ∧ vp_in i n ∧ k (pc + 1) ls (va_rf (f i.toNatClampNeg) :: r) σ rc rs
    | _ => False
  | _ => False
def rast (cO : ClassId) (ob : Nat → Bool) (k : Jt) (pc : Nat) (ls : List (Option Value)) (st : List Value) (σ : Hp) (rc rs : Nat) : Prop := match st with
  | .ref v :: .int i :: .ref a :: r => match σ a with
    | some (.inl (c, n, .inr (.inr (.inr (.inr f))))) => c = cO ∧ vp_in i n ∧ (match σ v with
      | some (.inr (ci, _)) => ob ci = true
      | _ => False) ∧ k (pc + 1) ls r (hup σ a (.inl (c, n, .inr (.inr (.inr (.inr (va_up f i.toNatClampNeg (some v)))))))) rc rs
    | _ => False
  | _ => False
def nwR (cO : ClassId) (z : Nat) (k : Jt) (pc : Nat) (ls : List (Option Value)) (st : List Value) (σ : Hp) (rc rs : Nat) : Prop := match st with
  | .int n :: r => ¬ n < 0 ∧ n.toNatClampNeg ≤ 65536 ∧ 1 ≤ rc ∧ n.toNatClampNeg ≤ rs ∧ ∀ q : Nat, σ q = none → q ≠ z → k (pc + 3) ls (.ref q :: r) (hup σ q (.inl (cO, n.toNatClampNeg, .inr (.inr (.inr (.inr (fun _ => none))))))) (rc - 1) (rs - n.toNatClampNeg)
  | _ => False
/-- new int[8][4] -/
def nwM (cI cII : ClassId) (z : Nat) (k : Jt) (pc : Nat) (ls : List (Option Value)) (st : List Value) (σ : Hp) (rc rs : Nat) : Prop := match st with
  | .int kk :: .int n :: r => kk = 4 ∧ n = 8 ∧ 9 ≤ rc ∧ 40 ≤ rs ∧ ∀ (q : Nat) (rr : Nat → Nat), σ q = none → q ≠ z → (∀ i, i < 8 → σ (rr i) = none ∧ rr i ≠ z ∧ rr i ≠ q) → (∀ i j, i < 8 → j < 8 → rr i = rr j → i = j) →
      k (pc + 4) ls (.ref q :: r) (fun b => if b = q then some (.inl (cII, 8, .inr (.inr (.inr (.inr (fun i => if i < 8 then some (rr i) else none)))))) else if b ∈ (List.range 8).map rr then some (.inl (cI, 4, .inl (fun _ => 0))) else σ b) (rc - 9) (rs - 40)
  | _ => False
def acmp (f : Prop → Prop) (k : Jt) (pc : Nat) (off : Int) (ls : List (Option Value)) (st : List Value) (σ : Hp) (rc rs : Nat) : Prop := match st with
  | .ref b :: .ref a :: r => ifC (f (a = b)) k pc off ls r σ rc rs
  | _ => False
def nwO (e : Option (Nat × List Value)) (z : Nat) (k : Jt) (pc : Nat) (ls : List (Option Value)) (st : List Value) (σ : Hp) (rc rs : Nat) : Prop := match e with
  | some (ci, fs) => 1 ≤ rc ∧ fs.length ≤ rs ∧ ∀ q : Nat, σ q = none → q ≠ z → k (pc + 3) ls (.ref q :: st) (hup σ q (.inr (ci, fs))) (rc - 1) (rs - fs.length)
  | none => False
def nwA (cA : ClassId) (w : Nat → vp_A) (z : Nat) (k : Jt) (pc : Nat) (ls : List (Option Value)) (st : List Value) (σ : Hp) (rc rs : Nat) : Prop := match st with
  | .int n :: r => ¬ n < 0 ∧ n.toNatClampNeg ≤ 65536 ∧ 1 ≤ rc ∧ n.toNatClampNeg ≤ rs ∧ ∀ q : Nat, σ q = none → q ≠ z → k (pc + 2) ls (.ref q :: r) (hup σ q (.inl (cA, w n.toNatClampNeg))) (rc - 1) (rs - n.toNatClampNeg)
  | _ => False
def inv1 (g : Option Sg) (exc : String → Option (Option Nat)) (KX : String → Hp → Prop) (k : Jt) (pc : Nat) (ls : List (Option Value)) (st : List Value) (σ : Hp) (rc rs : Nat) : Prop := match g with
  | some (na, b, T) => match popN na st [] with
    | some (as, r) => rsum r ≤ 8 ∧ (b as σ).1 ≤ rc ∧ (b as σ).2 ≤ rs ∧ T as σ (fun v σ' => k (pc + 3) ls (v.toList ++ r) σ' (rc - (b as σ).1) (rs - (b as σ).2))
        (fun E σ' => match exc E with
          | some (some h) => ∀ q : Nat, k h ls [.ref q] σ' (rc - (b as σ).1) (rs - (b as σ).2)
          | some none => KX E σ'
          | none => False)
    | none => False
  | none => False
def swT (k : Jt) (x : Int32) (pc : Nat) (d lo hi : Int) (offs : List Int) (ls : List (Option Value)) (st : List Value) (σ : Hp) (rc rs : Nat) : Prop :=
  ((x.toInt < lo ∨ hi < x.toInt) → goTo k pc d ls st σ rc rs) ∧ (¬ x.toInt < lo → ¬ hi < x.toInt → match nth offs (x.toInt - lo).toNat with
    | some o => goTo k pc o ls st σ rc rs
    | none => False)
def okLen (i : Instr) (len : Nat) : Bool := match i with
  | .iconst _ | .lconst _ | .aconst_null | .iload_n _ | .aload_n _ | .istore_n _ | .astore_n _ | .iadd | .isub | .imul | .idiv | .irem | .iand | .ior | .ishl | .ishr | .iushr | .i2b | .i2c | .i2l | .lcmp | .dup | .dup_x1 | .dup2 | .pop | .iaload | .iastore | .baload | .bastore | .laload | .lastore | .aaload | .aastore | .arraylength | .ireturn | .areturn | .return_ => len == 1
  | .bipush _ | .iload _ | .aload _ | .istore _ | .astore _ | .newarray _ | .ldc _ => len == 2
  | .sipush _ | .iinc _ _ | .goto _ | .ifCond _ _ | .if_icmp _ _ | .ifnull _ | .ifnonnull _ | .if_acmp _ _ | .getfield _ | .putfield _ | .invokevirtual _ | .invokestatic _ | .invokespecial _ | .new _ | .checkcast _ | .getstatic _ | .anewarray _ => len == 3
  | .multianewarray _ _ => len == 4
  | .tableswitch _ _ _ _ | .lookupswitch _ _ => true
  | _ => false
def stepI (CL : Cl) (cy : Nat → ClassId) (O : Old) (ob : Nat → Bool) (inv : Nat → Nat → Option Sg) (thr : Nat → Option String) (exc : String → Option (Option Nat)) (ret : Option FieldType) (K : Option Value → Hp → Prop) (KX : String → Hp → Prop) (k : Jt) (i : Instr) (pc : Nat) (ls : List (Option Value)) (st : List Value) (σ : Hp) (rc rs : Nat) : Prop := match i with
  | .iconst n => k (pc + 1) ls (.int (Int32.ofInt n) :: st) σ rc rs
  | .bipush n => k (pc + 2) ls (.int (Int8.ofInt n).toInt32 :: st) σ rc rs
  | .sipush n => k (pc + 3) ls (.int (Int16.ofInt n).toInt32 :: st) σ rc rs
  | .lconst n => k (pc + 1) ls (.long (Int64.ofNat n) :: st) σ rc rs
  | .aconst_null => k (pc + 1) ls (.null :: st) σ rc rs
  | .iload_n j => ldI k (nth ls j) (pc + 1) ls st σ rc rs
  | .iload j => ldI k (nth ls j) (pc + 2) ls st σ rc rs
  | .aload_n j => ldA k (nth ls j) (pc + 1) ls st σ rc rs
  | .aload j => ldA k (nth ls j) (pc + 2) ls st σ rc rs
  | .istore_n j => stI k j (pc + 1) ls st σ rc rs
  | .istore j => stI k j (pc + 2) ls st σ rc rs
  | .astore_n j => stA k j (pc + 1) ls st σ rc rs
  | .astore j => stA k j (pc + 2) ls st σ rc rs
  | .iinc j n => match nth ls j with
    | some (some (.int x)) => k (pc + 3) (sto ls j (.int (x + Int32.ofInt n))) st σ rc rs
    | _ => False
  | .iadd => bin (fun x y => x + y) k pc ls st σ rc rs
  | .isub => bin (fun x y => x - y) k pc ls st σ rc rs
  | .imul => bin (fun x y => x * y) k pc ls st σ rc rs
  | .iand => bin (fun x y => x &&& y) k pc ls st σ rc rs
  | .ior => bin (fun x y => x ||| y) k pc ls st σ rc rs
  | .ishl => bin (fun x y => x <<< (y &&& 31)) k pc ls st σ rc rs
  | .ishr => bin (fun x y => x >>> (y &&& 31)) k pc ls st σ rc rs
  | .iushr => bin (fun x y => (x.toUInt32 >>> (y.toUInt32 &&& Int32.toUInt32 31)).toInt32) k pc ls st σ rc rs
  | .idiv => match st with
    | .int y :: .int x :: r => ¬ y = 0 ∧ k (pc + 1) ls (.int (x / y) :: r) σ rc rs
    | _ => False
  | .irem => match st with
    | .int y :: .int x :: r => ¬ y = 0 ∧ k (pc + 1) ls (.int (x - x / y * y) :: r) σ rc rs
    | _ => False
  | .i2b => match st with
    | .int x :: r => k (pc + 1) ls (.int x.toInt8.toInt32 :: r) σ rc rs
    | _ => False
  | .i2c => match st with
    | .int x :: r => k (pc + 1) ls (.int (x.toUInt32 % 65536).toInt32 :: r) σ rc rs
    | _ => False
  | .i2l => match st with
    | .int x :: r => k (pc + 1) ls (.long x.toInt64 :: r) σ rc rs
    | _ => False
  | .lcmp => match st with
    | .long y :: .long x :: r => k (pc + 1) ls (.int (lg_cmp x y) :: r) σ rc rs
    | _ => False
  | .dup => match st with
    | v :: r => v.category = 1 ∧ k (pc + 1) ls (v :: v :: r) σ rc rs
    | _ => False
  | .dup_x1 => match st with
    | v :: w :: r => v.category = 1 ∧ w.category = 1 ∧ k (pc + 1) ls (v :: w :: v :: r) σ rc rs
    | _ => False
  | .dup2 => match st with
    | v :: w :: r => v.category = 1 ∧ w.category = 1 ∧ k (pc + 1) ls (v :: w :: v :: w :: r) σ rc rs
    | _ => False
  | .pop => match st with
    | v :: r => v.category = 1 ∧ k (pc + 1) ls r σ rc rs
    | _ => False
  | .goto o => goTo k pc o ls st σ rc rs
  | .ifCond .eq o => cmp1 (fun x => x = 0) k pc o ls st σ rc rs
  | .ifCond .ne o => cmp1 (fun x => ¬ x = 0) k pc o ls st σ rc rs
  | .ifCond .lt o => cmp1 (fun x => x < 0) k pc o ls st σ rc rs
  | .ifCond .ge o => cmp1 (fun x => 0 ≤ x) k pc o ls st σ rc rs
  | .ifCond .gt o => cmp1 (fun x => 0 < x) k pc o ls st σ rc rs
  | .ifCond .le o => cmp1 (fun x => x ≤ 0) k pc o ls st σ rc rs
  | .if_icmp .eq o => cmp2 (fun x y => x = y) k pc o ls st σ rc rs
  | .if_icmp .ne o => cmp2 (fun x y => ¬ x = y) k pc o ls st σ rc rs
  | .if_icmp .lt o => cmp2 (fun x y => x < y) k pc o ls st σ rc rs
  | .if_icmp .ge o => cmp2 (fun x y => y ≤ x) k pc o ls st σ rc rs
  | .if_icmp .gt o => cmp2 (fun x y => y < x) k pc o ls st σ rc rs
  | .if_icmp .le o => cmp2 (fun x y => x ≤ y) k pc o ls st σ rc rs
  | .ifnull o => match st with
    | .ref _ :: r => k (pc + 3) ls r σ rc rs
    | .null :: r => goTo k pc o ls r σ rc rs
    | _ => False
  | .ifnonnull o => match st with
    | .ref _ :: r => goTo k pc o ls r σ rc rs
    | .null :: r => k (pc + 3) ls r σ rc rs
    | _ => False
  | .getfield j => getF (CL.1 j) (CL.2.2.2.2.2.1 j) k pc ls st σ rc rs
  | .putfield j => putF (CL.1 j) k pc ls st σ rc rs
  | .arraylength => alen cy O k pc ls st σ rc rs
  | .iaload => ald (cy 0) k pc ls st σ rc rs
  | .baload => bald (cy 1) O k pc ls st σ rc rs
  | .iastore => ast (cy 0) (fun x => x) k pc ls st σ rc rs
  | .bastore => ast (cy 1) (fun x => vp_nar .byte x) k pc ls st σ rc rs
  | .laload => lald (cy 2) k pc ls st σ rc rs
  | .lastore => last (cy 2) k pc ls st σ rc rs
  | .aaload => rald (cy 3) (cy 4) k pc ls st σ rc rs
  | .aastore => rast (cy 3) ob k pc ls st σ rc rs
  | .anewarray j => CL.2.2.2.2.2.2 j = 1 ∧ nwR (cy 3) O.1 k pc ls st σ rc rs
  | .multianewarray j 2 => CL.2.2.2.2.2.2 j = 2 ∧ nwM (cy 0) (cy 4) O.1 k pc ls st σ rc rs
  | .if_acmp .eq o => acmp (fun x => x) k pc o ls st σ rc rs
  | .if_acmp .ne o => acmp (fun x => ¬ x) k pc o ls st σ rc rs
  | .newarray .int => nwA (cy 0) (fun n => (n, .inl (fun _ => 0))) O.1 k pc ls st σ rc rs
  | .newarray .byte => nwA (cy 1) (fun n => (n, .inl (fun _ => 0))) O.1 k pc ls st σ rc rs
  | .newarray .long => nwA (cy 2) (fun n => (n, .inr (.inl (fun _ => 0)))) O.1 k pc ls st σ rc rs
  | .new j => match thr pc with
    | some E => 1 ≤ rc ∧ 6 ≤ rs ∧ st.length ≤ 4 ∧ KX E σ
    | none => nwO (CL.2.1 j) O.1 k pc ls st σ rc rs
  | .ldc j => match CL.2.2.1 j with
    | some v => k (pc + 2) ls (v :: st) σ rc rs
    | none => False
  | .getstatic j => match CL.2.2.2.1 j with
    | some v => k (pc + 3) ls (v :: st) σ rc rs
    | none => False
  | .checkcast j => match st with
    | .ref a :: r => match σ a with
      | some (.inr (c, _)) => CL.2.2.2.2.1 j c = true ∧ k (pc + 3) ls (.ref a :: r) σ rc rs
      | _ => False
    | _ => False
  | .invokevirtual j => inv1 (inv 0 j) exc KX k pc ls st σ rc rs
  | .invokestatic j => inv1 (inv 1 j) exc KX k pc ls st σ rc rs
  | .invokespecial j => inv1 (inv 2 j) exc KX k pc ls st σ rc rs
  | .tableswitch d lo hi offs => match st with
    | .int x :: r => swT k x pc d lo hi offs.toList ls r σ rc rs
    | _ => False
  | .lookupswitch d ps => match st with
    | .int x :: r => (ps.toList.zip (ps.toList.drop 1)).all (fun (a, next) => a.1 < next.1) = true ∧ goTo k pc (Op.lookupswitch.offset ps.toList d x.toInt) ls r σ rc rs
    | _ => False
  | .ireturn => match st, ret with
    | [.int v], some ty => narrow ty (.int v) = .int v ∧ K (some (.int v)) σ
    | _, _ => False
  | .areturn => match st, ret with
    | [.ref a], some (.object _) => K (some (.ref a)) σ
    | [.null], some (.object _) => K (some .null) σ
    | [.ref a], some (.array _) => K (some (.ref a)) σ
    | _, _ => False
  | .return_ => match st, ret with
    | [], none => K none σ
    | _, _ => False
  | _ => False
def wp (CL : Cl) (cy : Nat → ClassId) (O : Old) (ob : Nat → Bool) (cc : ByteArray) (inv : Nat → Nat → Option Sg) (thr : Nat → Option String) (exc : String → Option (Option Nat)) (ret : Option FieldType) (K : Option Value → Hp → Prop) (KX : String → Hp → Prop) (cut : Nat → Bool) (J : Jt) : Nat → Jt
  | 0 => J
  | n + 1 => fun pc ls st σ rc rs => match cut pc with
    | true => J pc ls st σ rc rs
    | false => match decode cc pc with
      | .ok (i, len) => okLen i len = true ∧ stepI CL cy O ob inv thr exc ret K KX (wp CL cy O ob cc inv thr exc ret K KX cut J n) i pc ls st σ rc rs
      | .error _ => False
