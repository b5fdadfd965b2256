/-! THE SMALL MACHINE: bytecode over a heap of shapes, ints and addresses. Addresses are small numbers: 0 the script, then in the order of making; 1000000 and on: String constants. -/
abbrev zHp : Type := List (Nat × Nat) × (Nat → Nat → Int32) × (Nat → Nat → Nat)
def zmk : Value := .retAddr 0
def zup {α : Type} (f : Nat → Nat → α) (a k : Nat) (v : α) : Nat → Nat → α := fun x j => if x = a ∧ j = k then v else f x j
def zcell {α : Type} (f : Nat → Nat → α) (a : Nat) (g : Nat → α) : Nat → Nat → α := fun x j => if x = a then g j else f x j
def zcop (f : Nat → Nat → Int32) (src sp dst dp n : Nat) : Nat → Nat → Int32 := fun x j => if x = dst ∧ dp ≤ j ∧ j < dp + n then f src (sp + (j - dp)) else f x j
def zshp (Z : List (Nat × Nat)) (a : Nat) : Nat × Nat := Z.getD a (99, 0)
def zix (i : Int32) : Nat := i.toNatClampNeg
def zinb (i : Int32) (n : Nat) : Bool := decide (¬ i < 0) && decide (zix i < n)
def zisO (Z : List (Nat × Nat)) (a ci : Nat) : Bool := decide (zshp Z a = (0, ci))
def zisA (Z : List (Nat × Nat)) (a k : Nat) : Bool := decide ((zshp Z a).1 = k)
def zlen (Z : List (Nat × Nat)) (a : Nat) : Nat := (zshp Z a).2
def zbool (x : Int32) : Bool := decide (x = 0) || decide (x = 1)
def zkl : Value → Value
  | .long _ => zmk
  | .double _ => zmk
  | v => v
/-- storing a value at a local: a long that ended there is gone -/
def zsto : List Value → Nat → Value → List Value
  | [], _, _ => []
  | _ :: vs, 0, v => v :: vs
  | u :: vs, n + 1, v => (bif n == 0 then zkl u else u) :: zsto vs n v
def zspr : List Value → List Value
  | [] => []
  | .long x :: vs => .long x :: zmk :: zspr vs
  | .double x :: vs => .double x :: zmk :: zspr vs
  | v :: vs => v :: zspr vs
def zini (z : Nat) (As : List Value) : List Value := zspr As ++ List.replicate (zmL z - (zspr As).length) zmk
def zcats (st : List Value) : Nat := (st.map fun v => v.category).sum
abbrev zRes : Type := (Nat × List Value × List Value × zHp) ⊕ (Option Value ⊕ (Nat × List Value × List Value))
def zgo (g : Bool) (pc : Nat) (lv st : List Value) (hp : zHp) : Option (Bool × zRes) := some (g, .inl (pc, lv, st, hp))
def zcond (c : ClassFile.Cond) (x y : Int32) : Bool := match c with
  | .eq => decide (x = y)
  | .ne => decide (¬ x = y)
  | .lt => decide (x < y)
  | .ge => decide (y ≤ x)
  | .gt => decide (y < x)
  | .le => decide (x ≤ y)
/-- the place to which a switch leads -/
def zswT (pc : Nat) (dflt lo hi : Int) (offs : Array Int) (x : Int32) : Nat :=
  if x.toInt < lo ∨ hi < x.toInt then ((pc : Int) + dflt).toNat else ((pc : Int) + offs.getD (x.toInt - lo).toNat 0).toNat
def zswL (pc : Nat) (dflt : Int) (ps : Array (Int × Int)) (x : Int32) : Nat := ((pc : Int) + Op.lookupswitch.offset ps.toList dflt x.toInt).toNat
/-- the class to which the elements of an array of references belong -/
def zelem (k : Nat) : Nat := ([7, 3, 8, 1, 9, 4] : List Nat).getD (k - 3) 99
def zret (y : Nat) (x : Int32) : Bool := match (zM y).2.2.2.1 with
  | some .int => true
  | some .boolean => zbool x
  | _ => false
def zretA (y : Nat) : Bool := match (zM y).2.2.2.1 with
  | some (.object _) => true
  | some (.array _) => true
  | _ => false
def zcall (z : Nat) (st : List Value) (hp : zHp) : Option (Bool × zRes) :=
  match zM z with
  | (_, _, maxL, _, ci, kd, np) =>
    bif kd == 0 then
      some (decide (zcats (st.drop np) ≤ 8) && decide (np ≤ st.length) && decide ((zspr (st.take np).reverse).length ≤ maxL), .inr (.inr (z, (st.take np).reverse, st.drop np)))
    else match st.drop np with
      | .ref o :: rest => some (decide (zcats rest ≤ 8) && decide ((zspr (.ref o :: (st.take np).reverse)).length ≤ maxL) && zisO hp.1 o ci, .inr (.inr (z, .ref o :: (st.take np).reverse, rest)))
      | _ => none
/-- the letters of the two String constants -/
def zstr (j : Nat) : List Nat := ([[97, 105, 109, 32, 32, 32, 98, 117, 114, 110, 32, 32, 100, 111, 99, 107, 32, 32, 102, 114, 101, 101, 32, 32, 100, 105, 103, 32, 32, 32, 109, 97, 107, 101, 32, 32, 103, 105, 118, 101, 32, 32, 115, 116, 105, 108, 108, 32, 115, 104, 101, 100, 32, 32, 99, 108, 97, 105, 109, 32, 119, 97, 105, 116, 32, 32, 117, 110, 116, 105, 108, 32, 105, 102, 32, 32, 32, 32, 119, 104, 105, 108, 101, 32, 101, 108, 115, 101, 32, 32], [120, 121, 117, 118, 102, 119, 109, 116, 107, 115]] : List (List Nat)).getD j []
def zixOf (l : List Nat) (c : Int32) (k : Nat) : Int32 := match l with
  | [] => -1
  | b :: r => if nI b = c then nI k else zixOf r c (k + 1)
def zint2 (f : Int32 → Int32 → Int32) (r : zRow) (lv st : List Value) (hp : zHp) : Option (Bool × zRes) := match st with
  | .int y :: .int x :: t => zgo true (r.1 + r.2.1) lv (.int (f x y) :: t) hp
  | _ => none
def zlong2 (f : Int64 → Int64 → Int64) (r : zRow) (lv st : List Value) (hp : zHp) : Option (Bool × zRes) := match st with
  | .long y :: .long x :: t => zgo true (r.1 + r.2.1) lv (.long (f x y) :: t) hp
  | _ => none
def zstp (y : Nat) (r : zRow) (lv st : List Value) (hp : zHp) : Option (Bool × zRes) :=
  match r with
  | (pc, len, ins, v, b, c) =>
    match ins with
    | .iconst _ => zgo true (pc + len) lv (v :: st) hp
    | .bipush _ => zgo true (pc + len) lv (v :: st) hp
    | .sipush _ => zgo true (pc + len) lv (v :: st) hp
    | .ldc _ => zgo true (pc + len) lv (v :: st) hp
    | .ldc_w _ => zgo true (pc + len) lv (v :: st) hp
    | .ldc2_w _ => zgo true (pc + len) lv (v :: st) hp
    | .lconst _ => zgo true (pc + len) lv (v :: st) hp
    | .iload _ => match lv[b]? with | some (.int x) => zgo true (pc + len) lv (.int x :: st) hp | _ => none
    | .iload_n _ => match lv[b]? with | some (.int x) => zgo true (pc + len) lv (.int x :: st) hp | _ => none
    | .lload _ => match lv[b]? with | some (.long x) => zgo true (pc + len) lv (.long x :: st) hp | _ => none
    | .lload_n _ => match lv[b]? with | some (.long x) => zgo true (pc + len) lv (.long x :: st) hp | _ => none
    | .aload _ => match lv[b]? with | some (.ref x) => zgo true (pc + len) lv (.ref x :: st) hp | _ => none
    | .aload_n _ => match lv[b]? with | some (.ref x) => zgo true (pc + len) lv (.ref x :: st) hp | _ => none
    | .istore _ => match st with | .int x :: t => zgo (decide (b < lv.length)) (pc + len) (zsto lv b (.int x)) t hp | _ => none
    | .istore_n _ => match st with | .int x :: t => zgo (decide (b < lv.length)) (pc + len) (zsto lv b (.int x)) t hp | _ => none
    | .lstore _ => match st with | .long x :: t => zgo (decide (b + 1 < lv.length)) (pc + len) ((zsto lv b (.long x)).set (b + 1) zmk) t hp | _ => none
    | .lstore_n _ => match st with | .long x :: t => zgo (decide (b + 1 < lv.length)) (pc + len) ((zsto lv b (.long x)).set (b + 1) zmk) t hp | _ => none
    | .astore _ => match st with | .ref x :: t => zgo (decide (b < lv.length)) (pc + len) (zsto lv b (.ref x)) t hp | _ => none
    | .astore_n _ => match st with | .ref x :: t => zgo (decide (b < lv.length)) (pc + len) (zsto lv b (.ref x)) t hp | _ => none
    | .iinc _ _ => match lv[b]?, v with | some (.int x), .int k => zgo (decide (b < lv.length)) (pc + len) (zsto lv b (.int (x + k))) st hp | _, _ => none
    | .iadd => zint2 (fun x y => x + y) r lv st hp
    | .isub => zint2 (fun x y => x - y) r lv st hp
    | .imul => zint2 (fun x y => x * y) r lv st hp
    | .iand => zint2 (fun x y => x &&& y) r lv st hp
    | .ior => zint2 (fun x y => x ||| y) r lv st hp
    | .ixor => zint2 (fun x y => x ^^^ y) r lv st hp
    | .ishl => zint2 (fun x y => x <<< (y &&& 31)) r lv st hp
    | .ishr => zint2 (fun x y => x >>> (y &&& 31)) r lv st hp
    | .iushr => zint2 (fun x y => (x.toUInt32 >>> (y.toUInt32 &&& Int32.toUInt32 31)).toInt32) r lv st hp
    | .idiv => match st with | .int y :: .int x :: t => zgo (decide (¬ y = 0)) (pc + len) lv (.int (x / y) :: t) hp | _ => none
    | .irem => match st with | .int y :: .int x :: t => zgo (decide (¬ y = 0)) (pc + len) lv (.int (x - x / y * y) :: t) hp | _ => none
    | .ineg => match st with | .int x :: t => zgo true (pc + len) lv (.int (-x) :: t) hp | _ => none
    | .ladd => zlong2 (fun x y => x + y) r lv st hp
    | .lsub => zlong2 (fun x y => x - y) r lv st hp
    | .lmul => zlong2 (fun x y => x * y) r lv st hp
    | .ldiv => match st with | .long y :: .long x :: t => zgo (decide (¬ y = 0)) (pc + len) lv (.long (x / y) :: t) hp | _ => none
    | .lcmp => match st with | .long y :: .long x :: t => zgo true (pc + len) lv (.int (lg_cmp x y) :: t) hp | _ => none
    | .i2l => match st with | .int x :: t => zgo true (pc + len) lv (.long x.toInt64 :: t) hp | _ => none
    | .l2i => match st with | .long x :: t => zgo true (pc + len) lv (.int x.toInt32 :: t) hp | _ => none
    | .i2s => match st with | .int x :: t => zgo true (pc + len) lv (.int x.toInt16.toInt32 :: t) hp | _ => none
    | .i2c => match st with | .int x :: t => zgo true (pc + len) lv (.int (x.toUInt32 % 65536).toInt32 :: t) hp | _ => none
    | .pop => match st with | .int _ :: t => zgo true (pc + len) lv t hp | .ref _ :: t => zgo true (pc + len) lv t hp | _ => none
    | .dup => match st with | .int x :: t => zgo true (pc + len) lv (.int x :: .int x :: t) hp | .ref x :: t => zgo true (pc + len) lv (.ref x :: .ref x :: t) hp | _ => none
    | .dup_x1 => match st with | .int x :: .ref o :: t => zgo true (pc + len) lv (.int x :: .ref o :: .int x :: t) hp | _ => none
    | .dup2 => match st with | .int x :: .ref o :: t => zgo true (pc + len) lv (.int x :: .ref o :: .int x :: .ref o :: t) hp | _ => none
    | .goto _ => zgo true b lv st hp
    | .ifCond cd _ => match st with | .int x :: t => zgo true (bif zcond cd x 0 then b else pc + len) lv t hp | _ => none
    | .if_icmp cd _ => match st with | .int y :: .int x :: t => zgo true (bif zcond cd x y then b else pc + len) lv t hp | _ => none
    | .tableswitch dflt lo hi offs => match st with | .int x :: t => zgo true (zswT pc dflt lo hi offs x) lv t hp | _ => none
    | .lookupswitch dflt ps => match st with | .int x :: t => zgo true (zswL pc dflt ps x) lv t hp | _ => none
    | .getfield _ => match st with
      | .ref o :: t => bif zfk b c == 0 then zgo (zisO hp.1 o b && decide (¬ hp.2.2 o c = 0)) (pc + len) lv (.ref (hp.2.2 o c) :: t) hp
        else zgo (zisO hp.1 o b) (pc + len) lv (.int (hp.2.1 o c) :: t) hp
      | _ => none
    | .putfield _ => match st with
      | .ref x :: .ref o :: t => zgo (zisO hp.1 o b && decide (zfk b c = 0) && decide (¬ x = 0)) (pc + len) lv t (hp.1, hp.2.1, zup hp.2.2 o c x)
      | .int x :: .ref o :: t => zgo (zisO hp.1 o b && (decide (zfk b c = 1) || (decide (zfk b c = 2) && zbool x))) (pc + len) lv t (hp.1, zup hp.2.1 o c x, hp.2.2)
      | _ => none
    | .arraylength => match st with | .ref o :: t => zgo (decide (1 ≤ (zshp hp.1 o).1 ∧ (zshp hp.1 o).1 ≤ 9)) (pc + len) lv (.int (nI (zlen hp.1 o)) :: t) hp | _ => none
    | .iaload => match st with | .int i :: .ref o :: t => zgo (zisA hp.1 o 1 && zinb i (zlen hp.1 o)) (pc + len) lv (.int (hp.2.1 o (zix i)) :: t) hp | _ => none
    | .saload => match st with | .int i :: .ref o :: t => zgo (zisA hp.1 o 2 && zinb i (zlen hp.1 o)) (pc + len) lv (.int (hp.2.1 o (zix i)) :: t) hp | _ => none
    | .aaload => match st with | .int i :: .ref o :: t => zgo (decide (3 ≤ (zshp hp.1 o).1 ∧ (zshp hp.1 o).1 ≤ 9) && zinb i (zlen hp.1 o) && decide (¬ hp.2.2 o (zix i) = 0)) (pc + len) lv (.ref (hp.2.2 o (zix i)) :: t) hp | _ => none
    | .iastore => match st with | .int x :: .int i :: .ref o :: t => zgo (decide (¬ o = 0) && zisA hp.1 o 1 && zinb i (zlen hp.1 o)) (pc + len) lv t (hp.1, zup hp.2.1 o (zix i) x, hp.2.2) | _ => none
    | .sastore => match st with | .int x :: .int i :: .ref o :: t => zgo (decide (¬ o = 0) && zisA hp.1 o 2 && zinb i (zlen hp.1 o)) (pc + len) lv t (hp.1, zup hp.2.1 o (zix i) x.toInt16.toInt32, hp.2.2) | _ => none
    | .aastore => match st with | .ref x :: .int i :: .ref o :: t => zgo (decide (3 ≤ (zshp hp.1 o).1 ∧ (zshp hp.1 o).1 ≤ 8) && zinb i (zlen hp.1 o) && zisO hp.1 x (zelem (zshp hp.1 o).1)) (pc + len) lv t (hp.1, hp.2.1, zup hp.2.2 o (zix i) x) | _ => none
    | .new _ => zgo (decide (hp.1.length < 900000)) (pc + len) lv (.ref hp.1.length :: st) (hp.1 ++ [(0, b)], zcell hp.2.1 hp.1.length (fun _ => 0), zcell hp.2.2 hp.1.length (fun _ => 0))
    | .newarray _ => match st with | .int n :: t => zgo (decide (¬ n < 0) && decide (zix n ≤ 100000) && decide (hp.1.length < 900000)) (pc + len) lv (.ref hp.1.length :: t) (hp.1 ++ [(b, zix n)], zcell hp.2.1 hp.1.length (fun _ => 0), zcell hp.2.2 hp.1.length (fun _ => 0)) | _ => none
    | .anewarray _ => match st with | .int n :: t => zgo (decide (¬ n < 0) && decide (zix n ≤ 100000) && decide (hp.1.length < 900000)) (pc + len) lv (.ref hp.1.length :: t) (hp.1 ++ [(b, zix n)], zcell hp.2.1 hp.1.length (fun _ => 0), zcell hp.2.2 hp.1.length (fun _ => 0)) | _ => none
    | .multianewarray _ _ => match st with
      | .int k :: .int n :: t => zgo (decide (¬ n < 0) && decide (¬ k < 0) && decide (zix n ≤ 1000) && decide (zix k ≤ 1000) && decide (hp.1.length < 900000)) (pc + len) lv (.ref hp.1.length :: t)
          (hp.1 ++ ((9, zix n) :: List.replicate (zix n) (2, zix k)), (fun x j => if hp.1.length ≤ x then 0 else hp.2.1 x j), (fun x j => if x = hp.1.length ∧ j < zix n then hp.1.length + 1 + j else if hp.1.length ≤ x then 0 else hp.2.2 x j))
      | _ => none
    | .invokestatic _ => bif b == 0 then zcall c st hp else bif b == 1 then (match st with
      | .int n :: .int dp :: .ref dst :: .int sp :: .ref src :: t => zgo (decide (¬ sp < 0) && decide (¬ dp < 0) && decide (¬ n < 0) && decide (¬ src = 0) && decide (¬ dst = 0) && decide (zix sp + zix n ≤ zlen hp.1 src) && decide (zix dp + zix n ≤ zlen hp.1 dst) && decide (zcats t ≤ 8) &&
          ((zisA hp.1 src 1 && zisA hp.1 dst 1) || (zisA hp.1 src 2 && zisA hp.1 dst 2 && (List.range (zix n)).all (fun i => decide ((hp.2.1 src (zix sp + i)).toInt16.toInt32 = hp.2.1 src (zix sp + i))))))
          (pc + len) lv t (hp.1, zcop hp.2.1 src (zix sp) dst (zix dp) (zix n), hp.2.2)
      | _ => none) else bif b == 5 then (match st with
      | .int y :: .int x :: t => zgo (decide (zcats t ≤ 8)) (pc + len) lv (.int (if y < x then y else x) :: t) hp
      | _ => none) else bif b == 6 then (match st with
      | .int y :: .int x :: t => zgo (decide (zcats t ≤ 8)) (pc + len) lv (.int (if x < y then y else x) :: t) hp
      | _ => none) else bif b == 7 then (match st with
      | .int x :: t => zgo (decide (zcats t ≤ 8)) (pc + len) lv (.int (if 0 ≤ x then x else 0 - x) :: t) hp
      | _ => none) else none
    | .invokespecial _ => bif b == 0 then zcall c st hp else bif b == 2 then (match st with | .ref _ :: t => zgo (decide (zcats t ≤ 8)) (pc + len) lv t hp | _ => none) else none
    | .invokevirtual _ => bif b == 0 then zcall c st hp else bif b == 3 then (match st with
      | .int i :: .ref o :: t => zgo (decide (1000000 ≤ o) && zinb i (zstr (o - 1000000)).length && decide (zcats t ≤ 8)) (pc + len) lv (.int (nI ((zstr (o - 1000000)).getD (zix i) 0)) :: t) hp
      | _ => none) else bif b == 4 then (match st with
      | .int x :: .ref o :: t => zgo (decide (1000000 ≤ o) && decide (o < 1000002) && decide (0 ≤ x) && decide (x < 256) && decide (zcats t ≤ 8)) (pc + len) lv (.int (zixOf (zstr (o - 1000000)) x 0) :: t) hp
      | _ => none) else none
    | .ireturn => match st with | [.int x] => some (zret y x, .inr (.inl (some (.int x)))) | _ => none
    | .lreturn => match st with | [.long x] => some (decide ((zM y).2.2.2.1 = some .long), .inr (.inl (some (.long x)))) | _ => none
    | .areturn => match st with | [.ref x] => some (zretA y, .inr (.inl (some (.ref x)))) | _ => none
    | .return_ => match st with | [] => some (decide ((zM y).2.2.2.1 = none), .inr (.inl none)) | _ => none
    | _ => none
def zfetch (y pc : Nat) : Option zRow := (zK y).find? (fun r => r.1 == pc)
def zrun : Nat → Nat → Nat → Nat → List Value → List Value → zHp → Option (Option Value × zHp)
  | 0, _, _, _, _, _, _ => none
  | n + 1, d, y, pc, lv, st, hp =>
    match zfetch y pc with
    | none => none
    | some r =>
      match zstp y r lv st hp with
      | none => none
      | some (g, .inl (pc', lv', st', hp')) => bif g then zrun n d y pc' lv' st' hp' else none
      | some (g, .inr (.inl v)) => bif g then some (v, hp) else none
      | some (g, .inr (.inr (z, As, rest))) =>
        bif g then (match d with
          | 0 => none
          | d' + 1 => match zrun n d' z 0 (zini z As) [] hp with
            | none => none
            | some (v, hp2) => zrun n (d' + 1) y (pc + 3) lv (v.toList ++ rest) hp2) else none
