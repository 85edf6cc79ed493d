/-! the small machine: one store of numbered cells; ints, longs, references, how many cells there are -/
abbrev zSt : Type := (Nat → Nat → Int32) × (Nat → Nat → Int64) × (Nat → Nat → Value) × Nat
abbrev zLo : Type := List (Nat × Value)
def zuI (σ : zSt) (a j : Nat) (v : Int32) : zSt := (fun b => if b = a then upd (σ.1 b) j v else σ.1 b, σ.2)
def zuJ (σ : zSt) (a j : Nat) (v : Int64) : zSt := (σ.1, fun b => if b = a then vp_updL (σ.2.1 b) j v else σ.2.1 b, σ.2.2)
def zuR (σ : zSt) (a j : Nat) (v : Value) : zSt := (σ.1, σ.2.1, fun b => if b = a then va_up (σ.2.2.1 b) j v else σ.2.2.1 b, σ.2.2.2)
def zuN (σ : zSt) : zSt := (fun b => if b = σ.2.2.2 then fun _ => 0 else σ.1 b, fun b => if b = σ.2.2.2 then fun _ => 0 else σ.2.1 b, fun b => if b = σ.2.2.2 then fun _ => .null else σ.2.2.1 b, σ.2.2.2 + 1)
-- stack and locals
def zst1 (L : zLo) (i : Nat) (v : Value) : zLo := (i, v) :: L.filter (fun q => !(q.1 == i) && !(q.1 + 1 == i && q.2.category == 2))
def zst2 (L : zLo) (i : Nat) (v : Value) : zLo := (i, v) :: L.filter (fun q => !(q.1 == i) && (!(q.1 == i + 1) && !(q.1 + 1 == i && q.2.category == 2)))
def zlI (o : Option Value) (G : Int32 → Prop) : Prop := match o with
  | some (.int x) => G x
  | _ => False
def zlJ (o : Option Value) (G : Int64 → Prop) : Prop := match o with
  | some (.long x) => G x
  | _ => False
def zlR (o : Option Value) (G : Nat → Prop) : Prop := match o with
  | some (.ref x) => G x
  | _ => False
def zsI (S : List Value) (G : Int32 → List Value → Prop) : Prop := match S with
  | .int x :: r => G x r
  | _ => False
def zsJ (S : List Value) (G : Int64 → List Value → Prop) : Prop := match S with
  | .long x :: r => G x r
  | _ => False
def zsR (S : List Value) (G : Nat → List Value → Prop) : Prop := match S with
  | .ref x :: r => G x r
  | _ => False
def zsII (S : List Value) (G : Int32 → Int32 → List Value → Prop) : Prop := match S with
  | .int y :: .int x :: r => G x y r
  | _ => False
def zsJJ (S : List Value) (G : Int64 → Int64 → List Value → Prop) : Prop := match S with
  | .long y :: .long x :: r => G x y r
  | _ => False
def zsA (S : List Value) (G : Nat → Int32 → List Value → Prop) : Prop := match S with
  | .int i :: .ref a :: r => G a i r
  | _ => False
def zsAI (S : List Value) (G : Nat → Int32 → Int32 → List Value → Prop) : Prop := match S with
  | .int x :: .int i :: .ref a :: r => G a i x r
  | _ => False
def zsAJ (S : List Value) (G : Nat → Int32 → Int64 → List Value → Prop) : Prop := match S with
  | .long x :: .int i :: .ref a :: r => G a i x r
  | _ => False
def zs1 (S : List Value) (G : Value → List Value → Prop) : Prop := match S with
  | v :: r => G v r
  | _ => False
def zs2 (S : List Value) (G : Value → Value → List Value → Prop) : Prop := match S with
  | v :: w :: r => G v w r
  | _ => False
def zsP (S : List Value) (G : Value → Nat → List Value → Prop) : Prop := match S with
  | v :: .ref a :: r => G v a r
  | _ => False
def zc0 (c : Jvm.ClassFile.Cond) (x : Int32) : Prop := match c with
  | .eq => x = 0 | .ne => ¬ x = 0 | .lt => x < 0 | .ge => 0 ≤ x | .gt => 0 < x | .le => x ≤ 0
def zc2 (c : Jvm.ClassFile.Cond) (x y : Int32) : Prop := match c with
  | .eq => x = y | .ne => ¬ x = y | .lt => x < y | .ge => y ≤ x | .gt => y < x | .le => x ≤ y
def ztg (pc : Nat) (off : Int) : Nat := ((pc : Int) + off).toNat
def zgF (σ : zSt) (a k : Nat) (ty : FieldType) (G : Value → Prop) : Prop := match ty with
  | .int => G (.int (σ.1 a k))
  | .boolean => G (.int (σ.1 a k))
  | .long => G (.long (σ.2.1 a k))
  | _ => ∃ b, σ.2.2.1 a k = .ref b ∧ G (.ref b)
def zpF (σ : zSt) (a k : Nat) (ty : FieldType) (v : Value) (G : zSt → Prop) : Prop := match ty, v with
  | .int, .int x => G (zuI σ a k x)
  | .boolean, .int x => (x = 0 ∨ x = 1) ∧ G (zuI σ a k x)
  | .long, .long x => G (zuJ σ a k x)
  | .array _, .ref b => G (zuR σ a k (.ref b))
  | .object _, .ref b => G (zuR σ a k (.ref b))
  | _, _ => False
def zcs (S : List Value) : Nat := (S.map fun v => v.category).sum
/-- who the call goes to, and what is left on the stack -/
def zrc (σ : zSt) (o m k : Nat) (as : List Value) : Prop := match k with
  | 0 => True
  | 1 => match as with
    | .ref b :: _ => b < σ.2.2.2 ∧ zkd b = (0, zOw m)
    | _ => False
  | _ => match as with
    | .ref _ :: _ => True
    | _ => False
def zna (m k : Nat) : Nat := if k = 0 then zNa m else zNa m + 1
def zkt (k : Nat) : Nat := match k with
  | 0 => 0 | 10 => 0 | 4 => 0 | 5 => 0 | 1 => 1 | 2 => 2 | 12 => 2 | 3 => 2 | _ => 9
def zcall (C : Nat → List Value → zSt → (Option Value → zSt → Prop) → Prop) (lim t o i : Nat) (S : List Value) (σ : zSt) (G : List Value → zSt → Prop) : Prop := match zct o i with
  | some (m, k, _) => match Nat.beq (zkt k) t with
    | false => False
    | true => match k with
      | 3 => zsR S (fun _ r => zcs r ≤ 8 ∧ G r σ)
      | 4 => zsII S (fun x y r => (zcs r ≤ 8 ∧ σ.2.2.2 ≤ lim) ∧ G (.int (if x < y then y else x) :: r) σ)
      | 5 => zsII S (fun x y r => (zcs r ≤ 8 ∧ σ.2.2.2 ≤ lim) ∧ G (.int (if y < x then y else x) :: r) σ)
      | _ => (zcs (S.drop (zna m (k % 10))) ≤ 8 ∧ zna m (k % 10) ≤ S.length ∧ zrc σ o m (k % 10) (S.take (zna m (k % 10))).reverse ∧ σ.2.2.2 + zAl m ≤ lim) ∧
        C m (S.take (zna m (k % 10))).reverse σ (fun r σ' => σ'.2.2.2 = σ.2.2.2 + zAl m → G (r.toList ++ S.drop (zna m (k % 10))) σ')
  | none => False
def zret (m : Nat) (v : Value) : Prop := match zRT m, v with
  | some .int, .int _ => True
  | some .boolean, .int x => x = 0 ∨ x = 1
  | some .long, .long _ => True
  | _, _ => False
/-- one step: what must hold before it, so that V holds behind it -/
def zSI (C : Nat → List Value → zSt → (Option Value → zSt → Prop) → Prop) (X : Nat × (Nat → Int32)) (m lim : Nat) (V : Nat → zLo → List Value → zSt → Prop) (K : Option Value → zSt → Prop) (ins : Instr) (pc : Nat) (L : zLo) (S : List Value) (σ : zSt) : Prop := match ins with
  | .aload_n n => zlR (L.lookup (n : Nat)) (fun a => V (pc + 1) L (.ref a :: S) σ)
  | .iload_n n => zlI (L.lookup (n : Nat)) (fun a => V (pc + 1) L (.int a :: S) σ)
  | .lload_n n => zlJ (L.lookup (n : Nat)) (fun a => V (pc + 1) L (.long a :: S) σ)
  | .iload n => zlI (L.lookup n) (fun a => V (pc + 2) L (.int a :: S) σ)
  | .lload n => zlJ (L.lookup n) (fun a => V (pc + 2) L (.long a :: S) σ)
  | .istore_n n => zsI S (fun x r => n < zML m ∧ V (pc + 1) (zst1 L n (.int x)) r σ)
  | .istore n => zsI S (fun x r => n < zML m ∧ V (pc + 2) (zst1 L n (.int x)) r σ)
  | .lstore_n n => zsJ S (fun x r => n + 1 < zML m ∧ V (pc + 1) (zst2 L n (.long x)) r σ)
  | .lstore n => zsJ S (fun x r => n + 1 < zML m ∧ V (pc + 2) (zst2 L n (.long x)) r σ)
  | .astore_n n => zsR S (fun x r => n < zML m ∧ V (pc + 1) (zst1 L n (.ref x)) r σ)
  | .iinc n k => n < zML m ∧ zlI (L.lookup n) (fun a => V (pc + 3) (zst1 L n (.int (a + Int32.ofInt k))) S σ)
  | .iconst k => V (pc + 1) L (.int (Int32.ofInt k) :: S) σ
  | .bipush k => V (pc + 2) L (.int (Int8.ofInt k).toInt32 :: S) σ
  | .sipush k => V (pc + 3) L (.int (Int16.ofInt k).toInt32 :: S) σ
  | .lconst k => V (pc + 1) L (.long (Int64.ofNat (k : Nat)) :: S) σ
  | .ldc i => match zki (zOw m) i with
    | some (v, _) => V (pc + 2) L (.int v :: S) σ
    | none => False
  | .ldc_w i => match zki (zOw m) i with
    | some (v, _) => V (pc + 3) L (.int v :: S) σ
    | none => False
  | .ldc2_w i => match zkl (zOw m) i with
    | some (v, _) => V (pc + 3) L (.long v :: S) σ
    | none => False
  | .iadd => zsII S (fun x y r => V (pc + 1) L (.int (x + y) :: r) σ)
  | .isub => zsII S (fun x y r => V (pc + 1) L (.int (x - y) :: r) σ)
  | .imul => zsII S (fun x y r => V (pc + 1) L (.int (x * y) :: r) σ)
  | .iand => zsII S (fun x y r => V (pc + 1) L (.int (x &&& y) :: r) σ)
  | .ior => zsII S (fun x y r => V (pc + 1) L (.int (x ||| y) :: r) σ)
  | .ixor => zsII S (fun x y r => V (pc + 1) L (.int (x ^^^ y) :: r) σ)
  | .ishl => zsII S (fun x y r => V (pc + 1) L (.int (x <<< (y &&& 31)) :: r) σ)
  | .ishr => zsII S (fun x y r => V (pc + 1) L (.int (x >>> (y &&& 31)) :: r) σ)
  | .iushr => zsII S (fun x y r => V (pc + 1) L (.int ((x.toUInt32 >>> (y.toUInt32 &&& Int32.toUInt32 31)).toInt32) :: r) σ)
  | .idiv => zsII S (fun x y r => (¬ y = 0) ∧ V (pc + 1) L (.int (x / y) :: r) σ)
  | .irem => zsII S (fun x y r => (¬ y = 0) ∧ V (pc + 1) L (.int (x - x / y * y) :: r) σ)
  | .ineg => zsI S (fun x r => V (pc + 1) L (.int (-x) :: r) σ)
  | .i2l => zsI S (fun x r => V (pc + 1) L (.long x.toInt64 :: r) σ)
  | .i2b => zsI S (fun x r => V (pc + 1) L (.int x.toInt8.toInt32 :: r) σ)
  | .i2s => zsI S (fun x r => V (pc + 1) L (.int x.toInt16.toInt32 :: r) σ)
  | .l2i => zsJ S (fun x r => V (pc + 1) L (.int x.toInt32 :: r) σ)
  | .ladd => zsJJ S (fun x y r => V (pc + 1) L (.long (x + y) :: r) σ)
  | .lsub => zsJJ S (fun x y r => V (pc + 1) L (.long (x - y) :: r) σ)
  | .lmul => zsJJ S (fun x y r => V (pc + 1) L (.long (x * y) :: r) σ)
  | .ldiv => zsJJ S (fun x y r => (¬ y = 0) ∧ V (pc + 1) L (.long (x / y) :: r) σ)
  | .lneg => zsJ S (fun x r => V (pc + 1) L (.long (-x) :: r) σ)
  | .lcmp => zsJJ S (fun x y r => V (pc + 1) L (.int (lg_cmp x y) :: r) σ)
  | .dup => zs1 S (fun v r => v.category = 1 ∧ V (pc + 1) L (v :: v :: r) σ)
  | .dup2 => zs2 S (fun v w r => (v.category = 1 ∧ w.category = 1) ∧ V (pc + 1) L (v :: w :: v :: w :: r) σ)
  | .pop => zs1 S (fun v r => v.category = 1 ∧ V (pc + 1) L r σ)
  | .ifCond c off => zsI S (fun x r => (zc0 c x → V (ztg pc off) L r σ) ∧ (¬ zc0 c x → V (pc + 3) L r σ))
  | .if_icmp c off => zsII S (fun x y r => (zc2 c x y → V (ztg pc off) L r σ) ∧ (¬ zc2 c x y → V (pc + 3) L r σ))
  | .ifnull _ => zsR S (fun _ r => V (pc + 3) L r σ)
  | .goto off => V (ztg pc off) L S σ
  | .tableswitch d lo hi offs => zsI S (fun x r => ((x.toInt < lo ∨ hi < x.toInt) → V (ztg pc d) L r σ) ∧ ((¬ x.toInt < lo ∧ ¬ hi < x.toInt) → ∃ off, offs[(x.toInt - lo).toNat]? = some off ∧ 0 ≤ (pc : Int) + off ∧ V (ztg pc off) L r σ))
  | .getfield i => zsR S (fun a r => match zft (zOw m) i with
    | some (ci, k, _) => (a < σ.2.2.2 ∧ zkd a = (0, ci)) ∧ zgF σ a k (zTY ci k) (fun v => V (pc + 3) L (v :: r) σ)
    | none => False)
  | .putfield i => zsP S (fun v a r => match zft (zOw m) i with
    | some (ci, k, _) => (a < σ.2.2.2 ∧ zkd a = (0, ci) ∧ ((zTT ci k).2.2.2 = false ∨ (zKi m = 2 ∧ ci = zOw m))) ∧ zpF σ a k (zTY ci k) v (fun σ' => V (pc + 3) L r σ')
    | none => False)
  | .iaload => zsA S (fun a i r => match Nat.beq a zsc with
    | true => (True ∧ vp_in i X.1) ∧ V (pc + 1) L (.int (X.2 i.toNatClampNeg) :: r) σ
    | false => (a < σ.2.2.2 ∧ (zkd a).1 = 1 ∧ vp_in i (zkd a).2) ∧ V (pc + 1) L (.int (σ.1 a i.toNatClampNeg) :: r) σ)
  | .iastore => zsAI S (fun a i x r => (a < σ.2.2.2 ∧ (zkd a).1 = 1 ∧ vp_in i (zkd a).2) ∧ V (pc + 1) L r (zuI σ a i.toNatClampNeg x))
  | .arraylength => zsR S (fun a r => match Nat.beq a zsc with
    | true => True ∧ V (pc + 1) L (.int (Int32.ofNat X.1) :: r) σ
    | false => (a < σ.2.2.2 ∧ (zkd a).1 = 1) ∧ V (pc + 1) L (.int (Int32.ofNat (zkd a).2) :: r) σ)
  | .newarray t => zsI S (fun n r => (zkd σ.2.2.2 = (1, n.toNatClampNeg) ∧ t = .int ∧ ¬ n < 0 ∧ σ.2.2.2 + 1 ≤ lim) ∧ V (pc + 2) L (.ref σ.2.2.2 :: r) (zuN σ))
  | .new i => match zcl (zOw m) i with
    | some (ci, _) => (zkd σ.2.2.2 = (0, ci) ∧ σ.2.2.2 + 1 ≤ lim) ∧ V (pc + 3) L (.ref σ.2.2.2 :: S) (zuN σ)
    | none => False
  | .invokestatic i => zcall C lim 0 (zOw m) i S σ (fun S' σ' => V (pc + 3) L S' σ')
  | .invokevirtual i => zcall C lim 1 (zOw m) i S σ (fun S' σ' => V (pc + 3) L S' σ')
  | .invokespecial i => zcall C lim 2 (zOw m) i S σ (fun S' σ' => V (pc + 3) L S' σ')
  | .ireturn => S.length = 1 ∧ zsI S (fun x _ => zret m (.int x) ∧ σ.2.2.2 = lim ∧ K (some (.int x)) σ)
  | .lreturn => S.length = 1 ∧ zsJ S (fun x _ => zret m (.long x) ∧ σ.2.2.2 = lim ∧ K (some (.long x)) σ)
  | .return_ => S.length = 0 ∧ zRT m = none ∧ σ.2.2.2 = lim ∧ K none σ
  | _ => False
def zST (C : Nat → List Value → zSt → (Option Value → zSt → Prop) → Prop) (X : Nat × (Nat → Int32)) (m lim : Nat) (V : Nat → zLo → List Value → zSt → Prop) (K : Option Value → zSt → Prop) (pc : Nat) (L : zLo) (S : List Value) (σ : zSt) : Prop := match zcd m pc with
  | some (ins, _) => zSI C X m lim V K ins pc L S σ
  | none => False
/-- what is closed under the steps of a method -/
def zOk (C : Nat → List Value → zSt → (Option Value → zSt → Prop) → Prop) (X : Nat × (Nat → Int32)) (m lim : Nat) (V : Nat → zLo → List Value → zSt → Prop) (K : Option Value → zSt → Prop) : Prop := (∀ pc L S σ, zST C X m lim V K pc L S σ → V pc L S σ) ∧ ∀ (pc : Nat) (L L' : zLo) (S : List Value) (σ : zSt), (∀ q ∈ L', q ∈ L) → V pc L' S σ → V pc L S σ
/-- a call of method m, calls at most d deep: it comes back, and K holds then -/
def zSp (zx : Nat × (Nat → Int32)) : Nat → Nat → List Value → zSt → (Option Value → zSt → Prop) → Prop
  | 0 => fun _ _ _ _ => False
  | d + 1 => fun m as σ K => (m < 85 ∧ (lg_sl as).length ≤ zML m) ∧ ∀ V, zOk (zSp zx d) zx m (σ.2.2.2 + zAl m) V K → V 0 (lv_args 0 as) [] σ
