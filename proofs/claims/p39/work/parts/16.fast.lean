/-! the small machine once more, where the cells that a method knows are there and hold the references that they always hold -/
def zRs : List ((Nat × Nat) × Nat) := [((0, 0), 1), ((0, 1), 4), ((0, 2), 7), ((0, 3), 10), ((0, 4), 14), ((0, 5), 18), ((0, 6), 21), ((0, 7), 24), ((0, 8), 26), ((1, 0), 2), ((1, 1), 3), ((4, 0), 5), ((4, 1), 6), ((7, 0), 8), ((7, 1), 9), ((10, 0), 11), ((10, 1), 12), ((10, 2), 13), ((14, 0), 15), ((14, 1), 16), ((14, 2), 17), ((18, 0), 19), ((18, 1), 20), ((21, 0), 22), ((21, 1), 23), ((24, 0), 25), ((26, 0), 27), ((26, 1), 28), ((26, 2), 29)]
def zRr (a k : Nat) : Option Nat := match (zRs.find? fun q => Nat.beq q.1.1 a && Nat.beq q.1.2 k) with
  | some q => some q.2
  | none => none
/-- the cells of Kn are there, with their references -/
def zQI (Kn : Nat → Bool) (q : (Nat → Nat → Value) × Nat) : Prop := ∀ a, Kn a = true → a < q.2 ∧ ∀ k b, zRr a k = some b → q.1 a k = .ref b
theorem zQI_sub {Kn Kn' : Nat → Bool} {q : (Nat → Nat → Value) × Nat} (h : zQI Kn q) (hs : ∀ a, a < 31 → Kn' a = true → Kn a = true) (hb : ∀ a, Kn' a = true → a < 31) : zQI Kn' q := fun a ha => h a (hs a (hb a ha) ha)
def zgT (σ : zSt) (a k : Nat) (ty : FieldType) (G : Value → Prop) : Prop := match ty with
  | .int => G (.int (σ.1 a k))
  | .boolean => G (.int (σ.1 a k))
  | .long => G (.long (σ.2.1 a k))
  | _ => match zRr a k with
    | some b => G (.ref b)
    | none => False
def zpT (σ : zSt) (a k : Nat) (ty : FieldType) (v : Value) (G : zSt → Prop) : Prop := match ty, v with
  | .int, .int x => G (zuI σ a k x)
  | .boolean, .int x => (x = 0 ∨ x = 1) ∧ G (zuI σ a k x)
  | .long, .long x => G (zuJ σ a k x)
  | _, _ => False
def zcT (C : Nat → List Value → zSt → (Option Value → zSt → Prop) → Prop) (Kn : Nat → Bool) (t o i : Nat) (S : List Value) (σ : zSt) (G G0 : List Value → zSt → Prop) : Prop := match zct o i with
  | some (m, k, _) => match Nat.beq (zkt k) t with
    | false => False
    | true => match k with
      | 3 => False
      | 4 => zsII S (fun x y r => match Nat.ble (zcs r) 8 with
        | true => G (.int (if x < y then y else x) :: r) σ
        | false => False)
      | 5 => zsII S (fun x y r => match Nat.ble (zcs r) 8 with
        | true => G (.int (if y < x then y else x) :: r) σ
        | false => False)
      | _ => match Nat.ble (zcs (S.drop (zna m (k % 10)))) 8 && Nat.ble (zna m (k % 10)) S.length && Nat.beq (zAl m) 0 && (match k % 10 with
          | 0 => true
          | 1 => match (S.take (zna m (k % 10))).reverse with
            | .ref b :: _ => Kn b && (Nat.beq (zkd b).1 0 && Nat.beq (zkd b).2 (zOw m))
            | _ => false
          | _ => false) with
        | true => C m (S.take (zna m (k % 10))).reverse σ (fun r σ' => σ'.2.2.2 = σ.2.2.2 + zAl m → G0 (r.toList ++ S.drop (zna m (k % 10))) σ')
        | false => False
  | none => False
def zrT (m : Nat) (v : Value) (G : Prop) : Prop := match zRT m, v with
  | some .int, .int _ => G
  | some .boolean, .int x => (x = 0 ∨ x = 1) ∧ G
  | some .long, .long _ => G
  | _, _ => False
def zTI (C : Nat → List Value → zSt → (Option Value → zSt → Prop) → Prop) (X : Nat × (Nat → Int32)) (m : Nat) (Kn : Nat → Bool) (V V0 : Nat → zLo → List Value → zSt → Prop) (K : Option Value → zSt → Prop) (ins : Instr) (pc : Nat) (L : zLo) (S : List Value) (σ : zSt) : Prop := match ins with
  | .getfield i => zsR S (fun a r => match zft (zOw m) i with
    | some (ci, k, _) => match Kn a && (Nat.beq (zkd a).1 0 && Nat.beq (zkd a).2 ci) with
      | true => zgT σ a k (zTY ci k) (fun v => V (pc + 3) L (v :: r) σ)
      | false => False
    | none => False)
  | .putfield i => zsP S (fun v a r => match zft (zOw m) i with
    | some (ci, k, _) => match Kn a && (Nat.beq (zkd a).1 0 && Nat.beq (zkd a).2 ci) && !(zTT ci k).2.2.2 with
      | true => zpT σ a k (zTY ci k) v (fun σ' => V (pc + 3) L r σ')
      | false => False
    | none => False)
  | .iaload => zsA S (fun a i r => match Nat.beq a zsc with
    | true => vp_in i X.1 ∧ V (pc + 1) L (.int (X.2 i.toNatClampNeg) :: r) σ
    | false => match Kn a && Nat.beq (zkd a).1 1 with
      | true => vp_in i (zkd a).2 ∧ V (pc + 1) L (.int (σ.1 a i.toNatClampNeg) :: r) σ
      | false => False)
  | .iastore => zsAI S (fun a i x r => match Kn a && Nat.beq (zkd a).1 1 with
      | true => vp_in i (zkd a).2 ∧ V (pc + 1) L r (zuI σ a i.toNatClampNeg x)
      | false => False)
  | .arraylength => zsR S (fun a r => match Nat.beq a zsc with
    | true => V (pc + 1) L (.int (Int32.ofNat X.1) :: r) σ
    | false => match Kn a && Nat.beq (zkd a).1 1 with
      | true => V (pc + 1) L (.int (Int32.ofNat (zkd a).2) :: r) σ
      | false => False)
  | .newarray _ => False
  | .new _ => False
  | .istore_n n => match Nat.blt n (zML m) with
    | true => zsI S (fun x r => V (pc + 1) (zst1 L n (.int x)) r σ)
    | false => False
  | .istore n => match Nat.blt n (zML m) with
    | true => zsI S (fun x r => V (pc + 2) (zst1 L n (.int x)) r σ)
    | false => False
  | .lstore_n n => match Nat.blt (n + 1) (zML m) with
    | true => zsJ S (fun x r => V (pc + 1) (zst2 L n (.long x)) r σ)
    | false => False
  | .lstore n => match Nat.blt (n + 1) (zML m) with
    | true => zsJ S (fun x r => V (pc + 2) (zst2 L n (.long x)) r σ)
    | false => False
  | .iinc n k => match Nat.blt n (zML m) with
    | true => zlI (L.lookup n) (fun a => V (pc + 3) (zst1 L n (.int (a + Int32.ofInt k))) S σ)
    | false => False
  | .dup => zs1 S (fun v r => match Nat.beq v.category 1 with
    | true => V (pc + 1) L (v :: v :: r) σ
    | false => False)
  | .dup2 => zs2 S (fun v w r => match Nat.beq v.category 1 && Nat.beq w.category 1 with
    | true => V (pc + 1) L (v :: w :: v :: w :: r) σ
    | false => False)
  | .pop => zs1 S (fun v r => match Nat.beq v.category 1 with
    | true => V (pc + 1) L r σ
    | false => False)
  | .invokestatic i => zcT C Kn 0 (zOw m) i S σ (fun S' σ' => V (pc + 3) L S' σ') (fun S' σ' => V0 (pc + 3) L S' σ')
  | .invokevirtual i => zcT C Kn 1 (zOw m) i S σ (fun S' σ' => V (pc + 3) L S' σ') (fun S' σ' => V0 (pc + 3) L S' σ')
  | .invokespecial _ => False
  | .ireturn => match S with
    | [.int x] => zrT m (.int x) (K (some (.int x)) σ)
    | _ => False
  | .lreturn => match S with
    | [.long x] => zrT m (.long x) (K (some (.long x)) σ)
    | _ => False
  | .return_ => match S, zRT m with
    | [], none => K none σ
    | _, _ => False
  | i => zSI C X m 0 V K i pc L S σ
def zTT' (C : Nat → List Value → zSt → (Option Value → zSt → Prop) → Prop) (X : Nat × (Nat → Int32)) (m : Nat) (Kn : Nat → Bool) (V V0 : Nat → zLo → List Value → zSt → Prop) (K : Option Value → zSt → Prop) (pc : Nat) (L : zLo) (S : List Value) (σ : zSt) : Prop := match zcd m pc with
  | some (ins, _) => zTI C X m Kn V V0 K ins pc L S σ
  | none => False
/-- k steps -/
def zev (C : Nat → List Value → zSt → (Option Value → zSt → Prop) → Prop) (X : Nat × (Nat → Int32)) (m : Nat) (Kn : Nat → Bool) (V0 : Nat → zLo → List Value → zSt → Prop) (K : Option Value → zSt → Prop) : Nat → Nat → zLo → List Value → zSt → Prop
  | 0 => V0
  | k + 1 => zTT' C X m Kn (zev C X m Kn V0 K k) V0 K
