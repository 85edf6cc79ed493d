def zBit (x : Int32) (a : Int32) : Prop := ¬ (x >>> (a &&& 31)) &&& 1 = 0
def zBx (A : Nat → Int32) (x : Int32) (a : Nat) : Int32 := if A a &&& x = 0 then x &&& ((1 <<< (nI a &&& 31)) ^^^ (-1)) else x
def zBj (A : Nat → Int32) : Nat → Nat → Int32 → Int32
  | 0, _, x => x
  | r + 1, a, x => zBj A r (a + 1) (zBx A x a)
def zBr (A : Nat → Int32) (n : Nat) : Nat → Int32 → Int32
  | 0, x => x
  | r + 1, x => zBr A n r (zBj A n 0 x)
/-- the parts of the bin that are stuck -/
def zStk (A : Nat → Int32) (n : Nat) (ins : Int32) : Int32 := zBr A n n ins
def zUx (A : Nat → Int32) (ins x : Int32) (b : Nat) : Int32 := if (x >>> (nI b &&& 31)) &&& 1 = 0 then x else x ||| (A b &&& ins)
def zUj (A : Nat → Int32) (ins : Int32) : Nat → Nat → Int32 → Int32
  | 0, _, x => x
  | r + 1, a, x => zUj A ins r (a + 1) (zUx A ins x a)
def zUr (A : Nat → Int32) (ins : Int32) (n : Nat) : Nat → Int32 → Int32
  | 0, x => x
  | r + 1, x => zUr A ins n r (zUj A ins n 0 x)
/-- a part and all that lie above it -/
def zAll (A : Nat → Int32) (n : Nat) (ins : Int32) (a : Int32) : Int32 := zUr A ins n n (1 <<< (a &&& 31))
/-- how many bits are set, as the library counts -/
def zBc (x : Int32) : Int32 := ((((((((x - ((Int32.toUInt32 x >>> (Int32.toUInt32 1 &&& Int32.toUInt32 31)).toInt32 &&& 1431655765)) &&& 858993459) + ((Int32.toUInt32 (x - ((Int32.toUInt32 x >>> (Int32.toUInt32 1 &&& Int32.toUInt32 31)).toInt32 &&& 1431655765)) >>> (Int32.toUInt32 2 &&& Int32.toUInt32 31)).toInt32 &&& 858993459)) + (Int32.toUInt32 (((x - ((Int32.toUInt32 x >>> (Int32.toUInt32 1 &&& Int32.toUInt32 31)).toInt32 &&& 1431655765)) &&& 858993459) + ((Int32.toUInt32 (x - ((Int32.toUInt32 x >>> (Int32.toUInt32 1 &&& Int32.toUInt32 31)).toInt32 &&& 1431655765)) >>> (Int32.toUInt32 2 &&& Int32.toUInt32 31)).toInt32 &&& 858993459)) >>> (Int32.toUInt32 4 &&& Int32.toUInt32 31)).toInt32) &&& 252645135) + (Int32.toUInt32 (((((x - ((Int32.toUInt32 x >>> (Int32.toUInt32 1 &&& Int32.toUInt32 31)).toInt32 &&& 1431655765)) &&& 858993459) + ((Int32.toUInt32 (x - ((Int32.toUInt32 x >>> (Int32.toUInt32 1 &&& Int32.toUInt32 31)).toInt32 &&& 1431655765)) >>> (Int32.toUInt32 2 &&& Int32.toUInt32 31)).toInt32 &&& 858993459)) + (Int32.toUInt32 (((x - ((Int32.toUInt32 x >>> (Int32.toUInt32 1 &&& Int32.toUInt32 31)).toInt32 &&& 1431655765)) &&& 858993459) + ((Int32.toUInt32 (x - ((Int32.toUInt32 x >>> (Int32.toUInt32 1 &&& Int32.toUInt32 31)).toInt32 &&& 1431655765)) >>> (Int32.toUInt32 2 &&& Int32.toUInt32 31)).toInt32 &&& 858993459)) >>> (Int32.toUInt32 4 &&& Int32.toUInt32 31)).toInt32) &&& 252645135) >>> (Int32.toUInt32 8 &&& Int32.toUInt32 31)).toInt32) + (Int32.toUInt32 ((((((x - ((Int32.toUInt32 x >>> (Int32.toUInt32 1 &&& Int32.toUInt32 31)).toInt32 &&& 1431655765)) &&& 858993459) + ((Int32.toUInt32 (x - ((Int32.toUInt32 x >>> (Int32.toUInt32 1 &&& Int32.toUInt32 31)).toInt32 &&& 1431655765)) >>> (Int32.toUInt32 2 &&& Int32.toUInt32 31)).toInt32 &&& 858993459)) + (Int32.toUInt32 (((x - ((Int32.toUInt32 x >>> (Int32.toUInt32 1 &&& Int32.toUInt32 31)).toInt32 &&& 1431655765)) &&& 858993459) + ((Int32.toUInt32 (x - ((Int32.toUInt32 x >>> (Int32.toUInt32 1 &&& Int32.toUInt32 31)).toInt32 &&& 1431655765)) >>> (Int32.toUInt32 2 &&& Int32.toUInt32 31)).toInt32 &&& 858993459)) >>> (Int32.toUInt32 4 &&& Int32.toUInt32 31)).toInt32) &&& 252645135) + (Int32.toUInt32 (((((x - ((Int32.toUInt32 x >>> (Int32.toUInt32 1 &&& Int32.toUInt32 31)).toInt32 &&& 1431655765)) &&& 858993459) + ((Int32.toUInt32 (x - ((Int32.toUInt32 x >>> (Int32.toUInt32 1 &&& Int32.toUInt32 31)).toInt32 &&& 1431655765)) >>> (Int32.toUInt32 2 &&& Int32.toUInt32 31)).toInt32 &&& 858993459)) + (Int32.toUInt32 (((x - ((Int32.toUInt32 x >>> (Int32.toUInt32 1 &&& Int32.toUInt32 31)).toInt32 &&& 1431655765)) &&& 858993459) + ((Int32.toUInt32 (x - ((Int32.toUInt32 x >>> (Int32.toUInt32 1 &&& Int32.toUInt32 31)).toInt32 &&& 1431655765)) >>> (Int32.toUInt32 2 &&& Int32.toUInt32 31)).toInt32 &&& 858993459)) >>> (Int32.toUInt32 4 &&& Int32.toUInt32 31)).toInt32) &&& 252645135) >>> (Int32.toUInt32 8 &&& Int32.toUInt32 31)).toInt32) >>> (Int32.toUInt32 16 &&& Int32.toUInt32 31)).toInt32) &&& 63)
set_option maxRecDepth 8000 in
set_option maxHeartbeats 4000000 in
theorem bits_ok {d : Nat} {σ : zSt} {K : Option Value → zSt → Prop} {x : Int32} (hK : K (some (.int (zBc x))) σ) : zSp (d + 1) mJ6_bitCount_0f7a4 [.int x] σ K := by
  refine ⟨⟨by decide, Nat.le_of_ble_eq_true rfl⟩, fun V hV => ?_⟩
  refine zq (σ := σ) hV zQI_0 rfl 42 ?_
  show K (some (.int ((((((((x - ((Int32.toUInt32 x >>> (Int32.toUInt32 1 &&& Int32.toUInt32 31)).toInt32 &&& 1431655765)) &&& 858993459) + ((Int32.toUInt32 (x - ((Int32.toUInt32 x >>> (Int32.toUInt32 1 &&& Int32.toUInt32 31)).toInt32 &&& 1431655765)) >>> (Int32.toUInt32 2 &&& Int32.toUInt32 31)).toInt32 &&& 858993459)) + (Int32.toUInt32 (((x - ((Int32.toUInt32 x >>> (Int32.toUInt32 1 &&& Int32.toUInt32 31)).toInt32 &&& 1431655765)) &&& 858993459) + ((Int32.toUInt32 (x - ((Int32.toUInt32 x >>> (Int32.toUInt32 1 &&& Int32.toUInt32 31)).toInt32 &&& 1431655765)) >>> (Int32.toUInt32 2 &&& Int32.toUInt32 31)).toInt32 &&& 858993459)) >>> (Int32.toUInt32 4 &&& Int32.toUInt32 31)).toInt32) &&& 252645135) + (Int32.toUInt32 (((((x - ((Int32.toUInt32 x >>> (Int32.toUInt32 1 &&& Int32.toUInt32 31)).toInt32 &&& 1431655765)) &&& 858993459) + ((Int32.toUInt32 (x - ((Int32.toUInt32 x >>> (Int32.toUInt32 1 &&& Int32.toUInt32 31)).toInt32 &&& 1431655765)) >>> (Int32.toUInt32 2 &&& Int32.toUInt32 31)).toInt32 &&& 858993459)) + (Int32.toUInt32 (((x - ((Int32.toUInt32 x >>> (Int32.toUInt32 1 &&& Int32.toUInt32 31)).toInt32 &&& 1431655765)) &&& 858993459) + ((Int32.toUInt32 (x - ((Int32.toUInt32 x >>> (Int32.toUInt32 1 &&& Int32.toUInt32 31)).toInt32 &&& 1431655765)) >>> (Int32.toUInt32 2 &&& Int32.toUInt32 31)).toInt32 &&& 858993459)) >>> (Int32.toUInt32 4 &&& Int32.toUInt32 31)).toInt32) &&& 252645135) >>> (Int32.toUInt32 8 &&& Int32.toUInt32 31)).toInt32) + (Int32.toUInt32 ((((((x - ((Int32.toUInt32 x >>> (Int32.toUInt32 1 &&& Int32.toUInt32 31)).toInt32 &&& 1431655765)) &&& 858993459) + ((Int32.toUInt32 (x - ((Int32.toUInt32 x >>> (Int32.toUInt32 1 &&& Int32.toUInt32 31)).toInt32 &&& 1431655765)) >>> (Int32.toUInt32 2 &&& Int32.toUInt32 31)).toInt32 &&& 858993459)) + (Int32.toUInt32 (((x - ((Int32.toUInt32 x >>> (Int32.toUInt32 1 &&& Int32.toUInt32 31)).toInt32 &&& 1431655765)) &&& 858993459) + ((Int32.toUInt32 (x - ((Int32.toUInt32 x >>> (Int32.toUInt32 1 &&& Int32.toUInt32 31)).toInt32 &&& 1431655765)) >>> (Int32.toUInt32 2 &&& Int32.toUInt32 31)).toInt32 &&& 858993459)) >>> (Int32.toUInt32 4 &&& Int32.toUInt32 31)).toInt32) &&& 252645135) + (Int32.toUInt32 (((((x - ((Int32.toUInt32 x >>> (Int32.toUInt32 1 &&& Int32.toUInt32 31)).toInt32 &&& 1431655765)) &&& 858993459) + ((Int32.toUInt32 (x - ((Int32.toUInt32 x >>> (Int32.toUInt32 1 &&& Int32.toUInt32 31)).toInt32 &&& 1431655765)) >>> (Int32.toUInt32 2 &&& Int32.toUInt32 31)).toInt32 &&& 858993459)) + (Int32.toUInt32 (((x - ((Int32.toUInt32 x >>> (Int32.toUInt32 1 &&& Int32.toUInt32 31)).toInt32 &&& 1431655765)) &&& 858993459) + ((Int32.toUInt32 (x - ((Int32.toUInt32 x >>> (Int32.toUInt32 1 &&& Int32.toUInt32 31)).toInt32 &&& 1431655765)) >>> (Int32.toUInt32 2 &&& Int32.toUInt32 31)).toInt32 &&& 858993459)) >>> (Int32.toUInt32 4 &&& Int32.toUInt32 31)).toInt32) &&& 252645135) >>> (Int32.toUInt32 8 &&& Int32.toUInt32 31)).toInt32) >>> (Int32.toUInt32 16 &&& Int32.toUInt32 31)).toInt32) &&& 63))) σ
  exact hK
set_option maxRecDepth 8000 in
set_option maxHeartbeats 4000000 in
theorem badd_ok {d : Nat} {σ : zSt} {K : Option Value → zSt → Prop} (hI : zQI (kR 24 26) σ.2.2) (hK : K none (zuI (zuI σ 24 1 (σ.1 24 1 ||| (1 <<< (σ.1 24 2 &&& 31)))) 24 2 (σ.1 24 2 + 1))) : zSp (d + 1) mX0_add [.ref 24] σ K := by
  refine ⟨⟨by decide, Nat.le_of_ble_eq_true rfl⟩, fun V hV => ?_⟩
  refine zq (σ := σ) hV hI rfl 16 ?_
  show K none (zuI (zuI σ 24 1 ((σ.1 24 1) ||| (1 <<< ((σ.1 24 2) &&& 31)))) 24 2 ((σ.1 24 2) + 1))
  exact hK
set_option maxRecDepth 8000 in
set_option maxHeartbeats 4000000 in
theorem blay_ok {d : Nat} {σ : zSt} {K : Option Value → zSt → Prop} {a b : Int32} {j : Nat} (hI : zQI (kR 24 26) σ.2.2) (eb : b = nI j) (hj : j < 12) (hK : K none (zuI σ 25 j (σ.1 25 j ||| (1 <<< (a &&& 31))))) : zSp (d + 2) mX0_lay [.ref 24, .int a, .int b] σ K := by
  refine ⟨⟨by decide, Nat.le_of_ble_eq_true rfl⟩, fun V hV => ?_⟩
  subst eb
  refine zq (σ := σ) hV hI rfl 7 ?_
  show zSp _ 128 [.ref 25, .int (nI j)] σ (fun r σ' => σ'.2.2.2 = σ.2.2.2 + zAl 128 → V 13 [(0, .ref 24), (1, .int a), (2, .int (nI j))] (r.toList ++ [.int (nI j), .ref 25]) σ')
  refine item_25 (zA_of hI rfl) rfl (by omega) (fun _ => ?_)
  refine zq (σ := σ) hV hI rfl 5 ?_
  show zSp _ 129 [.ref 25, .int (nI j), .int ((σ.1 25 j) ||| (1 <<< (a &&& 31)))] σ (fun r σ' => σ'.2.2.2 = σ.2.2.2 + zAl 129 → V 20 [(0, .ref 24), (1, .int a), (2, .int (nI j))] (r.toList ++ []) σ')
  refine setItem_25 (zA_of hI rfl) rfl (by omega) (fun _ => ?_)
  refine zq (σ := (zuI σ 25 j ((σ.1 25 j) ||| (1 <<< (a &&& 31))))) hV hI rfl 1 ?_
  show K none (zuI σ 25 j ((σ.1 25 j) ||| (1 <<< (a &&& 31))))
  exact hK
set_option maxRecDepth 8000 in
set_option maxHeartbeats 4000000 in
theorem isInside_ok {d : Nat} {σ : zSt} {K : Option Value → zSt → Prop} {a : Int32} (hI : zQI (kR 24 26) σ.2.2) (h1 : zBit (σ.1 24 1) a → K (some (.int 1)) σ) (h0 : ¬ zBit (σ.1 24 1) a → K (some (.int 0)) σ) : zSp (d + 1) mX0_isInside [.ref 24, .int a] σ K := by
  refine ⟨⟨by decide, Nat.le_of_ble_eq_true rfl⟩, fun V hV => ?_⟩
  refine zq (σ := σ) hV hI rfl 7 ?_
  show ((((σ.1 24 1) >>> (a &&& 31)) &&& 1) = 0 → V 15 [(0, .ref 24), (1, .int a)] [] σ) ∧ (¬ (((σ.1 24 1) >>> (a &&& 31)) &&& 1) = 0 → V 11 [(0, .ref 24), (1, .int a)] [] σ)
  refine ⟨fun h_8 => ?_, fun h_8 => ?_⟩
  · skip
    refine zq (σ := σ) hV hI rfl 2 ?_
    show ((0 : Int32) = 0 ∨ (0 : Int32) = 1) ∧ K (some (.int 0)) σ
    refine ⟨by decide, ?_⟩
    exact h0 (fun q => q h_8)
  · skip
    refine zq (σ := σ) hV hI rfl 3 ?_
    show ((1 : Int32) = 0 ∨ (1 : Int32) = 1) ∧ K (some (.int 1)) σ
    refine ⟨by decide, ?_⟩
    exact h1 h_8
set_option maxRecDepth 8000 in
set_option maxHeartbeats 4000000 in
theorem isCovered_ok {d : Nat} {σ : zSt} {K : Option Value → zSt → Prop} {a : Int32} {k : Nat} (hI : zQI (kR 24 26) σ.2.2) (e : a = nI k) (hk : k < 12) (h1 : (¬ (σ.1 25 k &&& σ.1 24 1) = 0) → K (some (.int 1)) σ) (h0 : ¬ (¬ (σ.1 25 k &&& σ.1 24 1) = 0) → K (some (.int 0)) σ) : zSp (d + 2) mX0_isCovered [.ref 24, .int a] σ K := by
  refine ⟨⟨by decide, Nat.le_of_ble_eq_true rfl⟩, fun V hV => ?_⟩
  subst e
  refine zq (σ := σ) hV hI rfl 4 ?_
  show zSp _ 128 [.ref 25, .int (nI k)] σ (fun r σ' => σ'.2.2.2 = σ.2.2.2 + zAl 128 → V 8 [(0, .ref 24), (1, .int (nI k))] (r.toList ++ []) σ')
  refine item_25 (zA_of hI rfl) rfl (by omega) (fun _ => ?_)
  refine zq (σ := σ) hV hI rfl 4 ?_
  show (((σ.1 25 k) &&& (σ.1 24 1)) = 0 → V 20 [(0, .ref 24), (1, .int (nI k))] [] σ) ∧ (¬ ((σ.1 25 k) &&& (σ.1 24 1)) = 0 → V 16 [(0, .ref 24), (1, .int (nI k))] [] σ)
  refine ⟨fun h_13 => ?_, fun h_13 => ?_⟩
  · skip
    refine zq (σ := σ) hV hI rfl 2 ?_
    show ((0 : Int32) = 0 ∨ (0 : Int32) = 1) ∧ K (some (.int 0)) σ
    refine ⟨by decide, ?_⟩
    exact h0 (fun q => q h_13)
  · skip
    refine zq (σ := σ) hV hI rfl 3 ?_
    show ((1 : Int32) = 0 ∨ (1 : Int32) = 1) ∧ K (some (.int 1)) σ
    refine ⟨by decide, ?_⟩
    exact h1 h_13
set_option maxRecDepth 8000 in
set_option maxHeartbeats 4000000 in
theorem bremove_ok {d : Nat} {σ : zSt} {K : Option Value → zSt → Prop} {a : Int32} (hI : zQI (kR 24 26) σ.2.2) (hK : K none (zuI σ 24 1 (σ.1 24 1 &&& ((1 <<< (a &&& 31)) ^^^ (-1))))) : zSp (d + 1) mX0_remove [.ref 24, .int a] σ K := by
  refine ⟨⟨by decide, Nat.le_of_ble_eq_true rfl⟩, fun V hV => ?_⟩
  refine zq (σ := σ) hV hI rfl 11 ?_
  show K none (zuI σ 24 1 ((σ.1 24 1) &&& ((1 <<< (a &&& 31)) ^^^ (-1))))
  exact hK
set_option maxRecDepth 8000 in
set_option maxHeartbeats 4000000 in
theorem bsize_ok {d : Nat} {σ : zSt} {K : Option Value → zSt → Prop} (hI : zQI (kR 24 26) σ.2.2) (hK : K (some (.int (zBc (σ.1 24 1)))) σ) : zSp (d + 2) mX0_size [.ref 24] σ K := by
  refine ⟨⟨by decide, Nat.le_of_ble_eq_true rfl⟩, fun V hV => ?_⟩
  refine zq (σ := σ) hV hI rfl 3 ?_
  show zSp _ 196 [.int (σ.1 24 1)] σ (fun r σ' => σ'.2.2.2 = σ.2.2.2 + zAl 196 → V 7 [(0, .ref 24)] (r.toList ++ []) σ')
  refine bits_ok  (fun _ => ?_)
  refine zq (σ := σ) hV hI rfl 1 ?_
  show K (some (.int (zBc (σ.1 24 1)))) σ
  exact hK
set_option maxRecDepth 8000 in
set_option maxHeartbeats 4000000 in
theorem stuckBits_ok {d : Nat} {σ : zSt} {K : Option Value → zSt → Prop} {n : Nat} (hI : zQI (kR 24 26) σ.2.2) (hs : σ.1 24 2 = nI n) (hn : n ≤ 12) (hK : K (some (.int (zStk (σ.1 25) n (σ.1 24 1)))) σ) : zSp (d + 2) mX0_stuckBits [.ref 24] σ K := by
  refine ⟨⟨by decide, Nat.le_of_ble_eq_true rfl⟩, fun V hV => ?_⟩
  refine zq (σ := σ) hV hI rfl 5 ?_
  show V 7 [(2, .int 0), (1, .int (σ.1 24 1)), (0, .ref 24)] [] σ
  refine zwk hV [2, 1, 0] rfl ?_
  have Hi : ∀ (r : Nat) (i : Nat) (x : Int32), i + r = n → zBr (σ.1 25) n r x = zStk (σ.1 25) n (σ.1 24 1) → V 7 [(0, .ref 24), (1, .int x), (2, .int (nI i))] [] σ := by
    intro r
    induction r with
    | zero =>
      intro i x hin hfin
      refine zq (σ := σ) hV hI rfl 4 ?_
      show ((σ.1 24 2) ≤ (nI i) → V 58 [(0, .ref 24), (1, .int x), (2, .int (nI i))] [] σ) ∧ (¬ (σ.1 24 2) ≤ (nI i) → V 15 [(0, .ref 24), (1, .int x), (2, .int (nI i))] [] σ)
      refine ⟨fun _ => ?_, fun hc => absurd (show (σ.1 24 2) ≤ nI i by rw [hs]; exact zge_self (by omega)) hc⟩
      refine zq (σ := σ) hV hI rfl 2 ?_
      show K (some (.int x)) σ
      replace hfin : x = _ := hfin
      rw [hfin]
      exact hK
    | succ r ihi =>
      intro i x hin hfin
      refine zq (σ := σ) hV hI rfl 4 ?_
      show ((σ.1 24 2) ≤ (nI i) → V 58 [(0, .ref 24), (1, .int x), (2, .int (nI i))] [] σ) ∧ (¬ (σ.1 24 2) ≤ (nI i) → V 15 [(0, .ref 24), (1, .int x), (2, .int (nI i))] [] σ)
      refine ⟨fun hc => absurd hc (show ¬ (σ.1 24 2) ≤ nI i by rw [hs]; exact nI_ge (by omega) (by omega)), fun _ => ?_⟩
      refine zq (σ := σ) hV hI rfl 2 ?_
      show V 17 [(3, .int 0), (0, .ref 24), (1, .int x), (2, .int (nI i))] [] σ
      refine zwk hV [1, 2, 3, 0] rfl ?_
      have Hj : ∀ (r : Nat) (j : Nat) (y : Int32), j + r = n → zBj (σ.1 25) r j y = zBj (σ.1 25) n 0 x → V 17 [(0, .ref 24), (1, .int y), (2, .int (nI i)), (3, .int (nI j))] [] σ := by
        intro r
        induction r with
        | zero =>
          intro j y hjn hend
          replace hend : y = zBj (σ.1 25) n 0 x := hend
          refine zq (σ := σ) hV hI rfl 4 ?_
          show ((σ.1 24 2) ≤ (nI j) → V 52 [(0, .ref 24), (1, .int y), (2, .int (nI i)), (3, .int (nI j))] [] σ) ∧ (¬ (σ.1 24 2) ≤ (nI j) → V 25 [(0, .ref 24), (1, .int y), (2, .int (nI i)), (3, .int (nI j))] [] σ)
          refine ⟨fun _ => ?_, fun hc => absurd (show (σ.1 24 2) ≤ nI j by rw [hs]; exact zge_self (by omega)) hc⟩
          refine zq (σ := σ) hV hI rfl 2 ?_
          show V 7 [(2, .int ((nI i) + 1)), (0, .ref 24), (1, .int y), (3, .int (nI j))] [] σ
          refine zwk hV [1, 2, 0] rfl ?_
          rw [nI_1]
          exact ihi (i + 1) _ (by omega) (by rw [← hfin, hend]; rfl)
        | succ r ihj =>
          intro j y hjn hend
          refine zq (σ := σ) hV hI rfl 4 ?_
          show ((σ.1 24 2) ≤ (nI j) → V 52 [(0, .ref 24), (1, .int y), (2, .int (nI i)), (3, .int (nI j))] [] σ) ∧ (¬ (σ.1 24 2) ≤ (nI j) → V 25 [(0, .ref 24), (1, .int y), (2, .int (nI i)), (3, .int (nI j))] [] σ)
          refine ⟨fun hc => absurd hc (show ¬ (σ.1 24 2) ≤ nI j by rw [hs]; exact nI_ge (by omega) (by omega)), fun _ => ?_⟩
          refine zq (σ := σ) hV hI rfl 4 ?_
          show zSp _ 128 [.ref 25, .int (nI j)] σ (fun r σ' => σ'.2.2.2 = σ.2.2.2 + zAl 128 → V 33 [(0, .ref 24), (1, .int y), (2, .int (nI i)), (3, .int (nI j))] (r.toList ++ []) σ')
          refine item_25 (zA_of hI rfl) rfl (by omega) (fun _ => ?_)
          refine zq (σ := σ) hV hI rfl 3 ?_
          show (¬ ((σ.1 25 j) &&& y) = 0 → V 46 [(0, .ref 24), (1, .int y), (2, .int (nI i)), (3, .int (nI j))] [] σ) ∧ (¬ (¬ ((σ.1 25 j) &&& y) = 0) → V 38 [(0, .ref 24), (1, .int y), (2, .int (nI i)), (3, .int (nI j))] [] σ)
          refine ⟨fun h_35 => ?_, fun h_35 => ?_⟩
          · skip
            refine zq (σ := σ) hV hI rfl 2 ?_
            show V 17 [(3, .int ((nI j) + 1)), (0, .ref 24), (1, .int y), (2, .int (nI i))] [] σ
            refine zwk hV [1, 2, 3, 0] rfl ?_
            rw [nI_1]
            refine ihj (j + 1) _ (by omega) ?_
            rw [← hend]
            show zBj (σ.1 25) r (j + 1) _ = zBj (σ.1 25) r (j + 1) (zBx (σ.1 25) y j)
            unfold zBx
            first | rw [if_pos h_35] | rw [if_neg h_35]
          · skip
            have h_35 := Classical.not_not.mp h_35
            refine zq (σ := σ) hV hI rfl 10 ?_
            show V 17 [(3, .int ((nI j) + 1)), (1, .int (y &&& ((1 <<< ((nI j) &&& 31)) ^^^ (-1)))), (0, .ref 24), (2, .int (nI i))] [] σ
            refine zwk hV [2, 1, 3, 0] rfl ?_
            rw [nI_1]
            refine ihj (j + 1) _ (by omega) ?_
            rw [← hend]
            show zBj (σ.1 25) r (j + 1) _ = zBj (σ.1 25) r (j + 1) (zBx (σ.1 25) y j)
            unfold zBx
            first | rw [if_pos h_35] | rw [if_neg h_35]
      exact Hj n 0 _ (by omega) rfl
  exact Hi n 0 _ (by omega) rfl
set_option maxRecDepth 8000 in
set_option maxHeartbeats 4000000 in
theorem withAllAbove_ok {d : Nat} {σ : zSt} {K : Option Value → zSt → Prop} {a : Int32} {n : Nat} (hI : zQI (kR 24 26) σ.2.2) (hs : σ.1 24 2 = nI n) (hn : n ≤ 12) (hK : K (some (.int (zAll (σ.1 25) n (σ.1 24 1) a))) σ) : zSp (d + 2) mX0_withAllAbove [.ref 24, .int a] σ K := by
  refine ⟨⟨by decide, Nat.le_of_ble_eq_true rfl⟩, fun V hV => ?_⟩
  refine zq (σ := σ) hV hI rfl 6 ?_
  show V 6 [(3, .int 0), (2, .int (1 <<< (a &&& 31))), (0, .ref 24), (1, .int a)] [] σ
  refine zwk hV [2, 3, 1, 0] rfl ?_
  have Hi : ∀ (r : Nat) (i : Nat) (x : Int32), i + r = n → zUr (σ.1 25) (σ.1 24 1) n r x = zAll (σ.1 25) n (σ.1 24 1) a → V 6 [(0, .ref 24), (1, .int a), (2, .int x), (3, .int (nI i))] [] σ := by
    intro r
    induction r with
    | zero =>
      intro i x hin hfin
      refine zq (σ := σ) hV hI rfl 4 ?_
      show ((σ.1 24 2) ≤ (nI i) → V 64 [(0, .ref 24), (1, .int a), (2, .int x), (3, .int (nI i))] [] σ) ∧ (¬ (σ.1 24 2) ≤ (nI i) → V 14 [(0, .ref 24), (1, .int a), (2, .int x), (3, .int (nI i))] [] σ)
      refine ⟨fun _ => ?_, fun hc => absurd (show (σ.1 24 2) ≤ nI i by rw [hs]; exact zge_self (by omega)) hc⟩
      refine zq (σ := σ) hV hI rfl 2 ?_
      show K (some (.int x)) σ
      replace hfin : x = _ := hfin
      rw [hfin]
      exact hK
    | succ r ihi =>
      intro i x hin hfin
      refine zq (σ := σ) hV hI rfl 4 ?_
      show ((σ.1 24 2) ≤ (nI i) → V 64 [(0, .ref 24), (1, .int a), (2, .int x), (3, .int (nI i))] [] σ) ∧ (¬ (σ.1 24 2) ≤ (nI i) → V 14 [(0, .ref 24), (1, .int a), (2, .int x), (3, .int (nI i))] [] σ)
      refine ⟨fun hc => absurd hc (show ¬ (σ.1 24 2) ≤ nI i by rw [hs]; exact nI_ge (by omega) (by omega)), fun _ => ?_⟩
      refine zq (σ := σ) hV hI rfl 2 ?_
      show V 17 [(4, .int 0), (0, .ref 24), (1, .int a), (2, .int x), (3, .int (nI i))] [] σ
      refine zwk hV [1, 2, 3, 4, 0] rfl ?_
      have Hj : ∀ (r : Nat) (j : Nat) (y : Int32), j + r = n → zUj (σ.1 25) (σ.1 24 1) r j y = zUj (σ.1 25) (σ.1 24 1) n 0 x → V 17 [(0, .ref 24), (1, .int a), (2, .int y), (3, .int (nI i)), (4, .int (nI j))] [] σ := by
        intro r
        induction r with
        | zero =>
          intro j y hjn hend
          replace hend : y = zUj (σ.1 25) (σ.1 24 1) n 0 x := hend
          refine zq (σ := σ) hV hI rfl 4 ?_
          show ((σ.1 24 2) ≤ (nI j) → V 58 [(0, .ref 24), (1, .int a), (2, .int y), (3, .int (nI i)), (4, .int (nI j))] [] σ) ∧ (¬ (σ.1 24 2) ≤ (nI j) → V 26 [(0, .ref 24), (1, .int a), (2, .int y), (3, .int (nI i)), (4, .int (nI j))] [] σ)
          refine ⟨fun _ => ?_, fun hc => absurd (show (σ.1 24 2) ≤ nI j by rw [hs]; exact zge_self (by omega)) hc⟩
          refine zq (σ := σ) hV hI rfl 2 ?_
          show V 6 [(3, .int ((nI i) + 1)), (0, .ref 24), (1, .int a), (2, .int y), (4, .int (nI j))] [] σ
          refine zwk hV [1, 2, 3, 0] rfl ?_
          rw [nI_1]
          exact ihi (i + 1) _ (by omega) (by rw [← hfin, hend]; rfl)
        | succ r ihj =>
          intro j y hjn hend
          refine zq (σ := σ) hV hI rfl 4 ?_
          show ((σ.1 24 2) ≤ (nI j) → V 58 [(0, .ref 24), (1, .int a), (2, .int y), (3, .int (nI i)), (4, .int (nI j))] [] σ) ∧ (¬ (σ.1 24 2) ≤ (nI j) → V 26 [(0, .ref 24), (1, .int a), (2, .int y), (3, .int (nI i)), (4, .int (nI j))] [] σ)
          refine ⟨fun hc => absurd hc (show ¬ (σ.1 24 2) ≤ nI j by rw [hs]; exact nI_ge (by omega) (by omega)), fun _ => ?_⟩
          refine zq (σ := σ) hV hI rfl 6 ?_
          show (((y >>> ((nI j) &&& 31)) &&& 1) = 0 → V 52 [(0, .ref 24), (1, .int a), (2, .int y), (3, .int (nI i)), (4, .int (nI j))] [] σ) ∧ (¬ ((y >>> ((nI j) &&& 31)) &&& 1) = 0 → V 35 [(0, .ref 24), (1, .int a), (2, .int y), (3, .int (nI i)), (4, .int (nI j))] [] σ)
          refine ⟨fun h_32 => ?_, fun h_32 => ?_⟩
          · skip
            refine zq (σ := σ) hV hI rfl 2 ?_
            show V 17 [(4, .int ((nI j) + 1)), (0, .ref 24), (1, .int a), (2, .int y), (3, .int (nI i))] [] σ
            refine zwk hV [1, 2, 3, 4, 0] rfl ?_
            rw [nI_1]
            refine ihj (j + 1) _ (by omega) ?_
            rw [← hend]
            show zUj (σ.1 25) (σ.1 24 1) r (j + 1) _ = zUj (σ.1 25) (σ.1 24 1) r (j + 1) (zUx (σ.1 25) (σ.1 24 1) y j)
            unfold zUx
            first | rw [if_pos h_32] | rw [if_neg h_32]
          · skip
            refine zq (σ := σ) hV hI rfl 5 ?_
            show zSp _ 128 [.ref 25, .int (nI j)] σ (fun r σ' => σ'.2.2.2 = σ.2.2.2 + zAl 128 → V 45 [(0, .ref 24), (1, .int a), (2, .int y), (3, .int (nI i)), (4, .int (nI j))] (r.toList ++ [.int y]) σ')
            refine item_25 (zA_of hI rfl) rfl (by omega) (fun _ => ?_)
            refine zq (σ := σ) hV hI rfl 7 ?_
            show V 17 [(4, .int ((nI j) + 1)), (2, .int (y ||| ((σ.1 25 j) &&& (σ.1 24 1)))), (0, .ref 24), (1, .int a), (3, .int (nI i))] [] σ
            refine zwk hV [2, 3, 1, 4, 0] rfl ?_
            rw [nI_1]
            refine ihj (j + 1) _ (by omega) ?_
            rw [← hend]
            show zUj (σ.1 25) (σ.1 24 1) r (j + 1) _ = zUj (σ.1 25) (σ.1 24 1) r (j + 1) (zUx (σ.1 25) (σ.1 24 1) y j)
            unfold zUx
            first | rw [if_pos h_32] | rw [if_neg h_32]
      exact Hj n 0 _ (by omega) rfl
  exact Hi n 0 _ (by omega) rfl
set_option maxRecDepth 8000 in
set_option maxHeartbeats 4000000 in
theorem drop_C {d : Nat} {σ : zSt} {K : Option Value → zSt → Prop} {m : Nat} (hI : zQI (kR 0 30) σ.2.2) (hs : σ.1 24 2 = nI m) (hm : m ≤ 12) (hFull : m = 12 → K (some (.int (-4))) σ) (hOk : m < 12 → K (some (.int (nI m))) (zuI (zuI σ 24 1 (σ.1 24 1 ||| (1 <<< (nI m &&& 31)))) 24 2 (nI (m + 1)))) : zSp (d + 2) mX8_drop [.ref 0] σ K := by
  refine ⟨⟨by decide, Nat.le_of_ble_eq_true rfl⟩, fun V hV => ?_⟩
  have hmi := nI_toInt (show m < 2 ^ 31 by omega)
  refine zq (σ := σ) hV hI rfl 3 ?_
  show zSp _ 1 [.ref 24] σ (fun r σ' => σ'.2.2.2 = σ.2.2.2 + zAl 1 → V 7 [(0, .ref 0)] (r.toList ++ []) σ')
  refine bdropped_ok (zR_of hI rfl rfl) (fun _ => ?_)
  refine zq (σ := σ) hV hI rfl 2 ?_
  show ((σ.1 24 2) < 12 → V 15 [(0, .ref 0)] [] σ) ∧ (¬ (σ.1 24 2) < 12 → V 12 [(0, .ref 0)] [] σ)
  refine ⟨fun h_9 => ?_, fun h_9 => ?_⟩
  · skip
    refine zq (σ := σ) hV hI rfl 3 ?_
    show zSp _ 3 [.ref 24] σ (fun r σ' => σ'.2.2.2 = σ.2.2.2 + zAl 3 → V 22 [(0, .ref 0)] (r.toList ++ []) σ')
    refine badd_ok (zR_of hI rfl rfl) (fun _ => ?_)
    refine zq (σ := (zuI (zuI σ 24 1 (σ.1 24 1 ||| (1 <<< (σ.1 24 2 &&& 31)))) 24 2 (σ.1 24 2 + 1))) hV hI rfl 3 ?_
    show zSp _ 1 [.ref 24] (zuI (zuI σ 24 1 (σ.1 24 1 ||| (1 <<< (σ.1 24 2 &&& 31)))) 24 2 (σ.1 24 2 + 1)) (fun r σ' => σ'.2.2.2 = (zuI (zuI σ 24 1 (σ.1 24 1 ||| (1 <<< (σ.1 24 2 &&& 31)))) 24 2 (σ.1 24 2 + 1)).2.2.2 + zAl 1 → V 29 [(0, .ref 0)] (r.toList ++ []) σ')
    refine bdropped_ok (zR_of hI rfl rfl) (fun _ => ?_)
    refine zq (σ := (zuI (zuI σ 24 1 (σ.1 24 1 ||| (1 <<< (σ.1 24 2 &&& 31)))) 24 2 (σ.1 24 2 + 1))) hV hI rfl 3 ?_
    show K (some (.int ((σ.1 24 2 + 1) - 1))) (zuI (zuI σ 24 1 (σ.1 24 1 ||| (1 <<< (σ.1 24 2 &&& 31)))) 24 2 (σ.1 24 2 + 1))
    have hcap : m < 12 := by
      simp only [zlt, hs, hmi] at h_9
      simp at h_9
      omega
    rw [hs, nI_1, nI_pred]
    exact hOk hcap
  · skip
    refine zq (σ := σ) hV hI rfl 2 ?_
    show K (some (.int (-4))) σ
    refine hFull ?_
    simp only [zlt, hs, hmi] at h_9
    simp at h_9
    omega
set_option maxRecDepth 8000 in
set_option maxHeartbeats 4000000 in
theorem on_C {d : Nat} {σ : zSt} {K : Option Value → zSt → Prop} {a b : Int32} {m : Nat} (hI : zQI (kR 0 30) σ.2.2) (hs : σ.1 24 2 = nI m) (hm : m ≤ 12) (hBad : ¬ (zBt 0 (m - 1) a ∧ zBt 0 (m - 1) b ∧ ¬ a = b) → K (some (.int (-2))) σ) (hOk : ∀ j, b = nI j → j < m → (zBt 0 (m - 1) a ∧ zBt 0 (m - 1) b ∧ ¬ a = b) → K (some (.int 1)) (zuI σ 25 j (σ.1 25 j ||| (1 <<< (a &&& 31))))) : zSp (d + 3) mX8_on [.ref 0, .int a, .int b] σ K := by
  refine ⟨⟨by decide, Nat.le_of_ble_eq_true rfl⟩, fun V hV => ?_⟩
  refine zq (σ := σ) hV hI rfl 3 ?_
  show zSp _ 127 [.ref 0, .int a] σ (fun r σ' => σ'.2.2.2 = σ.2.2.2 + zAl 127 → V 5 [(0, .ref 0), (1, .int a), (2, .int b)] (r.toList ++ []) σ')
  refine isDropped_ok (zR_of hI rfl rfl) (by assumption) (by omega) (fun hb1 _ => ?_) (fun hb1 _ => ?_)
  · skip
    refine zq (σ := σ) hV hI rfl 1 ?_
    show ((1 : Int32) = 0 → V 21 [(0, .ref 0), (1, .int a), (2, .int b)] [] σ) ∧ (¬ (1 : Int32) = 0 → V 8 [(0, .ref 0), (1, .int a), (2, .int b)] [] σ)
    refine ⟨fun hc => absurd hc (by decide), fun _ => ?_⟩
    refine zq (σ := σ) hV hI rfl 3 ?_
    show zSp _ 127 [.ref 0, .int b] σ (fun r σ' => σ'.2.2.2 = σ.2.2.2 + zAl 127 → V 13 [(0, .ref 0), (1, .int a), (2, .int b)] (r.toList ++ []) σ')
    refine isDropped_ok (zR_of hI rfl rfl) (by assumption) (by omega) (fun hb2 _ => ?_) (fun hb2 _ => ?_)
    · skip
      refine zq (σ := σ) hV hI rfl 1 ?_
      show ((1 : Int32) = 0 → V 21 [(0, .ref 0), (1, .int a), (2, .int b)] [] σ) ∧ (¬ (1 : Int32) = 0 → V 16 [(0, .ref 0), (1, .int a), (2, .int b)] [] σ)
      refine ⟨fun hc => absurd hc (by decide), fun _ => ?_⟩
      refine zq (σ := σ) hV hI rfl 3 ?_
      show (¬ a = b → V 24 [(0, .ref 0), (1, .int a), (2, .int b)] [] σ) ∧ (¬ (¬ a = b) → V 21 [(0, .ref 0), (1, .int a), (2, .int b)] [] σ)
      refine ⟨fun h_18 => ?_, fun h_18 => ?_⟩
      · skip
        refine zq (σ := σ) hV hI rfl 5 ?_
        show zSp _ 4 [.ref 24, .int a, .int b] σ (fun r σ' => σ'.2.2.2 = σ.2.2.2 + zAl 4 → V 33 [(0, .ref 0), (1, .int a), (2, .int b)] (r.toList ++ []) σ')
        obtain ⟨j, hj, hj2, _⟩ := zNat (x := b) (by unfold zBt at hb2; omega)
        have hjm : j < m := by unfold zBt at hb2; omega
        refine blay_ok (zR_of hI rfl rfl) hj (by omega) (fun _ => ?_)
        refine zq (σ := (zuI σ 25 j (σ.1 25 j ||| (1 <<< (a &&& 31))))) hV hI rfl 2 ?_
        show K (some (.int 1)) (zuI σ 25 j (σ.1 25 j ||| (1 <<< (a &&& 31))))
        exact hOk j hj hjm ⟨hb1, hb2, h_18⟩
      · skip
        have h_18 := Classical.not_not.mp h_18
        refine zq (σ := σ) hV hI rfl 2 ?_
        show K (some (.int (-2))) σ
        exact hBad (fun q => q.2.2 h_18)
    · skip
      refine zq (σ := σ) hV hI rfl 1 ?_
      show ((0 : Int32) = 0 → V 21 [(0, .ref 0), (1, .int a), (2, .int b)] [] σ) ∧ (¬ (0 : Int32) = 0 → V 16 [(0, .ref 0), (1, .int a), (2, .int b)] [] σ)
      refine ⟨fun _ => ?_, fun hc => absurd (by decide) hc⟩
      refine zq (σ := σ) hV hI rfl 2 ?_
      show K (some (.int (-2))) σ
      exact hBad (fun q => hb2 q.2.1)
  · skip
    refine zq (σ := σ) hV hI rfl 1 ?_
    show ((0 : Int32) = 0 → V 21 [(0, .ref 0), (1, .int a), (2, .int b)] [] σ) ∧ (¬ (0 : Int32) = 0 → V 8 [(0, .ref 0), (1, .int a), (2, .int b)] [] σ)
    refine ⟨fun _ => ?_, fun hc => absurd (by decide) hc⟩
    refine zq (σ := σ) hV hI rfl 2 ?_
    show K (some (.int (-2))) σ
    exact hBad (fun q => hb1 q.1)
set_option maxRecDepth 8000 in
set_option maxHeartbeats 4000000 in
theorem pick_C {d : Nat} {σ : zSt} {K : Option Value → zSt → Prop} {a : Int32} {m : Nat} (hI : zQI (kR 0 30) σ.2.2) (hs : σ.1 24 2 = nI m) (hm : m ≤ 12) (hBad : ¬ zBt 0 (m - 1) a → K (some (.int (-2))) σ) (hNot : zBt 0 (m - 1) a → ¬ (zBit (σ.1 24 1) a ∧ ∀ j, a = nI j → (σ.1 25 j &&& σ.1 24 1) = 0) → K (some (.int (-3))) σ) (hOk : ∀ j, a = nI j → j < m → zBt 0 (m - 1) a → zBit (σ.1 24 1) a → (σ.1 25 j &&& σ.1 24 1) = 0 → K (some (.int 1)) (zuI σ 24 1 (σ.1 24 1 &&& ((1 <<< (a &&& 31)) ^^^ (-1))))) : zSp (d + 3) mX8_pick [.ref 0, .int a] σ K := by
  refine ⟨⟨by decide, Nat.le_of_ble_eq_true rfl⟩, fun V hV => ?_⟩
  refine zq (σ := σ) hV hI rfl 3 ?_
  show zSp _ 127 [.ref 0, .int a] σ (fun r σ' => σ'.2.2.2 = σ.2.2.2 + zAl 127 → V 5 [(0, .ref 0), (1, .int a)] (r.toList ++ []) σ')
  refine isDropped_ok (zR_of hI rfl rfl) (by assumption) (by omega) (fun hb1 _ => ?_) (fun hb1 _ => ?_)
  · skip
    refine zq (σ := σ) hV hI rfl 1 ?_
    show (¬ (1 : Int32) = 0 → V 11 [(0, .ref 0), (1, .int a)] [] σ) ∧ (¬ (¬ (1 : Int32) = 0) → V 8 [(0, .ref 0), (1, .int a)] [] σ)
    refine ⟨fun _ => ?_, fun hc => absurd (by decide) hc⟩
    refine zq (σ := σ) hV hI rfl 4 ?_
    show zSp _ 5 [.ref 24, .int a] σ (fun r σ' => σ'.2.2.2 = σ.2.2.2 + zAl 5 → V 19 [(0, .ref 0), (1, .int a)] (r.toList ++ []) σ')
    refine isInside_ok (zR_of hI rfl rfl)  (fun hb2 _ => ?_) (fun hb2 _ => ?_)
    · skip
      refine zq (σ := σ) hV hI rfl 1 ?_
      show ((1 : Int32) = 0 → V 33 [(0, .ref 0), (1, .int a)] [] σ) ∧ (¬ (1 : Int32) = 0 → V 22 [(0, .ref 0), (1, .int a)] [] σ)
      refine ⟨fun hc => absurd hc (by decide), fun _ => ?_⟩
      refine zq (σ := σ) hV hI rfl 4 ?_
      show zSp _ 6 [.ref 24, .int a] σ (fun r σ' => σ'.2.2.2 = σ.2.2.2 + zAl 6 → V 30 [(0, .ref 0), (1, .int a)] (r.toList ++ []) σ')
      obtain ⟨j, hj, hj2, _⟩ := zNat (x := a) (by unfold zBt at hb1; omega)
      have hjm : j < m := by unfold zBt at hb1; omega
      refine isCovered_ok (zR_of hI rfl rfl) hj (by omega) (fun hb3 _ => ?_) (fun hb3 _ => ?_)
      · skip
        refine zq (σ := σ) hV hI rfl 1 ?_
        show ((1 : Int32) = 0 → V 36 [(0, .ref 0), (1, .int a)] [] σ) ∧ (¬ (1 : Int32) = 0 → V 33 [(0, .ref 0), (1, .int a)] [] σ)
        refine ⟨fun hc => absurd hc (by decide), fun _ => ?_⟩
        refine zq (σ := σ) hV hI rfl 2 ?_
        show K (some (.int (-3))) σ
        refine hNot hb1 (fun q => ?_)
        have q2 := q.2 j hj
        exact hb3 q2
      · skip
        refine zq (σ := σ) hV hI rfl 1 ?_
        show ((0 : Int32) = 0 → V 36 [(0, .ref 0), (1, .int a)] [] σ) ∧ (¬ (0 : Int32) = 0 → V 33 [(0, .ref 0), (1, .int a)] [] σ)
        refine ⟨fun _ => ?_, fun hc => absurd (by decide) hc⟩
        refine zq (σ := σ) hV hI rfl 4 ?_
        show zSp _ 7 [.ref 24, .int a] σ (fun r σ' => σ'.2.2.2 = σ.2.2.2 + zAl 7 → V 44 [(0, .ref 0), (1, .int a)] (r.toList ++ []) σ')
        refine bremove_ok (zR_of hI rfl rfl) (fun _ => ?_)
        refine zq (σ := (zuI σ 24 1 (σ.1 24 1 &&& ((1 <<< (a &&& 31)) ^^^ (-1))))) hV hI rfl 2 ?_
        show K (some (.int 1)) (zuI σ 24 1 (σ.1 24 1 &&& ((1 <<< (a &&& 31)) ^^^ (-1))))
        exact hOk j hj hjm hb1 hb2 (Classical.not_not.mp hb3)
    · skip
      refine zq (σ := σ) hV hI rfl 1 ?_
      show ((0 : Int32) = 0 → V 33 [(0, .ref 0), (1, .int a)] [] σ) ∧ (¬ (0 : Int32) = 0 → V 22 [(0, .ref 0), (1, .int a)] [] σ)
      refine ⟨fun _ => ?_, fun hc => absurd (by decide) hc⟩
      refine zq (σ := σ) hV hI rfl 2 ?_
      show K (some (.int (-3))) σ
      exact hNot hb1 (fun q => hb2 q.1)
  · skip
    refine zq (σ := σ) hV hI rfl 1 ?_
    show (¬ (0 : Int32) = 0 → V 11 [(0, .ref 0), (1, .int a)] [] σ) ∧ (¬ (¬ (0 : Int32) = 0) → V 8 [(0, .ref 0), (1, .int a)] [] σ)
    refine ⟨fun hc => absurd hc (by decide), fun _ => ?_⟩
    refine zq (σ := σ) hV hI rfl 2 ?_
    show K (some (.int (-2))) σ
    exact hBad hb1
set_option maxRecDepth 8000 in
set_option maxHeartbeats 4000000 in
theorem reach_C {d : Nat} {σ : zSt} {K : Option Value → zSt → Prop} {a : Int32} {m : Nat} (hI : zQI (kR 0 30) σ.2.2) (hs : σ.1 24 2 = nI m) (hm : m ≤ 12) (hBad : ¬ zBt 0 (m - 1) a → K (some (.int (-2))) σ) (hNot : zBt 0 (m - 1) a → ¬ zBit (σ.1 24 1) a → K (some (.int (-3))) σ) (hNone : zBt 0 (m - 1) a → zBit (σ.1 24 1) a → zBit (zStk (σ.1 25) m (σ.1 24 1)) a → K (some (.int (-1))) σ) (hOk : zBt 0 (m - 1) a → zBit (σ.1 24 1) a → ¬ zBit (zStk (σ.1 25) m (σ.1 24 1)) a → K (some (.int (zBc (zAll (σ.1 25) m (σ.1 24 1) a)))) σ) : zSp (d + 3) mX8_reach [.ref 0, .int a] σ K := by
  refine ⟨⟨by decide, Nat.le_of_ble_eq_true rfl⟩, fun V hV => ?_⟩
  refine zq (σ := σ) hV hI rfl 3 ?_
  show zSp _ 127 [.ref 0, .int a] σ (fun r σ' => σ'.2.2.2 = σ.2.2.2 + zAl 127 → V 5 [(0, .ref 0), (1, .int a)] (r.toList ++ []) σ')
  refine isDropped_ok (zR_of hI rfl rfl) (by assumption) (by omega) (fun hb1 _ => ?_) (fun hb1 _ => ?_)
  · skip
    refine zq (σ := σ) hV hI rfl 1 ?_
    show (¬ (1 : Int32) = 0 → V 11 [(0, .ref 0), (1, .int a)] [] σ) ∧ (¬ (¬ (1 : Int32) = 0) → V 8 [(0, .ref 0), (1, .int a)] [] σ)
    refine ⟨fun _ => ?_, fun hc => absurd (by decide) hc⟩
    refine zq (σ := σ) hV hI rfl 4 ?_
    show zSp _ 5 [.ref 24, .int a] σ (fun r σ' => σ'.2.2.2 = σ.2.2.2 + zAl 5 → V 19 [(0, .ref 0), (1, .int a)] (r.toList ++ []) σ')
    refine isInside_ok (zR_of hI rfl rfl)  (fun hb2 _ => ?_) (fun hb2 _ => ?_)
    · skip
      refine zq (σ := σ) hV hI rfl 1 ?_
      show (¬ (1 : Int32) = 0 → V 25 [(0, .ref 0), (1, .int a)] [] σ) ∧ (¬ (¬ (1 : Int32) = 0) → V 22 [(0, .ref 0), (1, .int a)] [] σ)
      refine ⟨fun _ => ?_, fun hc => absurd (by decide) hc⟩
      refine zq (σ := σ) hV hI rfl 3 ?_
      show zSp _ 8 [.ref 24] σ (fun r σ' => σ'.2.2.2 = σ.2.2.2 + zAl 8 → V 32 [(0, .ref 0), (1, .int a)] (r.toList ++ []) σ')
      refine stuckBits_ok (zR_of hI rfl rfl) hs hm (fun _ => ?_)
      refine zq (σ := σ) hV hI rfl 5 ?_
      show ((((zStk (σ.1 25) m (σ.1 24 1)) >>> (a &&& 31)) &&& 1) = 0 → V 43 [(0, .ref 0), (1, .int a)] [] σ) ∧ (¬ (((zStk (σ.1 25) m (σ.1 24 1)) >>> (a &&& 31)) &&& 1) = 0 → V 39 [(0, .ref 0), (1, .int a)] [] σ)
      refine ⟨fun h_36 => ?_, fun h_36 => ?_⟩
      · skip
        refine zq (σ := σ) hV hI rfl 4 ?_
        show zSp _ 9 [.ref 24, .int a] σ (fun r σ' => σ'.2.2.2 = σ.2.2.2 + zAl 9 → V 51 [(0, .ref 0), (1, .int a)] (r.toList ++ []) σ')
        refine withAllAbove_ok (zR_of hI rfl rfl) hs hm (fun _ => ?_)
        refine zq (σ := σ) hV hI rfl 1 ?_
        show zSp _ 196 [.int (zAll (σ.1 25) m (σ.1 24 1) a)] σ (fun r σ' => σ'.2.2.2 = σ.2.2.2 + zAl 196 → V 54 [(0, .ref 0), (1, .int a)] (r.toList ++ []) σ')
        refine bits_ok  (fun _ => ?_)
        refine zq (σ := σ) hV hI rfl 1 ?_
        show K (some (.int (zBc (zAll (σ.1 25) m (σ.1 24 1) a)))) σ
        exact hOk hb1 hb2 (fun q => q h_36)
      · skip
        refine zq (σ := σ) hV hI rfl 3 ?_
        show K (some (.int (-1))) σ
        exact hNone hb1 hb2 h_36
    · skip
      refine zq (σ := σ) hV hI rfl 1 ?_
      show (¬ (0 : Int32) = 0 → V 25 [(0, .ref 0), (1, .int a)] [] σ) ∧ (¬ (¬ (0 : Int32) = 0) → V 22 [(0, .ref 0), (1, .int a)] [] σ)
      refine ⟨fun hc => absurd hc (by decide), fun _ => ?_⟩
      refine zq (σ := σ) hV hI rfl 2 ?_
      show K (some (.int (-3))) σ
      exact hNot hb1 hb2
  · skip
    refine zq (σ := σ) hV hI rfl 1 ?_
    show (¬ (0 : Int32) = 0 → V 11 [(0, .ref 0), (1, .int a)] [] σ) ∧ (¬ (¬ (0 : Int32) = 0) → V 8 [(0, .ref 0), (1, .int a)] [] σ)
    refine ⟨fun hc => absurd hc (by decide), fun _ => ?_⟩
    refine zq (σ := σ) hV hI rfl 2 ?_
    show K (some (.int (-2))) σ
    exact hBad hb1
set_option maxRecDepth 8000 in
set_option maxHeartbeats 4000000 in
theorem stuck_C {d : Nat} {σ : zSt} {K : Option Value → zSt → Prop} {m : Nat} (hI : zQI (kR 0 30) σ.2.2) (hs : σ.1 24 2 = nI m) (hm : m ≤ 12) (hK : K (some (.int (zStk (σ.1 25) m (σ.1 24 1)))) σ) : zSp (d + 3) mX8_stuck [.ref 0] σ K := by
  refine ⟨⟨by decide, Nat.le_of_ble_eq_true rfl⟩, fun V hV => ?_⟩
  refine zq (σ := σ) hV hI rfl 3 ?_
  show zSp _ 8 [.ref 24] σ (fun r σ' => σ'.2.2.2 = σ.2.2.2 + zAl 8 → V 7 [(0, .ref 0)] (r.toList ++ []) σ')
  refine stuckBits_ok (zR_of hI rfl rfl) hs hm (fun _ => ?_)
  refine zq (σ := σ) hV hI rfl 1 ?_
  show K (some (.int (zStk (σ.1 25) m (σ.1 24 1)))) σ
  exact hK
