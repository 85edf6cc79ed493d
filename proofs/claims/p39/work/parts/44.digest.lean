variable {zx : Nat × (Nat → Int32)}
theorem zn_a {x y : Int32} {a b : Nat} (h : x = nI a) (g : y = nI b) : x + y = nI (a + b) := by rw [h, g, nI_add]
theorem zn_m {x y : Int32} {a b : Nat} (h : x = nI a) (g : y = nI b) : x * y = nI (a * b) := by rw [h, g, pk_mul]
/-- whether the first n pairs of a row are a part -/
def zShp (I : Nat → Int32) (n : Nat) : Prop := (∀ i, i < 2 * n → zBt (-30) 30 (I i)) ∧ 0 < zAr n (fun j => I (2 * j)) (fun j => I (2 * j + 1)) n
set_option maxRecDepth 8000 in
set_option maxHeartbeats 4000000 in
theorem isShape_ok {d : Nat} {σ : zSt} {K : Option Value → zSt → Prop} {k n : Nat} (hI : zQI (kR 0 30) σ.2.2) (hk : k < 4) (hn10 : n ≤ 10) (h1 : zShp (fun j => σ.1 29 (k * 60 + j)) n → K (some (.int 1)) σ) (h0 : ¬ zShp (fun j => σ.1 29 (k * 60 + j)) n → K (some (.int 0)) σ) : zSp zx (d + 3) mX8_isShape [.ref 0, .int (nI k), .int (nI n)] σ K := by
  refine ⟨⟨by decide, Nat.le_of_ble_eq_true rfl⟩, fun V hV => ?_⟩
  refine zq (σ := σ) hV hI rfl 2 ?_
  show V 2 [(3, .int 0), (0, .ref 0), (1, .int (nI k)), (2, .int (nI n))] [] σ
  refine zwk hV [1, 2, 3, 0] rfl ?_
  have Hi : ∀ (r : Nat) (i : Nat), i + r = 2 * n → (∀ j, j < i → zBt (-30) 30 (σ.1 29 (k * 60 + j))) → V 2 [(0, .ref 0), (1, .int (nI k)), (2, .int (nI n)), (3, .int (nI i))] [] σ := by
    intro r
    induction r with
    | zero =>
      intro i him hall
      refine zq (σ := σ) hV hI rfl 5 ?_
      show ((2 * (nI n)) ≤ (nI i) → V 34 [(0, .ref 0), (1, .int (nI k)), (2, .int (nI n)), (3, .int (nI i))] [] σ) ∧ (¬ (2 * (nI n)) ≤ (nI i) → V 9 [(0, .ref 0), (1, .int (nI k)), (2, .int (nI n)), (3, .int (nI i))] [] σ)
      refine ⟨fun _ => ?_, fun hc => absurd (show (2 : Int32) * nI n ≤ nI i by rw [(show (2 : Int32) * nI n = nI (2 * n) from zn_m (a := 2) rfl rfl)]; exact zge_self (by omega)) hc⟩
      refine zq (σ := σ) hV hI rfl 4 ?_
      show V 39 [(4, .int 0), (3, .int 0), (0, .ref 0), (1, .int (nI k)), (2, .int (nI n))] [] σ
      refine zwk hV [2, 3, 4, 1, 0] rfl ?_
      have Hq : ∀ (r : Nat) (q : Nat) (a : Int32), q + r = n → a = zAr n (fun j => σ.1 29 (k * 60 + 2 * j)) (fun j => σ.1 29 (k * 60 + (2 * j + 1))) q → V 39 [(0, .ref 0), (1, .int (nI k)), (2, .int (nI n)), (3, .int a), (4, .int (nI q))] [] σ := by
        intro r
        induction r with
        | zero =>
          intro q a hqm harea
          refine zq (σ := σ) hV hI rfl 3 ?_
          show ((nI n) ≤ (nI q) → V 127 [(0, .ref 0), (1, .int (nI k)), (2, .int (nI n)), (3, .int a), (4, .int (nI q))] [] σ) ∧ (¬ (nI n) ≤ (nI q) → V 45 [(0, .ref 0), (1, .int (nI k)), (2, .int (nI n)), (3, .int a), (4, .int (nI q))] [] σ)
          refine ⟨fun _ => ?_, fun hc => absurd (show nI n ≤ nI q from zge_self (by omega)) hc⟩
          refine zq (σ := σ) hV hI rfl 2 ?_
          show (a ≤ 0 → V 135 [(0, .ref 0), (1, .int (nI k)), (2, .int (nI n)), (3, .int a), (4, .int (nI q))] [] σ) ∧ (¬ a ≤ 0 → V 131 [(0, .ref 0), (1, .int (nI k)), (2, .int (nI n)), (3, .int a), (4, .int (nI q))] [] σ)
          refine ⟨fun h_128 => ?_, fun h_128 => ?_⟩
          · skip
            refine zq (σ := σ) hV hI rfl 2 ?_
            show ((0 : Int32) = 0 ∨ (0 : Int32) = 1) ∧ K (some (.int 0)) σ
            refine ⟨by decide, ?_⟩
            obtain rfl : i = 2 * n := by omega
            obtain rfl : q = n := by omega
            subst harea
            exact h0 (fun x => Int32.not_le.mpr x.2 h_128)
          · skip
            refine zq (σ := σ) hV hI rfl 3 ?_
            show ((1 : Int32) = 0 ∨ (1 : Int32) = 1) ∧ K (some (.int 1)) σ
            refine ⟨by decide, ?_⟩
            obtain rfl : i = 2 * n := by omega
            obtain rfl : q = n := by omega
            subst harea
            exact h1 ⟨hall, Int32.not_le.mp h_128⟩
        | succ r ihq =>
          intro q a hqm harea
          refine zq (σ := σ) hV hI rfl 3 ?_
          show ((nI n) ≤ (nI q) → V 127 [(0, .ref 0), (1, .int (nI k)), (2, .int (nI n)), (3, .int a), (4, .int (nI q))] [] σ) ∧ (¬ (nI n) ≤ (nI q) → V 45 [(0, .ref 0), (1, .int (nI k)), (2, .int (nI n)), (3, .int a), (4, .int (nI q))] [] σ)
          refine ⟨fun hc => absurd hc (show ¬ nI n ≤ nI q from nI_ge (by omega) (by omega)), fun _ => ?_⟩
          refine zq (σ := σ) hV hI rfl 5 ?_
          show ((nI n) ≤ ((nI q) + 1) → V 60 [(0, .ref 0), (1, .int (nI k)), (2, .int (nI n)), (3, .int a), (4, .int (nI q))] [] σ) ∧ (¬ (nI n) ≤ ((nI q) + 1) → V 53 [(0, .ref 0), (1, .int (nI k)), (2, .int (nI n)), (3, .int a), (4, .int (nI q))] [] σ)
          refine ⟨fun h_50 => ?_, fun h_50 => ?_⟩
          · skip
            refine zq (σ := σ) hV hI rfl 1 ?_
            show V 61 [(0, .ref 0), (1, .int (nI k)), (2, .int (nI n)), (3, .int a), (4, .int (nI q))] [.int 0] σ
            have hnx : zNx n q = 0 := by rw [nI_1, nI_leI (by omega) (by omega)] at h_50; unfold zNx; rw [if_neg (by omega)]
            rw [show (0 : Int32) = nI (zNx n q) by rw [hnx]; rfl]
            have hnl := zNx_lt (show q < n by omega)
            refine zq (σ := σ) hV hI rfl 9 ?_
            show zSp _ _ 33 [.ref 26, .int (nI k), .int (2 * (nI q))] σ (fun r σ' => σ'.2.2.2 = σ.2.2.2 + zAl 33 → V 76 [(5, .int (nI (zNx n q))), (0, .ref 0), (1, .int (nI k)), (2, .int (nI n)), (3, .int a), (4, .int (nI q))] (r.toList ++ [.int a]) σ')
            refine svalue_ok (zR_of hI rfl rfl) (k := k) rfl (by omega) (j := (2 * q)) (zn_m (a := 2) (b := q) rfl rfl) (by omega) (fun _ => ?_)
            refine zq (σ := σ) hV hI rfl 9 ?_
            show zSp _ _ 33 [.ref 26, .int (nI k), .int ((2 * (nI (zNx n q))) + 1)] σ (fun r σ' => σ'.2.2.2 = σ.2.2.2 + zAl 33 → V 90 [(5, .int (nI (zNx n q))), (0, .ref 0), (1, .int (nI k)), (2, .int (nI n)), (3, .int a), (4, .int (nI q))] (r.toList ++ [.int (σ.1 29 (k * 60 + (2 * q))), .int a]) σ')
            refine svalue_ok (zR_of hI rfl rfl) (k := k) rfl (by omega) (j := ((2 * (zNx n q)) + 1)) (zn_a (a := (2 * (zNx n q))) (b := 1) (zn_m (a := 2) (b := (zNx n q)) rfl rfl) rfl) (by omega) (fun _ => ?_)
            refine zq (σ := σ) hV hI rfl 10 ?_
            show zSp _ _ 33 [.ref 26, .int (nI k), .int ((2 * (nI q)) + 1)] σ (fun r σ' => σ'.2.2.2 = σ.2.2.2 + zAl 33 → V 105 [(5, .int (nI (zNx n q))), (0, .ref 0), (1, .int (nI k)), (2, .int (nI n)), (3, .int a), (4, .int (nI q))] (r.toList ++ [.int ((σ.1 29 (k * 60 + (2 * q))) * (σ.1 29 (k * 60 + ((2 * (zNx n q)) + 1)))), .int a]) σ')
            refine svalue_ok (zR_of hI rfl rfl) (k := k) rfl (by omega) (j := ((2 * q) + 1)) (zn_a (a := (2 * q)) (b := 1) (zn_m (a := 2) (b := q) rfl rfl) rfl) (by omega) (fun _ => ?_)
            refine zq (σ := σ) hV hI rfl 7 ?_
            show zSp _ _ 33 [.ref 26, .int (nI k), .int (2 * (nI (zNx n q)))] σ (fun r σ' => σ'.2.2.2 = σ.2.2.2 + zAl 33 → V 117 [(5, .int (nI (zNx n q))), (0, .ref 0), (1, .int (nI k)), (2, .int (nI n)), (3, .int a), (4, .int (nI q))] (r.toList ++ [.int (σ.1 29 (k * 60 + ((2 * q) + 1))), .int ((σ.1 29 (k * 60 + (2 * q))) * (σ.1 29 (k * 60 + ((2 * (zNx n q)) + 1)))), .int a]) σ')
            refine svalue_ok (zR_of hI rfl rfl) (k := k) rfl (by omega) (j := (2 * (zNx n q))) (zn_m (a := 2) (b := (zNx n q)) rfl rfl) (by omega) (fun _ => ?_)
            refine zq (σ := σ) hV hI rfl 6 ?_
            show V 39 [(4, .int ((nI q) + 1)), (3, .int (a + (((σ.1 29 (k * 60 + (2 * q))) * (σ.1 29 (k * 60 + ((2 * (zNx n q)) + 1)))) - ((σ.1 29 (k * 60 + ((2 * q) + 1))) * (σ.1 29 (k * 60 + (2 * (zNx n q)))))))), (5, .int (nI (zNx n q))), (0, .ref 0), (1, .int (nI k)), (2, .int (nI n))] [] σ
            refine zwk hV [3, 4, 5, 1, 0] rfl ?_
            rw [nI_1]
            refine ihq (q + 1) _ (by omega) ?_
            rw [harea]
            rfl
          · skip
            refine zq (σ := σ) hV hI rfl 4 ?_
            show V 61 [(0, .ref 0), (1, .int (nI k)), (2, .int (nI n)), (3, .int a), (4, .int (nI q))] [.int ((nI q) + 1)] σ
            have hnx : zNx n q = q + 1 := by rw [nI_1, nI_leI (by omega) (by omega)] at h_50; unfold zNx; rw [if_pos (by omega)]
            rw [show (((nI q) + 1) : Int32) = nI (zNx n q) by rw [hnx]; exact nI_1 q]
            have hnl := zNx_lt (show q < n by omega)
            refine zq (σ := σ) hV hI rfl 9 ?_
            show zSp _ _ 33 [.ref 26, .int (nI k), .int (2 * (nI q))] σ (fun r σ' => σ'.2.2.2 = σ.2.2.2 + zAl 33 → V 76 [(5, .int (nI (zNx n q))), (0, .ref 0), (1, .int (nI k)), (2, .int (nI n)), (3, .int a), (4, .int (nI q))] (r.toList ++ [.int a]) σ')
            refine svalue_ok (zR_of hI rfl rfl) (k := k) rfl (by omega) (j := (2 * q)) (zn_m (a := 2) (b := q) rfl rfl) (by omega) (fun _ => ?_)
            refine zq (σ := σ) hV hI rfl 9 ?_
            show zSp _ _ 33 [.ref 26, .int (nI k), .int ((2 * (nI (zNx n q))) + 1)] σ (fun r σ' => σ'.2.2.2 = σ.2.2.2 + zAl 33 → V 90 [(5, .int (nI (zNx n q))), (0, .ref 0), (1, .int (nI k)), (2, .int (nI n)), (3, .int a), (4, .int (nI q))] (r.toList ++ [.int (σ.1 29 (k * 60 + (2 * q))), .int a]) σ')
            refine svalue_ok (zR_of hI rfl rfl) (k := k) rfl (by omega) (j := ((2 * (zNx n q)) + 1)) (zn_a (a := (2 * (zNx n q))) (b := 1) (zn_m (a := 2) (b := (zNx n q)) rfl rfl) rfl) (by omega) (fun _ => ?_)
            refine zq (σ := σ) hV hI rfl 10 ?_
            show zSp _ _ 33 [.ref 26, .int (nI k), .int ((2 * (nI q)) + 1)] σ (fun r σ' => σ'.2.2.2 = σ.2.2.2 + zAl 33 → V 105 [(5, .int (nI (zNx n q))), (0, .ref 0), (1, .int (nI k)), (2, .int (nI n)), (3, .int a), (4, .int (nI q))] (r.toList ++ [.int ((σ.1 29 (k * 60 + (2 * q))) * (σ.1 29 (k * 60 + ((2 * (zNx n q)) + 1)))), .int a]) σ')
            refine svalue_ok (zR_of hI rfl rfl) (k := k) rfl (by omega) (j := ((2 * q) + 1)) (zn_a (a := (2 * q)) (b := 1) (zn_m (a := 2) (b := q) rfl rfl) rfl) (by omega) (fun _ => ?_)
            refine zq (σ := σ) hV hI rfl 7 ?_
            show zSp _ _ 33 [.ref 26, .int (nI k), .int (2 * (nI (zNx n q)))] σ (fun r σ' => σ'.2.2.2 = σ.2.2.2 + zAl 33 → V 117 [(5, .int (nI (zNx n q))), (0, .ref 0), (1, .int (nI k)), (2, .int (nI n)), (3, .int a), (4, .int (nI q))] (r.toList ++ [.int (σ.1 29 (k * 60 + ((2 * q) + 1))), .int ((σ.1 29 (k * 60 + (2 * q))) * (σ.1 29 (k * 60 + ((2 * (zNx n q)) + 1)))), .int a]) σ')
            refine svalue_ok (zR_of hI rfl rfl) (k := k) rfl (by omega) (j := (2 * (zNx n q))) (zn_m (a := 2) (b := (zNx n q)) rfl rfl) (by omega) (fun _ => ?_)
            refine zq (σ := σ) hV hI rfl 6 ?_
            show V 39 [(4, .int ((nI q) + 1)), (3, .int (a + (((σ.1 29 (k * 60 + (2 * q))) * (σ.1 29 (k * 60 + ((2 * (zNx n q)) + 1)))) - ((σ.1 29 (k * 60 + ((2 * q) + 1))) * (σ.1 29 (k * 60 + (2 * (zNx n q)))))))), (5, .int (nI (zNx n q))), (0, .ref 0), (1, .int (nI k)), (2, .int (nI n))] [] σ
            refine zwk hV [3, 4, 5, 1, 0] rfl ?_
            rw [nI_1]
            refine ihq (q + 1) _ (by omega) ?_
            rw [harea]
            rfl
      exact Hq n 0 0 (by omega) rfl
    | succ r ihi =>
      intro i him hall
      refine zq (σ := σ) hV hI rfl 5 ?_
      show ((2 * (nI n)) ≤ (nI i) → V 34 [(0, .ref 0), (1, .int (nI k)), (2, .int (nI n)), (3, .int (nI i))] [] σ) ∧ (¬ (2 * (nI n)) ≤ (nI i) → V 9 [(0, .ref 0), (1, .int (nI k)), (2, .int (nI n)), (3, .int (nI i))] [] σ)
      refine ⟨fun hc => absurd hc (show ¬ (2 : Int32) * nI n ≤ nI i by rw [(show (2 : Int32) * nI n = nI (2 * n) from zn_m (a := 2) rfl rfl)]; exact nI_ge (by omega) (by omega)), fun _ => ?_⟩
      refine zq (σ := σ) hV hI rfl 5 ?_
      show zSp _ _ 33 [.ref 26, .int (nI k), .int (nI i)] σ (fun r σ' => σ'.2.2.2 = σ.2.2.2 + zAl 33 → V 18 [(0, .ref 0), (1, .int (nI k)), (2, .int (nI n)), (3, .int (nI i))] (r.toList ++ []) σ')
      refine svalue_ok (zR_of hI rfl rfl) (k := k) rfl (by omega) (j := i) rfl (by omega) (fun _ => ?_)
      refine zq (σ := σ) hV hI rfl 2 ?_
      show zSp _ _ 73 [.int (σ.1 29 (k * 60 + i)), .int 30] σ (fun r σ' => σ'.2.2.2 = σ.2.2.2 + zAl 73 → V 23 [(0, .ref 0), (1, .int (nI k)), (2, .int (nI n)), (3, .int (nI i))] (r.toList ++ []) σ')
      refine isWithin_ok (k := 30) rfl (by decide) (fun hw _ => ?_) (fun hw _ => ?_)
      · skip
        refine zq (σ := σ) hV hI rfl 1 ?_
        show (¬ (1 : Int32) = 0 → V 28 [(0, .ref 0), (1, .int (nI k)), (2, .int (nI n)), (3, .int (nI i))] [] σ) ∧ (¬ (¬ (1 : Int32) = 0) → V 26 [(0, .ref 0), (1, .int (nI k)), (2, .int (nI n)), (3, .int (nI i))] [] σ)
        refine ⟨fun _ => ?_, fun hc => absurd (by decide) hc⟩
        refine zq (σ := σ) hV hI rfl 2 ?_
        show V 2 [(3, .int ((nI i) + 1)), (0, .ref 0), (1, .int (nI k)), (2, .int (nI n))] [] σ
        refine zwk hV [1, 2, 3, 0] rfl ?_
        rw [nI_1]
        refine ihi (i + 1) (by omega) (fun j hj => ?_)
        by_cases e : j = i
        · subst e; exact hw
        · exact hall j (by omega)
      · skip
        refine zq (σ := σ) hV hI rfl 1 ?_
        show (¬ (0 : Int32) = 0 → V 28 [(0, .ref 0), (1, .int (nI k)), (2, .int (nI n)), (3, .int (nI i))] [] σ) ∧ (¬ (¬ (0 : Int32) = 0) → V 26 [(0, .ref 0), (1, .int (nI k)), (2, .int (nI n)), (3, .int (nI i))] [] σ)
        refine ⟨fun hc => absurd hc (by decide), fun _ => ?_⟩
        refine zq (σ := σ) hV hI rfl 2 ?_
        show ((0 : Int32) = 0 ∨ (0 : Int32) = 1) ∧ K (some (.int 0)) σ
        refine ⟨by decide, ?_⟩
        exact h0 (fun x => hw (x.1 i (by omega)))
  exact Hi (2 * n) 0 (by omega) (fun j q => absurd q (Nat.not_lt_zero j))
def zfSh (n : Nat) (a j : Nat) : Bool := (Nat.beq a 1 && Nat.ble 2 j) || ((Nat.beq a 2 || Nat.beq a 3) && Nat.blt j n) || (Nat.beq a 4 && Nat.beq j 2) || (Nat.beq a 14 && Nat.beq j 3)
theorem zfPo_Sh {n : Nat} (a j : Nat) (h : zfSh n a j = false) : zfPo a j = false := by
  unfold zfSh at h; unfold zfPo
  rw [Bool.or_eq_false_iff, Bool.or_eq_false_iff, Bool.or_eq_false_iff] at h
  exact h.1.1.1
set_option maxRecDepth 8000 in
set_option maxHeartbeats 4000000 in
theorem shape_C {d : Nat} {σ : zSt} {K : Option Value → zSt → Prop} {s c : Int32} (hI : zQI (kR 0 30) σ.2.2) (hL : ∀ k, k < 4 → ∃ l, σ.1 28 k = nI l ∧ l ≤ 60) (hBad : ¬ (zBt 0 3 s ∧ zBt 3 10 c) → K (some (.int (-2))) σ) (hNull : ∀ k n, s = nI k → k < 4 → c = nI n → (3 ≤ n ∧ n ≤ 10) → σ.1 27 k = -1 → K (some (.int (-10 - 1))) (zuI σ 26 3 1)) (hIndex : ∀ k n l, s = nI k → k < 4 → c = nI n → (3 ≤ n ∧ n ≤ 10) → ¬ σ.1 27 k = -1 → σ.1 28 k = nI l → l < 2 * n → K (some (.int (-10 - 2))) (zuI σ 26 3 2))
    (hNot : ∀ k n l, s = nI k → k < 4 → c = nI n → (3 ≤ n ∧ n ≤ 10) → ¬ σ.1 27 k = -1 → σ.1 28 k = nI l → 2 * n ≤ l → ¬ zShp (fun j => σ.1 29 (k * 60 + j)) n → K (some (.int (-3))) σ)
    (hOk : ∀ τ k n l, s = nI k → k < 4 → c = nI n → (3 ≤ n ∧ n ≤ 10) → ¬ σ.1 27 k = -1 → σ.1 28 k = nI l → 2 * n ≤ l → zShp (fun j => σ.1 29 (k * 60 + j)) n → zOnly (zfSh n) σ τ → τ.1 1 2 = nI n → (∀ j, j < n → τ.1 2 j = σ.1 29 (k * 60 + 2 * j) ∧ τ.1 3 j = σ.1 29 (k * 60 + (2 * j + 1))) → τ.1 1 3 = zAr n (τ.1 2) (τ.1 3) n → τ.1 1 4 = zMx n (τ.1 2) (τ.1 3) n → τ.1 1 5 = zMy n (τ.1 2) (τ.1 3) n → τ.1 4 2 = 0 → τ.1 14 3 = 0 → K (some (.int (τ.1 1 3))) τ) : zSp zx (d + 4) mX8_shape [.ref 0, .int s, .int c] σ K := by
  refine ⟨⟨by decide, Nat.le_of_ble_eq_true rfl⟩, fun V hV => ?_⟩
  refine zq (σ := σ) hV hI rfl 2 ?_
  show zSp _ _ 75 [.int s] σ (fun r σ' => σ'.2.2.2 = σ.2.2.2 + zAl 75 → V 4 [(0, .ref 0), (1, .int s), (2, .int c)] (r.toList ++ []) σ')
  refine isSheet_ok (fun hb1 _ => ?_) (fun hb1 _ => ?_)
  · skip
    refine zq (σ := σ) hV hI rfl 1 ?_
    show ((1 : Int32) = 0 → V 18 [(0, .ref 0), (1, .int s), (2, .int c)] [] σ) ∧ (¬ (1 : Int32) = 0 → V 7 [(0, .ref 0), (1, .int s), (2, .int c)] [] σ)
    refine ⟨fun hc => absurd hc (by decide), fun _ => ?_⟩
    refine zq (σ := σ) hV hI rfl 3 ?_
    show (c < 3 → V 18 [(0, .ref 0), (1, .int s), (2, .int c)] [] σ) ∧ (¬ c < 3 → V 12 [(0, .ref 0), (1, .int s), (2, .int c)] [] σ)
    refine ⟨fun h_9 => ?_, fun h_9 => ?_⟩
    · skip
      refine zq (σ := σ) hV hI rfl 2 ?_
      show K (some (.int (-2))) σ
      refine hBad (fun q => ?_)
      have q3 := q.2
      unfold zBt at q3
      simp only [zlt, zle] at h_9
      simp at h_9
      omega
    · skip
      refine zq (σ := σ) hV hI rfl 3 ?_
      show (c ≤ 10 → V 21 [(0, .ref 0), (1, .int s), (2, .int c)] [] σ) ∧ (¬ c ≤ 10 → V 18 [(0, .ref 0), (1, .int s), (2, .int c)] [] σ)
      refine ⟨fun h_15 => ?_, fun h_15 => ?_⟩
      · skip
        obtain ⟨k, hk, hk2, _⟩ := zNat (x := s) (by unfold zBt at hb1; omega)
        have hk4 : k < 4 := by unfold zBt at hb1; omega
        have hc : zBt 3 10 c := by
          simp only [zlt, zle] at h_9 h_15
          unfold zBt
          simp at h_9 h_15 ⊢
          omega
        obtain ⟨n, hcn, hcn2, _⟩ := zNat (x := c) (by unfold zBt at hc; omega)
        have hn10 : 3 ≤ n ∧ n ≤ 10 := by unfold zBt at hc; omega
        have hs3 := hb1
        subst hk
        subst hcn
        refine zq (σ := σ) hV hI rfl 4 ?_
        show zSp _ _ 30 [.ref 26, .int (nI k)] σ (fun r σ' => σ'.2.2.2 = σ.2.2.2 + zAl 30 → V 29 [(0, .ref 0), (1, .int (nI k)), (2, .int (nI n))] (r.toList ++ []) σ')
        refine isLost_ok (zR_of hI rfl rfl) rfl (by omega) (fun hb2 _ => ?_) (fun hb2 _ => ?_)
        · skip
          refine zq (σ := σ) hV hI rfl 1 ?_
          show ((1 : Int32) = 0 → V 41 [(0, .ref 0), (1, .int (nI k)), (2, .int (nI n))] [] σ) ∧ (¬ (1 : Int32) = 0 → V 32 [(0, .ref 0), (1, .int (nI k)), (2, .int (nI n))] [] σ)
          refine ⟨fun hc => absurd hc (by decide), fun _ => ?_⟩
          refine zq (σ := σ) hV hI rfl 4 ?_
          show zSp _ _ 27 [.ref 26, .int 1] σ (fun r σ' => σ'.2.2.2 = σ.2.2.2 + zAl 27 → V 40 [(0, .ref 0), (1, .int (nI k)), (2, .int (nI n))] (r.toList ++ []) σ')
          refine find_ok (zR_of hI rfl rfl) (fun _ => ?_)
          refine zq (σ := (zuI σ 26 3 1)) hV hI rfl 1 ?_
          show K (some (.int ((-10) - 1))) (zuI σ 26 3 1)
          exact hNull k n rfl hk4 rfl hn10 hb2
        · skip
          refine zq (σ := σ) hV hI rfl 1 ?_
          show ((0 : Int32) = 0 → V 41 [(0, .ref 0), (1, .int (nI k)), (2, .int (nI n))] [] σ) ∧ (¬ (0 : Int32) = 0 → V 32 [(0, .ref 0), (1, .int (nI k)), (2, .int (nI n))] [] σ)
          refine ⟨fun _ => ?_, fun hc => absurd (by decide) hc⟩
          refine zq (σ := σ) hV hI rfl 4 ?_
          show zSp _ _ 29 [.ref 26, .int (nI k)] σ (fun r σ' => σ'.2.2.2 = σ.2.2.2 + zAl 29 → V 49 [(0, .ref 0), (1, .int (nI k)), (2, .int (nI n))] (r.toList ++ []) σ')
          obtain ⟨l, hl, hl60⟩ := hL k hk4
          refine slength_ok (zR_of hI rfl rfl) (k := k) rfl hk4 (fun _ => ?_)
          rw [hl]
          refine zq (σ := σ) hV hI rfl 4 ?_
          show ((2 * (nI n)) ≤ (nI l) → V 64 [(0, .ref 0), (1, .int (nI k)), (2, .int (nI n))] [] σ) ∧ (¬ (2 * (nI n)) ≤ (nI l) → V 55 [(0, .ref 0), (1, .int (nI k)), (2, .int (nI n))] [] σ)
          refine ⟨fun h_52 => ?_, fun h_52 => ?_⟩
          · skip
            refine zq (σ := σ) hV hI rfl 4 ?_
            show zSp _ _ 55 [.ref 0, .int (nI k), .int (nI n)] σ (fun r σ' => σ'.2.2.2 = σ.2.2.2 + zAl 55 → V 70 [(0, .ref 0), (1, .int (nI k)), (2, .int (nI n))] (r.toList ++ []) σ')
            have hll : 2 * n ≤ l := by rw [show (2 : Int32) * nI n = nI (2 * n) from zn_m (a := 2) rfl rfl, nI_leI (by omega) (by omega)] at h_52; exact h_52
            refine isShape_ok hI hk4 hn10.2 (fun hb3 _ => ?_) (fun hb3 _ => ?_)
            · skip
              refine zq (σ := σ) hV hI rfl 1 ?_
              show (¬ (1 : Int32) = 0 → V 76 [(0, .ref 0), (1, .int (nI k)), (2, .int (nI n))] [] σ) ∧ (¬ (¬ (1 : Int32) = 0) → V 73 [(0, .ref 0), (1, .int (nI k)), (2, .int (nI n))] [] σ)
              refine ⟨fun _ => ?_, fun hc => absurd (by decide) hc⟩
              refine zq (σ := σ) hV hI rfl 2 ?_
              show V 78 [(3, .int 0), (0, .ref 0), (1, .int (nI k)), (2, .int (nI n))] [] σ
              refine zwk hV [1, 2, 3, 0] rfl ?_
              have Hi : ∀ (r : Nat) (i : Nat) (τ : zSt), i + r = n → zOnly (zfSh n) σ τ → (∀ j, j < i → τ.1 2 j = σ.1 29 (k * 60 + 2 * j) ∧ τ.1 3 j = σ.1 29 (k * 60 + (2 * j + 1))) → V 78 [(0, .ref 0), (1, .int (nI k)), (2, .int (nI n)), (3, .int (nI i))] [] τ := by
                intro r
                induction r with
                | zero =>
                  intro i τ hir ht hXY
                  have hIτ := zQI_eq hI ht.2.2
                  have hnτ : τ.2.2.2 = σ.2.2.2 := congrArg Prod.snd ht.2.2
                  have eI : ∀ j, τ.1 29 j = σ.1 29 j := fun j => ht.1 29 j rfl
                  refine zq (σ := τ) hV hIτ hnτ 3 ?_
                  show ((nI n) ≤ (nI i) → V 121 [(0, .ref 0), (1, .int (nI k)), (2, .int (nI n)), (3, .int (nI i))] [] τ) ∧ (¬ (nI n) ≤ (nI i) → V 83 [(0, .ref 0), (1, .int (nI k)), (2, .int (nI n)), (3, .int (nI i))] [] τ)
                  refine ⟨fun _ => ?_, fun hc => absurd (show nI n ≤ nI i from zge_self (by omega)) hc⟩
                  refine zq (σ := τ) hV hIτ hnτ 4 ?_
                  show zSp _ _ 15 [.ref 1, .int (nI n)] τ (fun r σ' => σ'.2.2.2 = τ.2.2.2 + zAl 15 → V 129 [(0, .ref 0), (1, .int (nI k)), (2, .int (nI n)), (3, .int (nI i))] (r.toList ++ []) σ')
                  refine close_ok (zR_of hIτ rfl rfl) (n := n) hn10.2 (fun υ hu0 hcn har hmx hmy _ => ?_)
                  have hu : zOnly (zfSh n) σ υ := ht.tr (hu0.wk zfPo_Sh)
                  have hIυ := zQI_eq hI hu.2.2
                  have hnυ : υ.2.2.2 = σ.2.2.2 := congrArg Prod.snd hu.2.2
                  have x2 : υ.1 2 = τ.1 2 := funext fun j => hu0.1 2 j rfl
                  have x3 : υ.1 3 = τ.1 3 := funext fun j => hu0.1 3 j rfl
                  refine zq (σ := υ) hV hIυ hnυ 3 ?_
                  show zSp _ _ 9 [.ref 4] υ (fun r σ' => σ'.2.2.2 = υ.2.2.2 + zAl 9 → V 136 [(0, .ref 0), (1, .int (nI k)), (2, .int (nI n)), (3, .int (nI i))] (r.toList ++ []) σ')
                  refine hclear_4 (zR_of hIυ rfl rfl) (fun _ => ?_)
                  refine zq (σ := (zuI υ 4 2 0)) hV hIυ hnυ 3 ?_
                  show zSp _ _ 38 [.ref 14] (zuI υ 4 2 0) (fun r σ' => σ'.2.2.2 = (zuI υ 4 2 0).2.2.2 + zAl 38 → V 143 [(0, .ref 0), (1, .int (nI k)), (2, .int (nI n)), (3, .int (nI i))] (r.toList ++ []) σ')
                  refine sclear_ok (zR_of hIυ rfl rfl) (fun _ => ?_)
                  refine zq (σ := (zuI (zuI υ 4 2 0) 14 3 0)) hV hIυ hnυ 3 ?_
                  show zSp _ _ 17 [.ref 1] (zuI (zuI υ 4 2 0) 14 3 0) (fun r σ' => σ'.2.2.2 = (zuI (zuI υ 4 2 0) 14 3 0).2.2.2 + zAl 17 → V 150 [(0, .ref 0), (1, .int (nI k)), (2, .int (nI n)), (3, .int (nI i))] (r.toList ++ []) σ')
                  refine area_ok (zR_of hIυ rfl rfl) (fun _ => ?_)
                  show V 150 [(0, .ref 0), (1, .int (nI k)), (2, .int (nI n)), (3, .int (nI i))] [.int (υ.1 1 3)] (zuI (zuI υ 4 2 0) 14 3 0)
                  refine zq (σ := (zuI (zuI υ 4 2 0) 14 3 0)) hV hIυ hnυ 1 ?_
                  show K (some (.int (υ.1 1 3))) (zuI (zuI υ 4 2 0) 14 3 0)
                  obtain rfl : i = n := by omega
                  refine hOk (zuI (zuI υ 4 2 0) 14 3 0) k i l rfl hk4 rfl hn10 hb2 hl hll hb3 ((hu.uI (by simp [zfSh])).uI (by simp [zfSh])) hcn (fun j hj => ?_) ?_ ?_ ?_ rfl rfl
                  · show υ.1 2 j = _ ∧ υ.1 3 j = _
                    rw [x2, x3]; exact hXY j hj
                  · show υ.1 1 3 = zAr i (υ.1 2) (υ.1 3) i
                    rw [x2, x3]; exact har
                  · show υ.1 1 4 = zMx i (υ.1 2) (υ.1 3) i
                    rw [x2, x3]; exact hmx
                  · show υ.1 1 5 = zMy i (υ.1 2) (υ.1 3) i
                    rw [x2, x3]; exact hmy
                | succ r ihi =>
                  intro i τ hir ht hXY
                  have hIτ := zQI_eq hI ht.2.2
                  have hnτ : τ.2.2.2 = σ.2.2.2 := congrArg Prod.snd ht.2.2
                  have hn10i : i < n := by omega
                  have eI : ∀ j, τ.1 29 j = σ.1 29 j := fun j => ht.1 29 j rfl
                  refine zq (σ := τ) hV hIτ hnτ 3 ?_
                  show ((nI n) ≤ (nI i) → V 121 [(0, .ref 0), (1, .int (nI k)), (2, .int (nI n)), (3, .int (nI i))] [] τ) ∧ (¬ (nI n) ≤ (nI i) → V 83 [(0, .ref 0), (1, .int (nI k)), (2, .int (nI n)), (3, .int (nI i))] [] τ)
                  refine ⟨fun hc => absurd hc (show ¬ nI n ≤ nI i from nI_ge (by omega) (by omega)), fun _ => ?_⟩
                  refine zq (σ := τ) hV hIτ hnτ 10 ?_
                  show zSp _ _ 33 [.ref 26, .int (nI k), .int (2 * (nI i))] τ (fun r σ' => σ'.2.2.2 = τ.2.2.2 + zAl 33 → V 99 [(0, .ref 0), (1, .int (nI k)), (2, .int (nI n)), (3, .int (nI i))] (r.toList ++ [.int (nI i), .ref 1]) σ')
                  refine svalue_ok (zR_of hIτ rfl rfl) (k := k) rfl (by omega) (j := (2 * i)) (zn_m (a := 2) (b := i) rfl rfl) (by omega) (fun _ => ?_)
                  refine zq (σ := τ) hV hIτ hnτ 9 ?_
                  show zSp _ _ 33 [.ref 26, .int (nI k), .int ((2 * (nI i)) + 1)] τ (fun r σ' => σ'.2.2.2 = τ.2.2.2 + zAl 33 → V 112 [(0, .ref 0), (1, .int (nI k)), (2, .int (nI n)), (3, .int (nI i))] (r.toList ++ [.int (τ.1 29 (k * 60 + (2 * i))), .int (nI i), .ref 1]) σ')
                  refine svalue_ok (zR_of hIτ rfl rfl) (k := k) rfl (by omega) (j := ((2 * i) + 1)) (zn_a (a := (2 * i)) (b := 1) (zn_m (a := 2) (b := i) rfl rfl) rfl) (by omega) (fun _ => ?_)
                  refine zq (σ := τ) hV hIτ hnτ 1 ?_
                  show zSp _ _ 14 [.ref 1, .int (nI i), .int (τ.1 29 (k * 60 + (2 * i))), .int (τ.1 29 (k * 60 + ((2 * i) + 1)))] τ (fun r σ' => σ'.2.2.2 = τ.2.2.2 + zAl 14 → V 115 [(0, .ref 0), (1, .int (nI k)), (2, .int (nI n)), (3, .int (nI i))] (r.toList ++ []) σ')
                  refine setCorner_ok (zR_of hIτ rfl rfl) (k := i) rfl (by omega) (fun _ => ?_)
                  rw [eI, eI]
                  refine zq (σ := (zuI (zuI τ 2 i (σ.1 29 (k * 60 + (2 * i)))) 3 i (σ.1 29 (k * 60 + ((2 * i) + 1))))) hV hIτ hnτ 2 ?_
                  show V 78 [(3, .int ((nI i) + 1)), (0, .ref 0), (1, .int (nI k)), (2, .int (nI n))] [] (zuI (zuI τ 2 i (σ.1 29 (k * 60 + (2 * i)))) 3 i (σ.1 29 (k * 60 + ((2 * i) + 1))))
                  refine zwk hV [1, 2, 3, 0] rfl ?_
                  rw [nI_1]
                  refine ihi (i + 1) _ (by omega) ((ht.uI (by simp [zfSh, hn10i])).uI (by simp [zfSh, hn10i])) (fun j hj => ?_)
                  simp only [zuI_get]
                  by_cases e : j = i
                  · subst e; simp
                  · have := hXY j (by omega); simp [e, this.1, this.2]
              exact Hi n 0 σ (by omega) zOnly.rf (fun j q => absurd q (Nat.not_lt_zero j))
            · skip
              refine zq (σ := σ) hV hI rfl 1 ?_
              show (¬ (0 : Int32) = 0 → V 76 [(0, .ref 0), (1, .int (nI k)), (2, .int (nI n))] [] σ) ∧ (¬ (¬ (0 : Int32) = 0) → V 73 [(0, .ref 0), (1, .int (nI k)), (2, .int (nI n))] [] σ)
              refine ⟨fun hc => absurd hc (by decide), fun _ => ?_⟩
              refine zq (σ := σ) hV hI rfl 2 ?_
              show K (some (.int (-3))) σ
              exact hNot k n l rfl hk4 rfl hn10 hb2 hl hll hb3
          · skip
            refine zq (σ := σ) hV hI rfl 4 ?_
            show zSp _ _ 27 [.ref 26, .int 2] σ (fun r σ' => σ'.2.2.2 = σ.2.2.2 + zAl 27 → V 63 [(0, .ref 0), (1, .int (nI k)), (2, .int (nI n))] (r.toList ++ []) σ')
            refine find_ok (zR_of hI rfl rfl) (fun _ => ?_)
            refine zq (σ := (zuI σ 26 3 2)) hV hI rfl 1 ?_
            show K (some (.int ((-10) - 2))) (zuI σ 26 3 2)
            have hll : ¬ 2 * n ≤ l := by rw [show (2 : Int32) * nI n = nI (2 * n) from zn_m (a := 2) rfl rfl, nI_leI (by omega) (by omega)] at h_52; exact h_52
            exact hIndex k n l rfl hk4 rfl hn10 hb2 hl (by omega)
      · skip
        refine zq (σ := σ) hV hI rfl 2 ?_
        show K (some (.int (-2))) σ
        refine hBad (fun q => ?_)
        have q3 := q.2
        unfold zBt at q3
        simp only [zlt, zle] at h_9 h_15
        simp at h_9 h_15
        omega
  · skip
    refine zq (σ := σ) hV hI rfl 1 ?_
    show ((0 : Int32) = 0 → V 18 [(0, .ref 0), (1, .int s), (2, .int c)] [] σ) ∧ (¬ (0 : Int32) = 0 → V 7 [(0, .ref 0), (1, .int s), (2, .int c)] [] σ)
    refine ⟨fun _ => ?_, fun hc => absurd (by decide) hc⟩
    refine zq (σ := σ) hV hI rfl 2 ?_
    show K (some (.int (-2))) σ
    exact hBad (fun q => hb1 q.1)
