theorem zpm {x : Int32} {m : Nat} (h : x = nI m) (hm : m < 2 ^ 31) : (Int32.toInt64 (x - 1)).toInt = (m : Int) - 1 := by
  rw [zL, h, zsub (by rw [nI_toInt hm, zT_lits.2.1]; omega), nI_toInt hm, zT_lits.2.1]
set_option maxRecDepth 8000 in
set_option maxHeartbeats 4000000 in
theorem in_M {d : Nat} {σ : zSt} {K : Option Value → zSt → Prop} {v : Int32} {b c : Int64} {lo hi : Int} (eb : b.toInt = lo) (ec : c.toInt = hi) (h1 : zBt lo hi v → K (some (.int 1)) σ) (h0 : ¬ zBt lo hi v → K (some (.int 0)) σ) : zSp (d + 1) mX9_in [.long (Int32.toInt64 v), .long b, .long c] σ K := by
  refine ⟨⟨by decide, Nat.le_of_ble_eq_true rfl⟩, fun V hV => ?_⟩
  refine zq (σ := σ) hV zQI_0 rfl 4 ?_
  show ((lg_cmp (Int32.toInt64 v) b) < 0 → V 17 [(0, .long (Int32.toInt64 v)), (2, .long b), (4, .long c)] [] σ) ∧ (¬ (lg_cmp (Int32.toInt64 v) b) < 0 → V 6 [(0, .long (Int32.toInt64 v)), (2, .long b), (4, .long c)] [] σ)
  refine ⟨fun h_3 => ?_, fun h_3 => ?_⟩
  · skip
    refine zq (σ := σ) hV zQI_0 rfl 2 ?_
    show ((0 : Int32) = 0 ∨ (0 : Int32) = 1) ∧ K (some (.int 0)) σ
    refine ⟨by decide, ?_⟩
    refine h0 (by
      simp only [zcmp_lt, zcmp_gt, zlt64, zL, eb, ec] at h_3
      unfold zBt
      omega)
  · skip
    refine zq (σ := σ) hV zQI_0 rfl 4 ?_
    show (0 < (lg_cmp (Int32.toInt64 v) c) → V 17 [(0, .long (Int32.toInt64 v)), (2, .long b), (4, .long c)] [] σ) ∧ (¬ 0 < (lg_cmp (Int32.toInt64 v) c) → V 13 [(0, .long (Int32.toInt64 v)), (2, .long b), (4, .long c)] [] σ)
    refine ⟨fun h_10 => ?_, fun h_10 => ?_⟩
    · skip
      refine zq (σ := σ) hV zQI_0 rfl 2 ?_
      show ((0 : Int32) = 0 ∨ (0 : Int32) = 1) ∧ K (some (.int 0)) σ
      refine ⟨by decide, ?_⟩
      refine h0 (by
        simp only [zcmp_lt, zcmp_gt, zlt64, zL, eb, ec] at h_3 h_10
        unfold zBt
        omega)
    · skip
      refine zq (σ := σ) hV zQI_0 rfl 3 ?_
      show ((1 : Int32) = 0 ∨ (1 : Int32) = 1) ∧ K (some (.int 1)) σ
      refine ⟨by decide, ?_⟩
      refine h1 (by
        simp only [zcmp_lt, zcmp_gt, zlt64, zL, eb, ec] at h_3 h_10
        unfold zBt
        omega)
set_option maxRecDepth 8000 in
set_option maxHeartbeats 4000000 in
theorem no_M {d : Nat} {σ : zSt} {K : Option Value → zSt → Prop} {c : Int32} (hK : K (some (.long (zRf c))) σ) : zSp (d + 1) mX9_no [.int c] σ K := by
  refine ⟨⟨by decide, Nat.le_of_ble_eq_true rfl⟩, fun V hV => ?_⟩
  refine zq (σ := σ) hV zQI_0 rfl 5 ?_
  show K (some (.long ((-9223372036854775808) - (Int32.toInt64 c)))) σ
  exact hK
set_option maxRecDepth 8000 in
set_option maxHeartbeats 4000000 in
theorem next_M {d : Nat} {σ : zSt} {K : Option Value → zSt → Prop} {n k : Nat} (hI : zQI (kR 30 52) σ.2.2) (hn : σ.1 30 0 = nI n) (hn10 : n ≤ 10) (hk : k < n) (hK : K (some (.int (nI (zNx n k)))) σ) : zSp (d + 1) mX9_next [.ref 30, .int (nI k)] σ K := by
  refine ⟨⟨by decide, Nat.le_of_ble_eq_true rfl⟩, fun V hV => ?_⟩
  refine zq (σ := σ) hV hI rfl 6 ?_
  show (¬ ((nI k) + 1) = (σ.1 30 0) → V 14 [(0, .ref 30), (1, .int (nI k))] [] σ) ∧ (¬ (¬ ((nI k) + 1) = (σ.1 30 0)) → V 10 [(0, .ref 30), (1, .int (nI k))] [] σ)
  refine ⟨fun h_7 => ?_, fun h_7 => ?_⟩
  · skip
    refine zq (σ := σ) hV hI rfl 4 ?_
    show K (some (.int ((nI k) + 1))) σ
    rw [hn, nI_1, nI_eq (by omega) (by omega)] at h_7
    have e : zNx n k = k + 1 := by unfold zNx; rw [if_pos (by omega)]
    rw [e] at hK
    rw [nI_1]
    exact hK
  · skip
    have h_7 := Classical.not_not.mp h_7
    refine zq (σ := σ) hV hI rfl 3 ?_
    show K (some (.int 0)) σ
    rw [hn, nI_1, nI_eq (by omega) (by omega)] at h_7
    have e : zNx n k = 0 := by unfold zNx; rw [if_neg (by omega)]
    rw [e] at hK
    exact hK
set_option maxRecDepth 8000 in
set_option maxHeartbeats 4000000 in
theorem cross_M {d : Nat} {σ : zSt} {K : Option Value → zSt → Prop} {n k : Nat} (hI : zQI (kR 30 52) σ.2.2) (hn : σ.1 30 0 = nI n) (hn10 : n ≤ 10) (hk : k < n) (hK : K (some (.int (zTu n (σ.1 31) (σ.1 32) k))) σ) : zSp (d + 2) mX9_cross [.ref 30, .int (nI k)] σ K := by
  refine ⟨⟨by decide, Nat.le_of_ble_eq_true rfl⟩, fun V hV => ?_⟩
  have hkx := zNx_lt hk
  refine zq (σ := σ) hV hI rfl 4 ?_
  show vp_in (nI k) 10 ∧ V 6 [(0, .ref 30), (1, .int (nI k))] [.int (σ.1 31 (Int32.toNatClampNeg (nI k)))] σ
  refine ⟨zix (k := k) rfl (by omega) (by decide), ?_⟩
  rw [zcl_k (i := (nI k)) (k := k) rfl (by omega)]
  refine zq (σ := σ) hV hI rfl 5 ?_
  show zSp _ 133 [.ref 30, .int (nI k)] σ (fun r σ' => σ'.2.2.2 = σ.2.2.2 + zAl 133 → V 15 [(0, .ref 30), (1, .int (nI k))] (r.toList ++ [.ref 32, .int (σ.1 31 k)]) σ')
  refine next_M hI hn hn10 (k := k) (by omega) (fun _ => ?_)
  refine zq (σ := σ) hV hI rfl 1 ?_
  show vp_in (nI (zNx n k)) 10 ∧ V 16 [(0, .ref 30), (1, .int (nI k))] [.int (σ.1 32 (Int32.toNatClampNeg (nI (zNx n k)))), .int (σ.1 31 k)] σ
  refine ⟨zix (k := (zNx n k)) rfl (by omega) (by decide), ?_⟩
  rw [zcl_k (i := (nI (zNx n k))) (k := (zNx n k)) rfl (by omega)]
  refine zq (σ := σ) hV hI rfl 6 ?_
  show zSp _ 133 [.ref 30, .int (nI k)] σ (fun r σ' => σ'.2.2.2 = σ.2.2.2 + zAl 133 → V 26 [(0, .ref 30), (1, .int (nI k))] (r.toList ++ [.ref 31, .int ((σ.1 31 k) * (σ.1 32 (zNx n k)))]) σ')
  refine next_M hI hn hn10 (k := k) (by omega) (fun _ => ?_)
  refine zq (σ := σ) hV hI rfl 1 ?_
  show vp_in (nI (zNx n k)) 10 ∧ V 27 [(0, .ref 30), (1, .int (nI k))] [.int (σ.1 31 (Int32.toNatClampNeg (nI (zNx n k)))), .int ((σ.1 31 k) * (σ.1 32 (zNx n k)))] σ
  refine ⟨zix (k := (zNx n k)) rfl (by omega) (by decide), ?_⟩
  rw [zcl_k (i := (nI (zNx n k))) (k := (zNx n k)) rfl (by omega)]
  refine zq (σ := σ) hV hI rfl 4 ?_
  show vp_in (nI k) 10 ∧ V 33 [(0, .ref 30), (1, .int (nI k))] [.int (σ.1 32 (Int32.toNatClampNeg (nI k))), .int (σ.1 31 (zNx n k)), .int ((σ.1 31 k) * (σ.1 32 (zNx n k)))] σ
  refine ⟨zix (k := k) rfl (by omega) (by decide), ?_⟩
  rw [zcl_k (i := (nI k)) (k := k) rfl (by omega)]
  refine zq (σ := σ) hV hI rfl 3 ?_
  show K (some (.int (((σ.1 31 k) * (σ.1 32 (zNx n k))) - ((σ.1 31 (zNx n k)) * (σ.1 32 k))))) σ
  unfold zTu at hK
  rw [Int32.mul_comm (σ.1 31 (zNx n k)) (σ.1 32 k)]
  exact hK
set_option maxRecDepth 8000 in
set_option maxHeartbeats 4000000 in
theorem area_M {d : Nat} {σ : zSt} {K : Option Value → zSt → Prop} {n : Nat} (hI : zQI (kR 30 52) σ.2.2) (hn : σ.1 30 0 = nI n) (hn10 : n ≤ 10) (hK : K (some (.int (zAr n (σ.1 31) (σ.1 32) n))) σ) : zSp (d + 3) mX9_area [.ref 30] σ K := by
  refine ⟨⟨by decide, Nat.le_of_ble_eq_true rfl⟩, fun V hV => ?_⟩
  refine zq (σ := σ) hV hI rfl 4 ?_
  show V 4 [(2, .int 0), (1, .int 0), (0, .ref 30)] [] σ
  refine zwk hV [2, 1, 0] rfl ?_
  have Hi : ∀ (r : Nat) (i : Nat) (a : Int32), i + r = n → a = zAr n (σ.1 31) (σ.1 32) i → V 4 [(0, .ref 30), (1, .int a), (2, .int (nI i))] [] σ := by
    intro r
    induction r with
    | zero =>
      intro i a hir ha
      refine zq (σ := σ) hV hI rfl 4 ?_
      show ((σ.1 30 0) ≤ (nI i) → V 26 [(0, .ref 30), (1, .int a), (2, .int (nI i))] [] σ) ∧ (¬ (σ.1 30 0) ≤ (nI i) → V 12 [(0, .ref 30), (1, .int a), (2, .int (nI i))] [] σ)
      refine ⟨fun _ => ?_, fun hc => absurd (show (σ.1 30 0) ≤ nI i by rw [hn]; exact zge_self (by omega)) hc⟩
      refine zq (σ := σ) hV hI rfl 2 ?_
      show K (some (.int a)) σ
      obtain rfl : i = n := by omega
      rw [ha]
      exact hK
    | succ r ihi =>
      intro i a hir ha
      have hin : i < n := by omega
      have hix := zNx_lt hin
      refine zq (σ := σ) hV hI rfl 4 ?_
      show ((σ.1 30 0) ≤ (nI i) → V 26 [(0, .ref 30), (1, .int a), (2, .int (nI i))] [] σ) ∧ (¬ (σ.1 30 0) ≤ (nI i) → V 12 [(0, .ref 30), (1, .int a), (2, .int (nI i))] [] σ)
      refine ⟨fun hc => absurd hc (show ¬ (σ.1 30 0) ≤ nI i by rw [hn]; exact nI_ge (by omega) (by omega)), fun _ => ?_⟩
      refine zq (σ := σ) hV hI rfl 4 ?_
      show zSp _ 134 [.ref 30, .int (nI i)] σ (fun r σ' => σ'.2.2.2 = σ.2.2.2 + zAl 134 → V 18 [(0, .ref 30), (1, .int a), (2, .int (nI i))] (r.toList ++ [.int a]) σ')
      refine cross_M hI hn hn10 (k := i) (by omega) (fun _ => ?_)
      refine zq (σ := σ) hV hI rfl 4 ?_
      show V 4 [(2, .int ((nI i) + 1)), (1, .int (a + (zTu n (σ.1 31) (σ.1 32) i))), (0, .ref 30)] [] σ
      refine zwk hV [2, 1, 0] rfl ?_
      rw [nI_1]
      exact ihi (i + 1) _ (by omega) (by rw [ha]; rfl)
  exact Hi n 0 0 (by omega) rfl
set_option maxRecDepth 8000 in
set_option maxHeartbeats 4000000 in
theorem middleX_M {d : Nat} {σ : zSt} {K : Option Value → zSt → Prop} {n : Nat} (hI : zQI (kR 30 52) σ.2.2) (hn : σ.1 30 0 = nI n) (hn10 : n ≤ 10) (hK : K (some (.int (zMx n (σ.1 31) (σ.1 32) n))) σ) : zSp (d + 3) mX9_middleX [.ref 30] σ K := by
  refine ⟨⟨by decide, Nat.le_of_ble_eq_true rfl⟩, fun V hV => ?_⟩
  refine zq (σ := σ) hV hI rfl 4 ?_
  show V 4 [(2, .int 0), (1, .int 0), (0, .ref 30)] [] σ
  refine zwk hV [2, 1, 0] rfl ?_
  have Hi : ∀ (r : Nat) (i : Nat) (a : Int32), i + r = n → a = zMx n (σ.1 31) (σ.1 32) i → V 4 [(0, .ref 30), (1, .int a), (2, .int (nI i))] [] σ := by
    intro r
    induction r with
    | zero =>
      intro i a hir ha
      refine zq (σ := σ) hV hI rfl 4 ?_
      show ((σ.1 30 0) ≤ (nI i) → V 44 [(0, .ref 30), (1, .int a), (2, .int (nI i))] [] σ) ∧ (¬ (σ.1 30 0) ≤ (nI i) → V 12 [(0, .ref 30), (1, .int a), (2, .int (nI i))] [] σ)
      refine ⟨fun _ => ?_, fun hc => absurd (show (σ.1 30 0) ≤ nI i by rw [hn]; exact zge_self (by omega)) hc⟩
      refine zq (σ := σ) hV hI rfl 2 ?_
      show K (some (.int a)) σ
      obtain rfl : i = n := by omega
      rw [ha]
      exact hK
    | succ r ihi =>
      intro i a hir ha
      have hin : i < n := by omega
      have hix := zNx_lt hin
      refine zq (σ := σ) hV hI rfl 4 ?_
      show ((σ.1 30 0) ≤ (nI i) → V 44 [(0, .ref 30), (1, .int a), (2, .int (nI i))] [] σ) ∧ (¬ (σ.1 30 0) ≤ (nI i) → V 12 [(0, .ref 30), (1, .int a), (2, .int (nI i))] [] σ)
      refine ⟨fun hc => absurd hc (show ¬ (σ.1 30 0) ≤ nI i by rw [hn]; exact nI_ge (by omega) (by omega)), fun _ => ?_⟩
      refine zq (σ := σ) hV hI rfl 5 ?_
      show vp_in (nI i) 10 ∧ V 19 [(0, .ref 30), (1, .int a), (2, .int (nI i))] [.int (σ.1 31 (Int32.toNatClampNeg (nI i))), .int a] σ
      refine ⟨zix (k := i) rfl (by omega) (by decide), ?_⟩
      rw [zcl_k (i := (nI i)) (k := i) rfl (by omega)]
      refine zq (σ := σ) hV hI rfl 5 ?_
      show zSp _ 133 [.ref 30, .int (nI i)] σ (fun r σ' => σ'.2.2.2 = σ.2.2.2 + zAl 133 → V 28 [(0, .ref 30), (1, .int a), (2, .int (nI i))] (r.toList ++ [.ref 31, .int (σ.1 31 i), .int a]) σ')
      refine next_M hI hn hn10 (k := i) (by omega) (fun _ => ?_)
      refine zq (σ := σ) hV hI rfl 1 ?_
      show vp_in (nI (zNx n i)) 10 ∧ V 29 [(0, .ref 30), (1, .int a), (2, .int (nI i))] [.int (σ.1 31 (Int32.toNatClampNeg (nI (zNx n i)))), .int (σ.1 31 i), .int a] σ
      refine ⟨zix (k := (zNx n i)) rfl (by omega) (by decide), ?_⟩
      rw [zcl_k (i := (nI (zNx n i))) (k := (zNx n i)) rfl (by omega)]
      refine zq (σ := σ) hV hI rfl 4 ?_
      show zSp _ 134 [.ref 30, .int (nI i)] σ (fun r σ' => σ'.2.2.2 = σ.2.2.2 + zAl 134 → V 35 [(0, .ref 30), (1, .int a), (2, .int (nI i))] (r.toList ++ [.int ((σ.1 31 i) + (σ.1 31 (zNx n i))), .int a]) σ')
      refine cross_M hI hn hn10 (k := i) (by omega) (fun _ => ?_)
      refine zq (σ := σ) hV hI rfl 5 ?_
      show V 4 [(2, .int ((nI i) + 1)), (1, .int (a + (((σ.1 31 i) + (σ.1 31 (zNx n i))) * (zTu n (σ.1 31) (σ.1 32) i)))), (0, .ref 30)] [] σ
      refine zwk hV [2, 1, 0] rfl ?_
      rw [nI_1]
      exact ihi (i + 1) _ (by omega) (by rw [ha]; rfl)
  exact Hi n 0 0 (by omega) rfl
set_option maxRecDepth 8000 in
set_option maxHeartbeats 4000000 in
theorem middleY_M {d : Nat} {σ : zSt} {K : Option Value → zSt → Prop} {n : Nat} (hI : zQI (kR 30 52) σ.2.2) (hn : σ.1 30 0 = nI n) (hn10 : n ≤ 10) (hK : K (some (.int (zMy n (σ.1 31) (σ.1 32) n))) σ) : zSp (d + 3) mX9_middleY [.ref 30] σ K := by
  refine ⟨⟨by decide, Nat.le_of_ble_eq_true rfl⟩, fun V hV => ?_⟩
  refine zq (σ := σ) hV hI rfl 4 ?_
  show V 4 [(2, .int 0), (1, .int 0), (0, .ref 30)] [] σ
  refine zwk hV [2, 1, 0] rfl ?_
  have Hi : ∀ (r : Nat) (i : Nat) (a : Int32), i + r = n → a = zMy n (σ.1 31) (σ.1 32) i → V 4 [(0, .ref 30), (1, .int a), (2, .int (nI i))] [] σ := by
    intro r
    induction r with
    | zero =>
      intro i a hir ha
      refine zq (σ := σ) hV hI rfl 4 ?_
      show ((σ.1 30 0) ≤ (nI i) → V 44 [(0, .ref 30), (1, .int a), (2, .int (nI i))] [] σ) ∧ (¬ (σ.1 30 0) ≤ (nI i) → V 12 [(0, .ref 30), (1, .int a), (2, .int (nI i))] [] σ)
      refine ⟨fun _ => ?_, fun hc => absurd (show (σ.1 30 0) ≤ nI i by rw [hn]; exact zge_self (by omega)) hc⟩
      refine zq (σ := σ) hV hI rfl 2 ?_
      show K (some (.int a)) σ
      obtain rfl : i = n := by omega
      rw [ha]
      exact hK
    | succ r ihi =>
      intro i a hir ha
      have hin : i < n := by omega
      have hix := zNx_lt hin
      refine zq (σ := σ) hV hI rfl 4 ?_
      show ((σ.1 30 0) ≤ (nI i) → V 44 [(0, .ref 30), (1, .int a), (2, .int (nI i))] [] σ) ∧ (¬ (σ.1 30 0) ≤ (nI i) → V 12 [(0, .ref 30), (1, .int a), (2, .int (nI i))] [] σ)
      refine ⟨fun hc => absurd hc (show ¬ (σ.1 30 0) ≤ nI i by rw [hn]; exact nI_ge (by omega) (by omega)), fun _ => ?_⟩
      refine zq (σ := σ) hV hI rfl 5 ?_
      show vp_in (nI i) 10 ∧ V 19 [(0, .ref 30), (1, .int a), (2, .int (nI i))] [.int (σ.1 32 (Int32.toNatClampNeg (nI i))), .int a] σ
      refine ⟨zix (k := i) rfl (by omega) (by decide), ?_⟩
      rw [zcl_k (i := (nI i)) (k := i) rfl (by omega)]
      refine zq (σ := σ) hV hI rfl 5 ?_
      show zSp _ 133 [.ref 30, .int (nI i)] σ (fun r σ' => σ'.2.2.2 = σ.2.2.2 + zAl 133 → V 28 [(0, .ref 30), (1, .int a), (2, .int (nI i))] (r.toList ++ [.ref 32, .int (σ.1 32 i), .int a]) σ')
      refine next_M hI hn hn10 (k := i) (by omega) (fun _ => ?_)
      refine zq (σ := σ) hV hI rfl 1 ?_
      show vp_in (nI (zNx n i)) 10 ∧ V 29 [(0, .ref 30), (1, .int a), (2, .int (nI i))] [.int (σ.1 32 (Int32.toNatClampNeg (nI (zNx n i)))), .int (σ.1 32 i), .int a] σ
      refine ⟨zix (k := (zNx n i)) rfl (by omega) (by decide), ?_⟩
      rw [zcl_k (i := (nI (zNx n i))) (k := (zNx n i)) rfl (by omega)]
      refine zq (σ := σ) hV hI rfl 4 ?_
      show zSp _ 134 [.ref 30, .int (nI i)] σ (fun r σ' => σ'.2.2.2 = σ.2.2.2 + zAl 134 → V 35 [(0, .ref 30), (1, .int a), (2, .int (nI i))] (r.toList ++ [.int ((σ.1 32 i) + (σ.1 32 (zNx n i))), .int a]) σ')
      refine cross_M hI hn hn10 (k := i) (by omega) (fun _ => ?_)
      refine zq (σ := σ) hV hI rfl 5 ?_
      show V 4 [(2, .int ((nI i) + 1)), (1, .int (a + (((σ.1 32 i) + (σ.1 32 (zNx n i))) * (zTu n (σ.1 31) (σ.1 32) i)))), (0, .ref 30)] [] σ
      refine zwk hV [2, 1, 0] rfl ?_
      rw [nI_1]
      exact ihi (i + 1) _ (by omega) (by rw [ha]; rfl)
  exact Hi n 0 0 (by omega) rfl
theorem zPB {x y A B : Int} (hx : -A ≤ x ∧ x ≤ A) (hy : -B ≤ y ∧ y ≤ B) : -(A * B) ≤ x * y ∧ x * y ≤ A * B := by
  have h1 := Int.mul_nonneg (show 0 ≤ A - x by omega) (show 0 ≤ B + y by omega)
  have h2 := Int.mul_nonneg (show 0 ≤ A + x by omega) (show 0 ≤ B - y by omega)
  have h3 := Int.mul_nonneg (show 0 ≤ A - x by omega) (show 0 ≤ B - y by omega)
  have h4 := Int.mul_nonneg (show 0 ≤ A + x by omega) (show 0 ≤ B + y by omega)
  simp only [Int.sub_mul, Int.mul_add, Int.add_mul, Int.mul_sub] at h1 h2 h3 h4
  omega
theorem zOnI {a b c d : Int} (h : a * d - b * c = 0) : (a * c + b * d ≤ 0) ↔ (a * c ≤ 0 ∧ b * d ≤ 0) := by
  constructor
  · intro hs
    have e : (a * c) * (b * d) = (a * d) * (a * d) := by
      have e1 : (a * c) * (b * d) = (a * d) * (b * c) := by ac_rfl
      rw [e1, show b * c = a * d by omega]
    have hp : 0 ≤ (a * d) * (a * d) := by
      rcases Int.le_total 0 (a * d) with q | q
      · exact Int.mul_nonneg q q
      · exact Int.mul_nonneg_of_nonpos_of_nonpos q q
    rw [← e] at hp
    refine ⟨?_, ?_⟩
    · refine Int.not_lt.mp (fun q => ?_)
      have := Int.mul_neg_of_pos_of_neg q (show b * d < 0 by omega)
      omega
    · refine Int.not_lt.mp (fun q => ?_)
      have := Int.mul_neg_of_neg_of_pos (show a * c < 0 by omega) q
      omega
  · rintro ⟨h1, h2⟩; omega
theorem zmulB {x y : Int32} {A B : Int} (hx : zBt (-A) A x) (hy : zBt (-B) B y) (h : A * B ≤ 2147483647) : (x * y).toInt = x.toInt * y.toInt ∧ -(A * B) ≤ x.toInt * y.toInt ∧ x.toInt * y.toInt ≤ A * B := by
  have hb := zPB hx hy
  exact ⟨zmul ⟨by omega, by omega⟩, hb⟩
theorem zfx_b {X : Nat → Int32} {px : Int32} {i : Nat} (h : zBt (-30) 30 (X i)) (hp : zBt (-1000) 1000 px) : zBt (-1240) 1240 (zfx X px i) := by
  unfold zBt at *
  have e1 : (8 * X i).toInt = 8 * (X i).toInt := by rw [zmul (by rw [zT_lits.2.2.2.2.1]; omega), zT_lits.2.2.2.2.1]
  unfold zfx
  rw [zsub (by rw [e1]; omega), e1]
  omega
theorem zOn_M {ax ay bx cy t : Int32} (h1 : zBt (-1240) 1240 ax) (h2 : zBt (-1240) 1240 ay) (h3 : zBt (-1240) 1240 bx) (h4 : zBt (-1240) 1240 cy) (ht : t = ax * cy - ay * bx) : zOn ax ay bx cy t = decide (t = 0 ∧ ax * bx + ay * cy ≤ 0) := by
  unfold zOn
  refine decide_eq_decide.mpr ?_
  obtain ⟨e1, b1⟩ := zmulB (A := 1240) (B := 1240) h1 h4 (by decide)
  obtain ⟨e2, b2⟩ := zmulB (A := 1240) (B := 1240) h2 h3 (by decide)
  obtain ⟨e3, b3⟩ := zmulB (A := 1240) (B := 1240) h1 h3 (by decide)
  obtain ⟨e4, b4⟩ := zmulB (A := 1240) (B := 1240) h2 h4 (by decide)
  have et : t.toInt = ax.toInt * cy.toInt - ay.toInt * bx.toInt := by rw [ht, zsub (by rw [e1, e2]; omega), e1, e2]
  have es : (ax * bx + ay * cy).toInt = ax.toInt * bx.toInt + ay.toInt * cy.toInt := by rw [zadd (by rw [e3, e4]; omega), e3, e4]
  rw [zeq, zle, zle, zle, et, es, e3, e4, zT_lits.1]
  constructor
  · rintro ⟨q, q1, q2⟩; exact ⟨q, (zOnI q).mpr ⟨q1, q2⟩⟩
  · rintro ⟨q, q1⟩; exact ⟨q, (zOnI q).mp q1⟩
theorem zbx1 (o : Bool) : zb o ^^^ 1 = zb (!o) := by cases o <;> decide
theorem zbx0 (o : Bool) : zb o ^^^ 0 = zb o := by cases o <;> decide
set_option maxRecDepth 8000 in
set_option maxHeartbeats 4000000 in
theorem place_M {d : Nat} {σ : zSt} {K : Option Value → zSt → Prop} {x y : Int32} {n : Nat} (hI : zQI (kR 30 52) σ.2.2) (hn : σ.1 30 0 = nI n) (hn10 : n ≤ 10) (hB : ∀ j, j < n → zBt (-30) 30 (σ.1 31 j) ∧ zBt (-30) 30 (σ.1 32 j)) (hx : zBt (-1000) 1000 x) (hy : zBt (-1000) 1000 y) (hK : K (some (.int (zSide n (σ.1 31) (σ.1 32) x y))) σ) : zSp (d + 2) mX9_place [.ref 30, .int x, .int y] σ K := by
  refine ⟨⟨by decide, Nat.le_of_ble_eq_true rfl⟩, fun V hV => ?_⟩
  refine zq (σ := σ) hV hI rfl 4 ?_
  show V 5 [(4, .int 0), (3, .int 0), (0, .ref 30), (1, .int x), (2, .int y)] [] σ
  refine zwk hV [2, 3, 4, 1, 0] rfl ?_
  have Hi : ∀ (r : Nat) (i : Nat) (o : Bool), i + r = n → K (some (.int (zSd n (σ.1 31) (σ.1 32) x y r i o))) σ → V 5 [(0, .ref 30), (1, .int x), (2, .int y), (3, .int (zb o)), (4, .int (nI i))] [] σ := by
    intro r
    induction r with
    | zero =>
      intro i o hir hK
      refine zq (σ := σ) hV hI rfl 4 ?_
      show ((σ.1 30 0) ≤ (nI i) → V 174 [(0, .ref 30), (1, .int x), (2, .int y), (3, .int (zb o)), (4, .int (nI i))] [] σ) ∧ (¬ (σ.1 30 0) ≤ (nI i) → V 14 [(0, .ref 30), (1, .int x), (2, .int y), (3, .int (zb o)), (4, .int (nI i))] [] σ)
      refine ⟨fun _ => ?_, fun hc => absurd (show (σ.1 30 0) ≤ nI i by rw [hn]; exact zge_self (by omega)) hc⟩
      refine zq (σ := σ) hV hI rfl 2 ?_
      show ((zb o) = 0 → V 182 [(0, .ref 30), (1, .int x), (2, .int y), (3, .int (zb o)), (4, .int (nI i))] [] σ) ∧ (¬ (zb o) = 0 → V 178 [(0, .ref 30), (1, .int x), (2, .int y), (3, .int (zb o)), (4, .int (nI i))] [] σ)
      refine ⟨fun h_175 => ?_, fun h_175 => ?_⟩
      · skip
        refine zq (σ := σ) hV hI rfl 2 ?_
        show K (some (.int 0)) σ
        cases o
        · exact hK
        · exact absurd h_175 (by decide)
      · skip
        refine zq (σ := σ) hV hI rfl 3 ?_
        show K (some (.int 1)) σ
        cases o
        · exact absurd rfl h_175
        · exact hK
    | succ r ihi =>
      intro i o hir hK
      have hin : i < n := by omega
      have hix := zNx_lt hin
      refine zq (σ := σ) hV hI rfl 4 ?_
      show ((σ.1 30 0) ≤ (nI i) → V 174 [(0, .ref 30), (1, .int x), (2, .int y), (3, .int (zb o)), (4, .int (nI i))] [] σ) ∧ (¬ (σ.1 30 0) ≤ (nI i) → V 14 [(0, .ref 30), (1, .int x), (2, .int y), (3, .int (zb o)), (4, .int (nI i))] [] σ)
      refine ⟨fun hc => absurd hc (show ¬ (σ.1 30 0) ≤ nI i by rw [hn]; exact nI_ge (by omega) (by omega)), fun _ => ?_⟩
      refine zq (σ := σ) hV hI rfl 3 ?_
      show zSp _ 133 [.ref 30, .int (nI i)] σ (fun r σ' => σ'.2.2.2 = σ.2.2.2 + zAl 133 → V 20 [(0, .ref 30), (1, .int x), (2, .int y), (3, .int (zb o)), (4, .int (nI i))] (r.toList ++ []) σ')
      refine next_M hI hn hn10 (k := i) (by omega) (fun _ => ?_)
      refine zq (σ := σ) hV hI rfl 6 ?_
      show vp_in (nI i) 10 ∧ V 31 [(5, .int (nI (zNx n i))), (0, .ref 30), (1, .int x), (2, .int y), (3, .int (zb o)), (4, .int (nI i))] [.int (σ.1 31 (Int32.toNatClampNeg (nI i))), .int 8] σ
      refine ⟨zix (k := i) rfl (by omega) (by decide), ?_⟩
      rw [zcl_k (i := (nI i)) (k := i) rfl (by omega)]
      refine zq (σ := σ) hV hI rfl 9 ?_
      show vp_in (nI i) 10 ∧ V 45 [(6, .int ((8 * (σ.1 31 i)) - x)), (5, .int (nI (zNx n i))), (0, .ref 30), (1, .int x), (2, .int y), (3, .int (zb o)), (4, .int (nI i))] [.int (σ.1 32 (Int32.toNatClampNeg (nI i))), .int 8] σ
      refine ⟨zix (k := i) rfl (by omega) (by decide), ?_⟩
      rw [zcl_k (i := (nI i)) (k := i) rfl (by omega)]
      refine zq (σ := σ) hV hI rfl 9 ?_
      show vp_in (nI (zNx n i)) 10 ∧ V 59 [(7, .int ((8 * (σ.1 32 i)) - y)), (6, .int ((8 * (σ.1 31 i)) - x)), (5, .int (nI (zNx n i))), (0, .ref 30), (1, .int x), (2, .int y), (3, .int (zb o)), (4, .int (nI i))] [.int (σ.1 31 (Int32.toNatClampNeg (nI (zNx n i)))), .int 8] σ
      refine ⟨zix (k := (zNx n i)) rfl (by omega) (by decide), ?_⟩
      rw [zcl_k (i := (nI (zNx n i))) (k := (zNx n i)) rfl (by omega)]
      refine zq (σ := σ) hV hI rfl 9 ?_
      show vp_in (nI (zNx n i)) 10 ∧ V 73 [(8, .int ((8 * (σ.1 31 (zNx n i))) - x)), (7, .int ((8 * (σ.1 32 i)) - y)), (6, .int ((8 * (σ.1 31 i)) - x)), (5, .int (nI (zNx n i))), (0, .ref 30), (1, .int x), (2, .int y), (3, .int (zb o)), (4, .int (nI i))] [.int (σ.1 32 (Int32.toNatClampNeg (nI (zNx n i)))), .int 8] σ
      refine ⟨zix (k := (zNx n i)) rfl (by omega) (by decide), ?_⟩
      rw [zcl_k (i := (nI (zNx n i))) (k := (zNx n i)) rfl (by omega)]
      refine zq (σ := σ) hV hI rfl 12 ?_
      show V 91 [(10, .int ((((8 * (σ.1 31 i)) - x) * ((8 * (σ.1 32 (zNx n i))) - y)) - (((8 * (σ.1 31 (zNx n i))) - x) * ((8 * (σ.1 32 i)) - y)))), (9, .int ((8 * (σ.1 32 (zNx n i))) - y)), (8, .int ((8 * (σ.1 31 (zNx n i))) - x)), (7, .int ((8 * (σ.1 32 i)) - y)), (6, .int ((8 * (σ.1 31 i)) - x)), (5, .int (nI (zNx n i))), (0, .ref 30), (1, .int x), (2, .int y), (3, .int (zb o)), (4, .int (nI i))] [] σ
      rw [Int32.mul_comm ((8 * (σ.1 31 (zNx n i))) - x) ((8 * (σ.1 32 i)) - y)]
      refine zwk hV [6, 7, 8, 9, 10, 4, 3, 2, 1, 0] rfl ?_
      show V 91 [(0, .ref 30), (1, .int x), (2, .int y), (3, .int (zb o)), (4, .int (nI i)), (6, .int (zfx (σ.1 31) x i)), (7, .int (zfx (σ.1 32) y i)), (8, .int (zfx (σ.1 31) x (zNx n i))), (9, .int (zfx (σ.1 32) y (zNx n i))), (10, .int (zTn (σ.1 31) (σ.1 32) x y i (zNx n i)))] [] σ
      have b1 := zfx_b (hB i hin).1 hx
      have b2 := zfx_b (hB i hin).2 hy
      have b3 := zfx_b (hB _ hix).1 hx
      have b4 := zfx_b (hB _ hix).2 hy
      have hm : zOn (zfx (σ.1 31) x i) (zfx (σ.1 32) y i) (zfx (σ.1 31) x (zNx n i)) (zfx (σ.1 32) y (zNx n i)) (zTn (σ.1 31) (σ.1 32) x y i (zNx n i)) = decide ((zTn (σ.1 31) (σ.1 32) x y i (zNx n i)) = 0 ∧ (zfx (σ.1 31) x i) * (zfx (σ.1 31) x (zNx n i)) + (zfx (σ.1 32) y i) * (zfx (σ.1 32) y (zNx n i)) ≤ 0) := zOn_M b1 b2 b3 b4 rfl
      refine zq (σ := σ) hV hI rfl 2 ?_
      show (¬ (zTn (σ.1 31) (σ.1 32) x y i (zNx n i)) = 0 → V 112 [(0, .ref 30), (1, .int x), (2, .int y), (3, .int (zb o)), (4, .int (nI i)), (6, .int (zfx (σ.1 31) x i)), (7, .int (zfx (σ.1 32) y i)), (8, .int (zfx (σ.1 31) x (zNx n i))), (9, .int (zfx (σ.1 32) y (zNx n i))), (10, .int (zTn (σ.1 31) (σ.1 32) x y i (zNx n i)))] [] σ) ∧ (¬ (¬ (zTn (σ.1 31) (σ.1 32) x y i (zNx n i)) = 0) → V 96 [(0, .ref 30), (1, .int x), (2, .int y), (3, .int (zb o)), (4, .int (nI i)), (6, .int (zfx (σ.1 31) x i)), (7, .int (zfx (σ.1 32) y i)), (8, .int (zfx (σ.1 31) x (zNx n i))), (9, .int (zfx (σ.1 32) y (zNx n i))), (10, .int (zTn (σ.1 31) (σ.1 32) x y i (zNx n i)))] [] σ)
      refine ⟨fun h_93 => ?_, fun h_93 => ?_⟩
      · skip
        have hon : zOn (zfx (σ.1 31) x i) (zfx (σ.1 32) y i) (zfx (σ.1 31) x (zNx n i)) (zfx (σ.1 32) y (zNx n i)) (zTn (σ.1 31) (σ.1 32) x y i (zNx n i)) = false := by
          rw [hm]
          exact decide_eq_false (fun q => h_93 q.1)
        rw [zSd, hon] at hK
        replace hK : K (some (.int (zSd n (σ.1 31) (σ.1 32) x y r (i + 1) (match zCr (zfx (σ.1 32) y i) (zfx (σ.1 32) y (zNx n i)) (zTn (σ.1 31) (σ.1 32) x y i (zNx n i)) with | true => !o | false => o)))) σ := hK
        refine zq (σ := σ) hV hI rfl 2 ?_
        show ((zfx (σ.1 32) y i) ≤ 0 → V 121 [(0, .ref 30), (1, .int x), (2, .int y), (3, .int (zb o)), (4, .int (nI i)), (6, .int (zfx (σ.1 31) x i)), (7, .int (zfx (σ.1 32) y i)), (8, .int (zfx (σ.1 31) x (zNx n i))), (9, .int (zfx (σ.1 32) y (zNx n i))), (10, .int (zTn (σ.1 31) (σ.1 32) x y i (zNx n i)))] [] σ) ∧ (¬ (zfx (σ.1 32) y i) ≤ 0 → V 117 [(0, .ref 30), (1, .int x), (2, .int y), (3, .int (zb o)), (4, .int (nI i)), (6, .int (zfx (σ.1 31) x i)), (7, .int (zfx (σ.1 32) y i)), (8, .int (zfx (σ.1 31) x (zNx n i))), (9, .int (zfx (σ.1 32) y (zNx n i))), (10, .int (zTn (σ.1 31) (σ.1 32) x y i (zNx n i)))] [] σ)
        refine ⟨fun h_114 => ?_, fun h_114 => ?_⟩
        · skip
          refine zq (σ := σ) hV hI rfl 3 ?_
          show ((zfx (σ.1 32) y (zNx n i)) ≤ 0 → V 131 [(0, .ref 30), (1, .int x), (2, .int y), (3, .int (zb o)), (4, .int (nI i)), (6, .int (zfx (σ.1 31) x i)), (7, .int (zfx (σ.1 32) y i)), (8, .int (zfx (σ.1 31) x (zNx n i))), (9, .int (zfx (σ.1 32) y (zNx n i))), (10, .int (zTn (σ.1 31) (σ.1 32) x y i (zNx n i)))] [.int 0] σ) ∧ (¬ (zfx (σ.1 32) y (zNx n i)) ≤ 0 → V 127 [(0, .ref 30), (1, .int x), (2, .int y), (3, .int (zb o)), (4, .int (nI i)), (6, .int (zfx (σ.1 31) x i)), (7, .int (zfx (σ.1 32) y i)), (8, .int (zfx (σ.1 31) x (zNx n i))), (9, .int (zfx (σ.1 32) y (zNx n i))), (10, .int (zTn (σ.1 31) (σ.1 32) x y i (zNx n i)))] [.int 0] σ)
          refine ⟨fun h_124 => ?_, fun h_124 => ?_⟩
          · skip
            refine zq (σ := σ) hV hI rfl 2 ?_
            show ((0 : Int32) = 0 → V 168 [(0, .ref 30), (1, .int x), (2, .int y), (3, .int (zb o)), (4, .int (nI i)), (6, .int (zfx (σ.1 31) x i)), (7, .int (zfx (σ.1 32) y i)), (8, .int (zfx (σ.1 31) x (zNx n i))), (9, .int (zfx (σ.1 32) y (zNx n i))), (10, .int (zTn (σ.1 31) (σ.1 32) x y i (zNx n i)))] [] σ) ∧ (¬ (0 : Int32) = 0 → V 135 [(0, .ref 30), (1, .int x), (2, .int y), (3, .int (zb o)), (4, .int (nI i)), (6, .int (zfx (σ.1 31) x i)), (7, .int (zfx (σ.1 32) y i)), (8, .int (zfx (σ.1 31) x (zNx n i))), (9, .int (zfx (σ.1 32) y (zNx n i))), (10, .int (zTn (σ.1 31) (σ.1 32) x y i (zNx n i)))] [] σ)
            refine ⟨fun _ => ?_, fun hc => absurd (by decide) hc⟩
            refine zq (σ := σ) hV hI rfl 2 ?_
            show V 5 [(4, .int ((nI i) + 1)), (0, .ref 30), (1, .int x), (2, .int y), (3, .int (zb o)), (6, .int (zfx (σ.1 31) x i)), (7, .int (zfx (σ.1 32) y i)), (8, .int (zfx (σ.1 31) x (zNx n i))), (9, .int (zfx (σ.1 32) y (zNx n i))), (10, .int (zTn (σ.1 31) (σ.1 32) x y i (zNx n i)))] [] σ
            refine zwk hV [1, 2, 3, 4, 0] rfl ?_
            have hcr : zCr (zfx (σ.1 32) y i) (zfx (σ.1 32) y (zNx n i)) (zTn (σ.1 31) (σ.1 32) x y i (zNx n i)) = false := by
              unfold zCr
              refine decide_eq_false ?_
              simp only [zlt, zle] at h_114 h_124 ⊢
              omega
            rw [hcr] at hK
            rw [nI_1]
            exact ihi (i + 1) o (by omega) hK
          · skip
            refine zq (σ := σ) hV hI rfl 3 ?_
            show ((0 : Int32) = 1 → V 168 [(0, .ref 30), (1, .int x), (2, .int y), (3, .int (zb o)), (4, .int (nI i)), (6, .int (zfx (σ.1 31) x i)), (7, .int (zfx (σ.1 32) y i)), (8, .int (zfx (σ.1 31) x (zNx n i))), (9, .int (zfx (σ.1 32) y (zNx n i))), (10, .int (zTn (σ.1 31) (σ.1 32) x y i (zNx n i)))] [] σ) ∧ (¬ (0 : Int32) = 1 → V 135 [(0, .ref 30), (1, .int x), (2, .int y), (3, .int (zb o)), (4, .int (nI i)), (6, .int (zfx (σ.1 31) x i)), (7, .int (zfx (σ.1 32) y i)), (8, .int (zfx (σ.1 31) x (zNx n i))), (9, .int (zfx (σ.1 32) y (zNx n i))), (10, .int (zTn (σ.1 31) (σ.1 32) x y i (zNx n i)))] [] σ)
            refine ⟨fun hc => absurd hc (by decide), fun _ => ?_⟩
            refine zq (σ := σ) hV hI rfl 4 ?_
            show ((zfx (σ.1 32) y (zNx n i)) ≤ (zfx (σ.1 32) y i) → V 156 [(0, .ref 30), (1, .int x), (2, .int y), (3, .int (zb o)), (4, .int (nI i)), (6, .int (zfx (σ.1 31) x i)), (7, .int (zfx (σ.1 32) y i)), (8, .int (zfx (σ.1 31) x (zNx n i))), (9, .int (zfx (σ.1 32) y (zNx n i))), (10, .int (zTn (σ.1 31) (σ.1 32) x y i (zNx n i)))] [.int (zb o)] σ) ∧ (¬ (zfx (σ.1 32) y (zNx n i)) ≤ (zfx (σ.1 32) y i) → V 143 [(0, .ref 30), (1, .int x), (2, .int y), (3, .int (zb o)), (4, .int (nI i)), (6, .int (zfx (σ.1 31) x i)), (7, .int (zfx (σ.1 32) y i)), (8, .int (zfx (σ.1 31) x (zNx n i))), (9, .int (zfx (σ.1 32) y (zNx n i))), (10, .int (zTn (σ.1 31) (σ.1 32) x y i (zNx n i)))] [.int (zb o)] σ)
            refine ⟨fun h_140 => ?_, fun h_140 => ?_⟩
            · skip
              refine zq (σ := σ) hV hI rfl 2 ?_
              show (0 ≤ (zTn (σ.1 31) (σ.1 32) x y i (zNx n i)) → V 165 [(0, .ref 30), (1, .int x), (2, .int y), (3, .int (zb o)), (4, .int (nI i)), (6, .int (zfx (σ.1 31) x i)), (7, .int (zfx (σ.1 32) y i)), (8, .int (zfx (σ.1 31) x (zNx n i))), (9, .int (zfx (σ.1 32) y (zNx n i))), (10, .int (zTn (σ.1 31) (σ.1 32) x y i (zNx n i)))] [.int (zb o)] σ) ∧ (¬ 0 ≤ (zTn (σ.1 31) (σ.1 32) x y i (zNx n i)) → V 161 [(0, .ref 30), (1, .int x), (2, .int y), (3, .int (zb o)), (4, .int (nI i)), (6, .int (zfx (σ.1 31) x i)), (7, .int (zfx (σ.1 32) y i)), (8, .int (zfx (σ.1 31) x (zNx n i))), (9, .int (zfx (σ.1 32) y (zNx n i))), (10, .int (zTn (σ.1 31) (σ.1 32) x y i (zNx n i)))] [.int (zb o)] σ)
              refine ⟨fun h_158 => ?_, fun h_158 => ?_⟩
              · skip
                refine zq (σ := σ) hV hI rfl 5 ?_
                show V 5 [(4, .int ((nI i) + 1)), (3, .int ((zb o) ^^^ 0)), (0, .ref 30), (1, .int x), (2, .int y), (6, .int (zfx (σ.1 31) x i)), (7, .int (zfx (σ.1 32) y i)), (8, .int (zfx (σ.1 31) x (zNx n i))), (9, .int (zfx (σ.1 32) y (zNx n i))), (10, .int (zTn (σ.1 31) (σ.1 32) x y i (zNx n i)))] [] σ
                refine zwk hV [2, 3, 4, 1, 0] rfl ?_
                have hcr : zCr (zfx (σ.1 32) y i) (zfx (σ.1 32) y (zNx n i)) (zTn (σ.1 31) (σ.1 32) x y i (zNx n i)) = false := by
                  unfold zCr
                  refine decide_eq_false ?_
                  simp only [zlt, zle] at h_114 h_124 h_140 h_158 ⊢
                  omega
                rw [hcr] at hK
                rw [nI_1]
                rw [zbx0]
                exact ihi (i + 1) o (by omega) hK
              · skip
                refine zq (σ := σ) hV hI rfl 6 ?_
                show V 5 [(4, .int ((nI i) + 1)), (3, .int ((zb o) ^^^ 1)), (0, .ref 30), (1, .int x), (2, .int y), (6, .int (zfx (σ.1 31) x i)), (7, .int (zfx (σ.1 32) y i)), (8, .int (zfx (σ.1 31) x (zNx n i))), (9, .int (zfx (σ.1 32) y (zNx n i))), (10, .int (zTn (σ.1 31) (σ.1 32) x y i (zNx n i)))] [] σ
                refine zwk hV [2, 3, 4, 1, 0] rfl ?_
                have hcr : zCr (zfx (σ.1 32) y i) (zfx (σ.1 32) y (zNx n i)) (zTn (σ.1 31) (σ.1 32) x y i (zNx n i)) = true := by
                  unfold zCr
                  refine decide_eq_true ?_
                  simp only [zlt, zle] at h_114 h_124 h_140 h_158 ⊢
                  omega
                rw [hcr] at hK
                rw [nI_1]
                rw [zbx1]
                exact ihi (i + 1) (!o) (by omega) hK
            · skip
              refine zq (σ := σ) hV hI rfl 2 ?_
              show ((zTn (σ.1 31) (σ.1 32) x y i (zNx n i)) ≤ 0 → V 152 [(0, .ref 30), (1, .int x), (2, .int y), (3, .int (zb o)), (4, .int (nI i)), (6, .int (zfx (σ.1 31) x i)), (7, .int (zfx (σ.1 32) y i)), (8, .int (zfx (σ.1 31) x (zNx n i))), (9, .int (zfx (σ.1 32) y (zNx n i))), (10, .int (zTn (σ.1 31) (σ.1 32) x y i (zNx n i)))] [.int (zb o)] σ) ∧ (¬ (zTn (σ.1 31) (σ.1 32) x y i (zNx n i)) ≤ 0 → V 148 [(0, .ref 30), (1, .int x), (2, .int y), (3, .int (zb o)), (4, .int (nI i)), (6, .int (zfx (σ.1 31) x i)), (7, .int (zfx (σ.1 32) y i)), (8, .int (zfx (σ.1 31) x (zNx n i))), (9, .int (zfx (σ.1 32) y (zNx n i))), (10, .int (zTn (σ.1 31) (σ.1 32) x y i (zNx n i)))] [.int (zb o)] σ)
              refine ⟨fun h_145 => ?_, fun h_145 => ?_⟩
              · skip
                refine zq (σ := σ) hV hI rfl 6 ?_
                show V 5 [(4, .int ((nI i) + 1)), (3, .int ((zb o) ^^^ 0)), (0, .ref 30), (1, .int x), (2, .int y), (6, .int (zfx (σ.1 31) x i)), (7, .int (zfx (σ.1 32) y i)), (8, .int (zfx (σ.1 31) x (zNx n i))), (9, .int (zfx (σ.1 32) y (zNx n i))), (10, .int (zTn (σ.1 31) (σ.1 32) x y i (zNx n i)))] [] σ
                refine zwk hV [2, 3, 4, 1, 0] rfl ?_
                have hcr : zCr (zfx (σ.1 32) y i) (zfx (σ.1 32) y (zNx n i)) (zTn (σ.1 31) (σ.1 32) x y i (zNx n i)) = false := by
                  unfold zCr
                  refine decide_eq_false ?_
                  simp only [zlt, zle] at h_114 h_124 h_140 h_145 ⊢
                  omega
                rw [hcr] at hK
                rw [nI_1]
                rw [zbx0]
                exact ihi (i + 1) o (by omega) hK
              · skip
                refine zq (σ := σ) hV hI rfl 6 ?_
                show V 5 [(4, .int ((nI i) + 1)), (3, .int ((zb o) ^^^ 1)), (0, .ref 30), (1, .int x), (2, .int y), (6, .int (zfx (σ.1 31) x i)), (7, .int (zfx (σ.1 32) y i)), (8, .int (zfx (σ.1 31) x (zNx n i))), (9, .int (zfx (σ.1 32) y (zNx n i))), (10, .int (zTn (σ.1 31) (σ.1 32) x y i (zNx n i)))] [] σ
                refine zwk hV [2, 3, 4, 1, 0] rfl ?_
                have hcr : zCr (zfx (σ.1 32) y i) (zfx (σ.1 32) y (zNx n i)) (zTn (σ.1 31) (σ.1 32) x y i (zNx n i)) = true := by
                  unfold zCr
                  refine decide_eq_true ?_
                  simp only [zlt, zle] at h_114 h_124 h_140 h_145 ⊢
                  omega
                rw [hcr] at hK
                rw [nI_1]
                rw [zbx1]
                exact ihi (i + 1) (!o) (by omega) hK
        · skip
          refine zq (σ := σ) hV hI rfl 4 ?_
          show ((zfx (σ.1 32) y (zNx n i)) ≤ 0 → V 131 [(0, .ref 30), (1, .int x), (2, .int y), (3, .int (zb o)), (4, .int (nI i)), (6, .int (zfx (σ.1 31) x i)), (7, .int (zfx (σ.1 32) y i)), (8, .int (zfx (σ.1 31) x (zNx n i))), (9, .int (zfx (σ.1 32) y (zNx n i))), (10, .int (zTn (σ.1 31) (σ.1 32) x y i (zNx n i)))] [.int 1] σ) ∧ (¬ (zfx (σ.1 32) y (zNx n i)) ≤ 0 → V 127 [(0, .ref 30), (1, .int x), (2, .int y), (3, .int (zb o)), (4, .int (nI i)), (6, .int (zfx (σ.1 31) x i)), (7, .int (zfx (σ.1 32) y i)), (8, .int (zfx (σ.1 31) x (zNx n i))), (9, .int (zfx (σ.1 32) y (zNx n i))), (10, .int (zTn (σ.1 31) (σ.1 32) x y i (zNx n i)))] [.int 1] σ)
          refine ⟨fun h_124 => ?_, fun h_124 => ?_⟩
          · skip
            refine zq (σ := σ) hV hI rfl 2 ?_
            show ((1 : Int32) = 0 → V 168 [(0, .ref 30), (1, .int x), (2, .int y), (3, .int (zb o)), (4, .int (nI i)), (6, .int (zfx (σ.1 31) x i)), (7, .int (zfx (σ.1 32) y i)), (8, .int (zfx (σ.1 31) x (zNx n i))), (9, .int (zfx (σ.1 32) y (zNx n i))), (10, .int (zTn (σ.1 31) (σ.1 32) x y i (zNx n i)))] [] σ) ∧ (¬ (1 : Int32) = 0 → V 135 [(0, .ref 30), (1, .int x), (2, .int y), (3, .int (zb o)), (4, .int (nI i)), (6, .int (zfx (σ.1 31) x i)), (7, .int (zfx (σ.1 32) y i)), (8, .int (zfx (σ.1 31) x (zNx n i))), (9, .int (zfx (σ.1 32) y (zNx n i))), (10, .int (zTn (σ.1 31) (σ.1 32) x y i (zNx n i)))] [] σ)
            refine ⟨fun hc => absurd hc (by decide), fun _ => ?_⟩
            refine zq (σ := σ) hV hI rfl 4 ?_
            show ((zfx (σ.1 32) y (zNx n i)) ≤ (zfx (σ.1 32) y i) → V 156 [(0, .ref 30), (1, .int x), (2, .int y), (3, .int (zb o)), (4, .int (nI i)), (6, .int (zfx (σ.1 31) x i)), (7, .int (zfx (σ.1 32) y i)), (8, .int (zfx (σ.1 31) x (zNx n i))), (9, .int (zfx (σ.1 32) y (zNx n i))), (10, .int (zTn (σ.1 31) (σ.1 32) x y i (zNx n i)))] [.int (zb o)] σ) ∧ (¬ (zfx (σ.1 32) y (zNx n i)) ≤ (zfx (σ.1 32) y i) → V 143 [(0, .ref 30), (1, .int x), (2, .int y), (3, .int (zb o)), (4, .int (nI i)), (6, .int (zfx (σ.1 31) x i)), (7, .int (zfx (σ.1 32) y i)), (8, .int (zfx (σ.1 31) x (zNx n i))), (9, .int (zfx (σ.1 32) y (zNx n i))), (10, .int (zTn (σ.1 31) (σ.1 32) x y i (zNx n i)))] [.int (zb o)] σ)
            refine ⟨fun h_140 => ?_, fun h_140 => ?_⟩
            · skip
              refine zq (σ := σ) hV hI rfl 2 ?_
              show (0 ≤ (zTn (σ.1 31) (σ.1 32) x y i (zNx n i)) → V 165 [(0, .ref 30), (1, .int x), (2, .int y), (3, .int (zb o)), (4, .int (nI i)), (6, .int (zfx (σ.1 31) x i)), (7, .int (zfx (σ.1 32) y i)), (8, .int (zfx (σ.1 31) x (zNx n i))), (9, .int (zfx (σ.1 32) y (zNx n i))), (10, .int (zTn (σ.1 31) (σ.1 32) x y i (zNx n i)))] [.int (zb o)] σ) ∧ (¬ 0 ≤ (zTn (σ.1 31) (σ.1 32) x y i (zNx n i)) → V 161 [(0, .ref 30), (1, .int x), (2, .int y), (3, .int (zb o)), (4, .int (nI i)), (6, .int (zfx (σ.1 31) x i)), (7, .int (zfx (σ.1 32) y i)), (8, .int (zfx (σ.1 31) x (zNx n i))), (9, .int (zfx (σ.1 32) y (zNx n i))), (10, .int (zTn (σ.1 31) (σ.1 32) x y i (zNx n i)))] [.int (zb o)] σ)
              refine ⟨fun h_158 => ?_, fun h_158 => ?_⟩
              · skip
                refine zq (σ := σ) hV hI rfl 5 ?_
                show V 5 [(4, .int ((nI i) + 1)), (3, .int ((zb o) ^^^ 0)), (0, .ref 30), (1, .int x), (2, .int y), (6, .int (zfx (σ.1 31) x i)), (7, .int (zfx (σ.1 32) y i)), (8, .int (zfx (σ.1 31) x (zNx n i))), (9, .int (zfx (σ.1 32) y (zNx n i))), (10, .int (zTn (σ.1 31) (σ.1 32) x y i (zNx n i)))] [] σ
                refine zwk hV [2, 3, 4, 1, 0] rfl ?_
                have hcr : zCr (zfx (σ.1 32) y i) (zfx (σ.1 32) y (zNx n i)) (zTn (σ.1 31) (σ.1 32) x y i (zNx n i)) = false := by
                  unfold zCr
                  refine decide_eq_false ?_
                  simp only [zlt, zle] at h_114 h_124 h_140 h_158 ⊢
                  omega
                rw [hcr] at hK
                rw [nI_1]
                rw [zbx0]
                exact ihi (i + 1) o (by omega) hK
              · skip
                refine zq (σ := σ) hV hI rfl 6 ?_
                show V 5 [(4, .int ((nI i) + 1)), (3, .int ((zb o) ^^^ 1)), (0, .ref 30), (1, .int x), (2, .int y), (6, .int (zfx (σ.1 31) x i)), (7, .int (zfx (σ.1 32) y i)), (8, .int (zfx (σ.1 31) x (zNx n i))), (9, .int (zfx (σ.1 32) y (zNx n i))), (10, .int (zTn (σ.1 31) (σ.1 32) x y i (zNx n i)))] [] σ
                refine zwk hV [2, 3, 4, 1, 0] rfl ?_
                have hcr : zCr (zfx (σ.1 32) y i) (zfx (σ.1 32) y (zNx n i)) (zTn (σ.1 31) (σ.1 32) x y i (zNx n i)) = true := by
                  unfold zCr
                  refine decide_eq_true ?_
                  simp only [zlt, zle] at h_114 h_124 h_140 h_158 ⊢
                  omega
                rw [hcr] at hK
                rw [nI_1]
                rw [zbx1]
                exact ihi (i + 1) (!o) (by omega) hK
            · skip
              refine zq (σ := σ) hV hI rfl 2 ?_
              show ((zTn (σ.1 31) (σ.1 32) x y i (zNx n i)) ≤ 0 → V 152 [(0, .ref 30), (1, .int x), (2, .int y), (3, .int (zb o)), (4, .int (nI i)), (6, .int (zfx (σ.1 31) x i)), (7, .int (zfx (σ.1 32) y i)), (8, .int (zfx (σ.1 31) x (zNx n i))), (9, .int (zfx (σ.1 32) y (zNx n i))), (10, .int (zTn (σ.1 31) (σ.1 32) x y i (zNx n i)))] [.int (zb o)] σ) ∧ (¬ (zTn (σ.1 31) (σ.1 32) x y i (zNx n i)) ≤ 0 → V 148 [(0, .ref 30), (1, .int x), (2, .int y), (3, .int (zb o)), (4, .int (nI i)), (6, .int (zfx (σ.1 31) x i)), (7, .int (zfx (σ.1 32) y i)), (8, .int (zfx (σ.1 31) x (zNx n i))), (9, .int (zfx (σ.1 32) y (zNx n i))), (10, .int (zTn (σ.1 31) (σ.1 32) x y i (zNx n i)))] [.int (zb o)] σ)
              refine ⟨fun h_145 => ?_, fun h_145 => ?_⟩
              · skip
                refine zq (σ := σ) hV hI rfl 6 ?_
                show V 5 [(4, .int ((nI i) + 1)), (3, .int ((zb o) ^^^ 0)), (0, .ref 30), (1, .int x), (2, .int y), (6, .int (zfx (σ.1 31) x i)), (7, .int (zfx (σ.1 32) y i)), (8, .int (zfx (σ.1 31) x (zNx n i))), (9, .int (zfx (σ.1 32) y (zNx n i))), (10, .int (zTn (σ.1 31) (σ.1 32) x y i (zNx n i)))] [] σ
                refine zwk hV [2, 3, 4, 1, 0] rfl ?_
                have hcr : zCr (zfx (σ.1 32) y i) (zfx (σ.1 32) y (zNx n i)) (zTn (σ.1 31) (σ.1 32) x y i (zNx n i)) = false := by
                  unfold zCr
                  refine decide_eq_false ?_
                  simp only [zlt, zle] at h_114 h_124 h_140 h_145 ⊢
                  omega
                rw [hcr] at hK
                rw [nI_1]
                rw [zbx0]
                exact ihi (i + 1) o (by omega) hK
              · skip
                refine zq (σ := σ) hV hI rfl 6 ?_
                show V 5 [(4, .int ((nI i) + 1)), (3, .int ((zb o) ^^^ 1)), (0, .ref 30), (1, .int x), (2, .int y), (6, .int (zfx (σ.1 31) x i)), (7, .int (zfx (σ.1 32) y i)), (8, .int (zfx (σ.1 31) x (zNx n i))), (9, .int (zfx (σ.1 32) y (zNx n i))), (10, .int (zTn (σ.1 31) (σ.1 32) x y i (zNx n i)))] [] σ
                refine zwk hV [2, 3, 4, 1, 0] rfl ?_
                have hcr : zCr (zfx (σ.1 32) y i) (zfx (σ.1 32) y (zNx n i)) (zTn (σ.1 31) (σ.1 32) x y i (zNx n i)) = true := by
                  unfold zCr
                  refine decide_eq_true ?_
                  simp only [zlt, zle] at h_114 h_124 h_140 h_145 ⊢
                  omega
                rw [hcr] at hK
                rw [nI_1]
                rw [zbx1]
                exact ihi (i + 1) (!o) (by omega) hK
          · skip
            refine zq (σ := σ) hV hI rfl 3 ?_
            show ((1 : Int32) = 1 → V 168 [(0, .ref 30), (1, .int x), (2, .int y), (3, .int (zb o)), (4, .int (nI i)), (6, .int (zfx (σ.1 31) x i)), (7, .int (zfx (σ.1 32) y i)), (8, .int (zfx (σ.1 31) x (zNx n i))), (9, .int (zfx (σ.1 32) y (zNx n i))), (10, .int (zTn (σ.1 31) (σ.1 32) x y i (zNx n i)))] [] σ) ∧ (¬ (1 : Int32) = 1 → V 135 [(0, .ref 30), (1, .int x), (2, .int y), (3, .int (zb o)), (4, .int (nI i)), (6, .int (zfx (σ.1 31) x i)), (7, .int (zfx (σ.1 32) y i)), (8, .int (zfx (σ.1 31) x (zNx n i))), (9, .int (zfx (σ.1 32) y (zNx n i))), (10, .int (zTn (σ.1 31) (σ.1 32) x y i (zNx n i)))] [] σ)
            refine ⟨fun _ => ?_, fun hc => absurd (by decide) hc⟩
            refine zq (σ := σ) hV hI rfl 2 ?_
            show V 5 [(4, .int ((nI i) + 1)), (0, .ref 30), (1, .int x), (2, .int y), (3, .int (zb o)), (6, .int (zfx (σ.1 31) x i)), (7, .int (zfx (σ.1 32) y i)), (8, .int (zfx (σ.1 31) x (zNx n i))), (9, .int (zfx (σ.1 32) y (zNx n i))), (10, .int (zTn (σ.1 31) (σ.1 32) x y i (zNx n i)))] [] σ
            refine zwk hV [1, 2, 3, 4, 0] rfl ?_
            have hcr : zCr (zfx (σ.1 32) y i) (zfx (σ.1 32) y (zNx n i)) (zTn (σ.1 31) (σ.1 32) x y i (zNx n i)) = false := by
              unfold zCr
              refine decide_eq_false ?_
              simp only [zlt, zle] at h_114 h_124 ⊢
              omega
            rw [hcr] at hK
            rw [nI_1]
            exact ihi (i + 1) o (by omega) hK
      · skip
        have h_93 := Classical.not_not.mp h_93
        refine zq (σ := σ) hV hI rfl 8 ?_
        show (0 < (((zfx (σ.1 31) x i) * (zfx (σ.1 31) x (zNx n i))) + ((zfx (σ.1 32) y i) * (zfx (σ.1 32) y (zNx n i)))) → V 112 [(0, .ref 30), (1, .int x), (2, .int y), (3, .int (zb o)), (4, .int (nI i)), (6, .int (zfx (σ.1 31) x i)), (7, .int (zfx (σ.1 32) y i)), (8, .int (zfx (σ.1 31) x (zNx n i))), (9, .int (zfx (σ.1 32) y (zNx n i))), (10, .int (zTn (σ.1 31) (σ.1 32) x y i (zNx n i)))] [] σ) ∧ (¬ 0 < (((zfx (σ.1 31) x i) * (zfx (σ.1 31) x (zNx n i))) + ((zfx (σ.1 32) y i) * (zfx (σ.1 32) y (zNx n i)))) → V 110 [(0, .ref 30), (1, .int x), (2, .int y), (3, .int (zb o)), (4, .int (nI i)), (6, .int (zfx (σ.1 31) x i)), (7, .int (zfx (σ.1 32) y i)), (8, .int (zfx (σ.1 31) x (zNx n i))), (9, .int (zfx (σ.1 32) y (zNx n i))), (10, .int (zTn (σ.1 31) (σ.1 32) x y i (zNx n i)))] [] σ)
        refine ⟨fun h_107 => ?_, fun h_107 => ?_⟩
        · skip
          have hon : zOn (zfx (σ.1 31) x i) (zfx (σ.1 32) y i) (zfx (σ.1 31) x (zNx n i)) (zfx (σ.1 32) y (zNx n i)) (zTn (σ.1 31) (σ.1 32) x y i (zNx n i)) = false := by
            rw [hm]
            exact decide_eq_false (fun q => Int32.not_lt.mpr q.2 h_107)
          rw [zSd, hon] at hK
          replace hK : K (some (.int (zSd n (σ.1 31) (σ.1 32) x y r (i + 1) (match zCr (zfx (σ.1 32) y i) (zfx (σ.1 32) y (zNx n i)) (zTn (σ.1 31) (σ.1 32) x y i (zNx n i)) with | true => !o | false => o)))) σ := hK
          refine zq (σ := σ) hV hI rfl 2 ?_
          show ((zfx (σ.1 32) y i) ≤ 0 → V 121 [(0, .ref 30), (1, .int x), (2, .int y), (3, .int (zb o)), (4, .int (nI i)), (6, .int (zfx (σ.1 31) x i)), (7, .int (zfx (σ.1 32) y i)), (8, .int (zfx (σ.1 31) x (zNx n i))), (9, .int (zfx (σ.1 32) y (zNx n i))), (10, .int (zTn (σ.1 31) (σ.1 32) x y i (zNx n i)))] [] σ) ∧ (¬ (zfx (σ.1 32) y i) ≤ 0 → V 117 [(0, .ref 30), (1, .int x), (2, .int y), (3, .int (zb o)), (4, .int (nI i)), (6, .int (zfx (σ.1 31) x i)), (7, .int (zfx (σ.1 32) y i)), (8, .int (zfx (σ.1 31) x (zNx n i))), (9, .int (zfx (σ.1 32) y (zNx n i))), (10, .int (zTn (σ.1 31) (σ.1 32) x y i (zNx n i)))] [] σ)
          refine ⟨fun h_114 => ?_, fun h_114 => ?_⟩
          · skip
            refine zq (σ := σ) hV hI rfl 3 ?_
            show ((zfx (σ.1 32) y (zNx n i)) ≤ 0 → V 131 [(0, .ref 30), (1, .int x), (2, .int y), (3, .int (zb o)), (4, .int (nI i)), (6, .int (zfx (σ.1 31) x i)), (7, .int (zfx (σ.1 32) y i)), (8, .int (zfx (σ.1 31) x (zNx n i))), (9, .int (zfx (σ.1 32) y (zNx n i))), (10, .int (zTn (σ.1 31) (σ.1 32) x y i (zNx n i)))] [.int 0] σ) ∧ (¬ (zfx (σ.1 32) y (zNx n i)) ≤ 0 → V 127 [(0, .ref 30), (1, .int x), (2, .int y), (3, .int (zb o)), (4, .int (nI i)), (6, .int (zfx (σ.1 31) x i)), (7, .int (zfx (σ.1 32) y i)), (8, .int (zfx (σ.1 31) x (zNx n i))), (9, .int (zfx (σ.1 32) y (zNx n i))), (10, .int (zTn (σ.1 31) (σ.1 32) x y i (zNx n i)))] [.int 0] σ)
            refine ⟨fun h_124 => ?_, fun h_124 => ?_⟩
            · skip
              refine zq (σ := σ) hV hI rfl 2 ?_
              show ((0 : Int32) = 0 → V 168 [(0, .ref 30), (1, .int x), (2, .int y), (3, .int (zb o)), (4, .int (nI i)), (6, .int (zfx (σ.1 31) x i)), (7, .int (zfx (σ.1 32) y i)), (8, .int (zfx (σ.1 31) x (zNx n i))), (9, .int (zfx (σ.1 32) y (zNx n i))), (10, .int (zTn (σ.1 31) (σ.1 32) x y i (zNx n i)))] [] σ) ∧ (¬ (0 : Int32) = 0 → V 135 [(0, .ref 30), (1, .int x), (2, .int y), (3, .int (zb o)), (4, .int (nI i)), (6, .int (zfx (σ.1 31) x i)), (7, .int (zfx (σ.1 32) y i)), (8, .int (zfx (σ.1 31) x (zNx n i))), (9, .int (zfx (σ.1 32) y (zNx n i))), (10, .int (zTn (σ.1 31) (σ.1 32) x y i (zNx n i)))] [] σ)
              refine ⟨fun _ => ?_, fun hc => absurd (by decide) hc⟩
              refine zq (σ := σ) hV hI rfl 2 ?_
              show V 5 [(4, .int ((nI i) + 1)), (0, .ref 30), (1, .int x), (2, .int y), (3, .int (zb o)), (6, .int (zfx (σ.1 31) x i)), (7, .int (zfx (σ.1 32) y i)), (8, .int (zfx (σ.1 31) x (zNx n i))), (9, .int (zfx (σ.1 32) y (zNx n i))), (10, .int (zTn (σ.1 31) (σ.1 32) x y i (zNx n i)))] [] σ
              refine zwk hV [1, 2, 3, 4, 0] rfl ?_
              have hcr : zCr (zfx (σ.1 32) y i) (zfx (σ.1 32) y (zNx n i)) (zTn (σ.1 31) (σ.1 32) x y i (zNx n i)) = false := by
                unfold zCr
                refine decide_eq_false ?_
                simp only [zlt, zle] at h_114 h_124 ⊢
                omega
              rw [hcr] at hK
              rw [nI_1]
              exact ihi (i + 1) o (by omega) hK
            · skip
              refine zq (σ := σ) hV hI rfl 3 ?_
              show ((0 : Int32) = 1 → V 168 [(0, .ref 30), (1, .int x), (2, .int y), (3, .int (zb o)), (4, .int (nI i)), (6, .int (zfx (σ.1 31) x i)), (7, .int (zfx (σ.1 32) y i)), (8, .int (zfx (σ.1 31) x (zNx n i))), (9, .int (zfx (σ.1 32) y (zNx n i))), (10, .int (zTn (σ.1 31) (σ.1 32) x y i (zNx n i)))] [] σ) ∧ (¬ (0 : Int32) = 1 → V 135 [(0, .ref 30), (1, .int x), (2, .int y), (3, .int (zb o)), (4, .int (nI i)), (6, .int (zfx (σ.1 31) x i)), (7, .int (zfx (σ.1 32) y i)), (8, .int (zfx (σ.1 31) x (zNx n i))), (9, .int (zfx (σ.1 32) y (zNx n i))), (10, .int (zTn (σ.1 31) (σ.1 32) x y i (zNx n i)))] [] σ)
              refine ⟨fun hc => absurd hc (by decide), fun _ => ?_⟩
              refine zq (σ := σ) hV hI rfl 4 ?_
              show ((zfx (σ.1 32) y (zNx n i)) ≤ (zfx (σ.1 32) y i) → V 156 [(0, .ref 30), (1, .int x), (2, .int y), (3, .int (zb o)), (4, .int (nI i)), (6, .int (zfx (σ.1 31) x i)), (7, .int (zfx (σ.1 32) y i)), (8, .int (zfx (σ.1 31) x (zNx n i))), (9, .int (zfx (σ.1 32) y (zNx n i))), (10, .int (zTn (σ.1 31) (σ.1 32) x y i (zNx n i)))] [.int (zb o)] σ) ∧ (¬ (zfx (σ.1 32) y (zNx n i)) ≤ (zfx (σ.1 32) y i) → V 143 [(0, .ref 30), (1, .int x), (2, .int y), (3, .int (zb o)), (4, .int (nI i)), (6, .int (zfx (σ.1 31) x i)), (7, .int (zfx (σ.1 32) y i)), (8, .int (zfx (σ.1 31) x (zNx n i))), (9, .int (zfx (σ.1 32) y (zNx n i))), (10, .int (zTn (σ.1 31) (σ.1 32) x y i (zNx n i)))] [.int (zb o)] σ)
              refine ⟨fun h_140 => ?_, fun h_140 => ?_⟩
              · skip
                refine zq (σ := σ) hV hI rfl 2 ?_
                show (0 ≤ (zTn (σ.1 31) (σ.1 32) x y i (zNx n i)) → V 165 [(0, .ref 30), (1, .int x), (2, .int y), (3, .int (zb o)), (4, .int (nI i)), (6, .int (zfx (σ.1 31) x i)), (7, .int (zfx (σ.1 32) y i)), (8, .int (zfx (σ.1 31) x (zNx n i))), (9, .int (zfx (σ.1 32) y (zNx n i))), (10, .int (zTn (σ.1 31) (σ.1 32) x y i (zNx n i)))] [.int (zb o)] σ) ∧ (¬ 0 ≤ (zTn (σ.1 31) (σ.1 32) x y i (zNx n i)) → V 161 [(0, .ref 30), (1, .int x), (2, .int y), (3, .int (zb o)), (4, .int (nI i)), (6, .int (zfx (σ.1 31) x i)), (7, .int (zfx (σ.1 32) y i)), (8, .int (zfx (σ.1 31) x (zNx n i))), (9, .int (zfx (σ.1 32) y (zNx n i))), (10, .int (zTn (σ.1 31) (σ.1 32) x y i (zNx n i)))] [.int (zb o)] σ)
                refine ⟨fun h_158 => ?_, fun h_158 => ?_⟩
                · skip
                  refine zq (σ := σ) hV hI rfl 5 ?_
                  show V 5 [(4, .int ((nI i) + 1)), (3, .int ((zb o) ^^^ 0)), (0, .ref 30), (1, .int x), (2, .int y), (6, .int (zfx (σ.1 31) x i)), (7, .int (zfx (σ.1 32) y i)), (8, .int (zfx (σ.1 31) x (zNx n i))), (9, .int (zfx (σ.1 32) y (zNx n i))), (10, .int (zTn (σ.1 31) (σ.1 32) x y i (zNx n i)))] [] σ
                  refine zwk hV [2, 3, 4, 1, 0] rfl ?_
                  have hcr : zCr (zfx (σ.1 32) y i) (zfx (σ.1 32) y (zNx n i)) (zTn (σ.1 31) (σ.1 32) x y i (zNx n i)) = false := by
                    unfold zCr
                    refine decide_eq_false ?_
                    simp only [zlt, zle] at h_114 h_124 h_140 h_158 ⊢
                    omega
                  rw [hcr] at hK
                  rw [nI_1]
                  rw [zbx0]
                  exact ihi (i + 1) o (by omega) hK
                · skip
                  refine zq (σ := σ) hV hI rfl 6 ?_
                  show V 5 [(4, .int ((nI i) + 1)), (3, .int ((zb o) ^^^ 1)), (0, .ref 30), (1, .int x), (2, .int y), (6, .int (zfx (σ.1 31) x i)), (7, .int (zfx (σ.1 32) y i)), (8, .int (zfx (σ.1 31) x (zNx n i))), (9, .int (zfx (σ.1 32) y (zNx n i))), (10, .int (zTn (σ.1 31) (σ.1 32) x y i (zNx n i)))] [] σ
                  refine zwk hV [2, 3, 4, 1, 0] rfl ?_
                  have hcr : zCr (zfx (σ.1 32) y i) (zfx (σ.1 32) y (zNx n i)) (zTn (σ.1 31) (σ.1 32) x y i (zNx n i)) = true := by
                    unfold zCr
                    refine decide_eq_true ?_
                    simp only [zlt, zle] at h_114 h_124 h_140 h_158 ⊢
                    omega
                  rw [hcr] at hK
                  rw [nI_1]
                  rw [zbx1]
                  exact ihi (i + 1) (!o) (by omega) hK
              · skip
                refine zq (σ := σ) hV hI rfl 2 ?_
                show ((zTn (σ.1 31) (σ.1 32) x y i (zNx n i)) ≤ 0 → V 152 [(0, .ref 30), (1, .int x), (2, .int y), (3, .int (zb o)), (4, .int (nI i)), (6, .int (zfx (σ.1 31) x i)), (7, .int (zfx (σ.1 32) y i)), (8, .int (zfx (σ.1 31) x (zNx n i))), (9, .int (zfx (σ.1 32) y (zNx n i))), (10, .int (zTn (σ.1 31) (σ.1 32) x y i (zNx n i)))] [.int (zb o)] σ) ∧ (¬ (zTn (σ.1 31) (σ.1 32) x y i (zNx n i)) ≤ 0 → V 148 [(0, .ref 30), (1, .int x), (2, .int y), (3, .int (zb o)), (4, .int (nI i)), (6, .int (zfx (σ.1 31) x i)), (7, .int (zfx (σ.1 32) y i)), (8, .int (zfx (σ.1 31) x (zNx n i))), (9, .int (zfx (σ.1 32) y (zNx n i))), (10, .int (zTn (σ.1 31) (σ.1 32) x y i (zNx n i)))] [.int (zb o)] σ)
                refine ⟨fun h_145 => ?_, fun h_145 => ?_⟩
                · skip
                  refine zq (σ := σ) hV hI rfl 6 ?_
                  show V 5 [(4, .int ((nI i) + 1)), (3, .int ((zb o) ^^^ 0)), (0, .ref 30), (1, .int x), (2, .int y), (6, .int (zfx (σ.1 31) x i)), (7, .int (zfx (σ.1 32) y i)), (8, .int (zfx (σ.1 31) x (zNx n i))), (9, .int (zfx (σ.1 32) y (zNx n i))), (10, .int (zTn (σ.1 31) (σ.1 32) x y i (zNx n i)))] [] σ
                  refine zwk hV [2, 3, 4, 1, 0] rfl ?_
                  have hcr : zCr (zfx (σ.1 32) y i) (zfx (σ.1 32) y (zNx n i)) (zTn (σ.1 31) (σ.1 32) x y i (zNx n i)) = false := by
                    unfold zCr
                    refine decide_eq_false ?_
                    simp only [zlt, zle] at h_114 h_124 h_140 h_145 ⊢
                    omega
                  rw [hcr] at hK
                  rw [nI_1]
                  rw [zbx0]
                  exact ihi (i + 1) o (by omega) hK
                · skip
                  refine zq (σ := σ) hV hI rfl 6 ?_
                  show V 5 [(4, .int ((nI i) + 1)), (3, .int ((zb o) ^^^ 1)), (0, .ref 30), (1, .int x), (2, .int y), (6, .int (zfx (σ.1 31) x i)), (7, .int (zfx (σ.1 32) y i)), (8, .int (zfx (σ.1 31) x (zNx n i))), (9, .int (zfx (σ.1 32) y (zNx n i))), (10, .int (zTn (σ.1 31) (σ.1 32) x y i (zNx n i)))] [] σ
                  refine zwk hV [2, 3, 4, 1, 0] rfl ?_
                  have hcr : zCr (zfx (σ.1 32) y i) (zfx (σ.1 32) y (zNx n i)) (zTn (σ.1 31) (σ.1 32) x y i (zNx n i)) = true := by
                    unfold zCr
                    refine decide_eq_true ?_
                    simp only [zlt, zle] at h_114 h_124 h_140 h_145 ⊢
                    omega
                  rw [hcr] at hK
                  rw [nI_1]
                  rw [zbx1]
                  exact ihi (i + 1) (!o) (by omega) hK
          · skip
            refine zq (σ := σ) hV hI rfl 4 ?_
            show ((zfx (σ.1 32) y (zNx n i)) ≤ 0 → V 131 [(0, .ref 30), (1, .int x), (2, .int y), (3, .int (zb o)), (4, .int (nI i)), (6, .int (zfx (σ.1 31) x i)), (7, .int (zfx (σ.1 32) y i)), (8, .int (zfx (σ.1 31) x (zNx n i))), (9, .int (zfx (σ.1 32) y (zNx n i))), (10, .int (zTn (σ.1 31) (σ.1 32) x y i (zNx n i)))] [.int 1] σ) ∧ (¬ (zfx (σ.1 32) y (zNx n i)) ≤ 0 → V 127 [(0, .ref 30), (1, .int x), (2, .int y), (3, .int (zb o)), (4, .int (nI i)), (6, .int (zfx (σ.1 31) x i)), (7, .int (zfx (σ.1 32) y i)), (8, .int (zfx (σ.1 31) x (zNx n i))), (9, .int (zfx (σ.1 32) y (zNx n i))), (10, .int (zTn (σ.1 31) (σ.1 32) x y i (zNx n i)))] [.int 1] σ)
            refine ⟨fun h_124 => ?_, fun h_124 => ?_⟩
            · skip
              refine zq (σ := σ) hV hI rfl 2 ?_
              show ((1 : Int32) = 0 → V 168 [(0, .ref 30), (1, .int x), (2, .int y), (3, .int (zb o)), (4, .int (nI i)), (6, .int (zfx (σ.1 31) x i)), (7, .int (zfx (σ.1 32) y i)), (8, .int (zfx (σ.1 31) x (zNx n i))), (9, .int (zfx (σ.1 32) y (zNx n i))), (10, .int (zTn (σ.1 31) (σ.1 32) x y i (zNx n i)))] [] σ) ∧ (¬ (1 : Int32) = 0 → V 135 [(0, .ref 30), (1, .int x), (2, .int y), (3, .int (zb o)), (4, .int (nI i)), (6, .int (zfx (σ.1 31) x i)), (7, .int (zfx (σ.1 32) y i)), (8, .int (zfx (σ.1 31) x (zNx n i))), (9, .int (zfx (σ.1 32) y (zNx n i))), (10, .int (zTn (σ.1 31) (σ.1 32) x y i (zNx n i)))] [] σ)
              refine ⟨fun hc => absurd hc (by decide), fun _ => ?_⟩
              refine zq (σ := σ) hV hI rfl 4 ?_
              show ((zfx (σ.1 32) y (zNx n i)) ≤ (zfx (σ.1 32) y i) → V 156 [(0, .ref 30), (1, .int x), (2, .int y), (3, .int (zb o)), (4, .int (nI i)), (6, .int (zfx (σ.1 31) x i)), (7, .int (zfx (σ.1 32) y i)), (8, .int (zfx (σ.1 31) x (zNx n i))), (9, .int (zfx (σ.1 32) y (zNx n i))), (10, .int (zTn (σ.1 31) (σ.1 32) x y i (zNx n i)))] [.int (zb o)] σ) ∧ (¬ (zfx (σ.1 32) y (zNx n i)) ≤ (zfx (σ.1 32) y i) → V 143 [(0, .ref 30), (1, .int x), (2, .int y), (3, .int (zb o)), (4, .int (nI i)), (6, .int (zfx (σ.1 31) x i)), (7, .int (zfx (σ.1 32) y i)), (8, .int (zfx (σ.1 31) x (zNx n i))), (9, .int (zfx (σ.1 32) y (zNx n i))), (10, .int (zTn (σ.1 31) (σ.1 32) x y i (zNx n i)))] [.int (zb o)] σ)
              refine ⟨fun h_140 => ?_, fun h_140 => ?_⟩
              · skip
                refine zq (σ := σ) hV hI rfl 2 ?_
                show (0 ≤ (zTn (σ.1 31) (σ.1 32) x y i (zNx n i)) → V 165 [(0, .ref 30), (1, .int x), (2, .int y), (3, .int (zb o)), (4, .int (nI i)), (6, .int (zfx (σ.1 31) x i)), (7, .int (zfx (σ.1 32) y i)), (8, .int (zfx (σ.1 31) x (zNx n i))), (9, .int (zfx (σ.1 32) y (zNx n i))), (10, .int (zTn (σ.1 31) (σ.1 32) x y i (zNx n i)))] [.int (zb o)] σ) ∧ (¬ 0 ≤ (zTn (σ.1 31) (σ.1 32) x y i (zNx n i)) → V 161 [(0, .ref 30), (1, .int x), (2, .int y), (3, .int (zb o)), (4, .int (nI i)), (6, .int (zfx (σ.1 31) x i)), (7, .int (zfx (σ.1 32) y i)), (8, .int (zfx (σ.1 31) x (zNx n i))), (9, .int (zfx (σ.1 32) y (zNx n i))), (10, .int (zTn (σ.1 31) (σ.1 32) x y i (zNx n i)))] [.int (zb o)] σ)
                refine ⟨fun h_158 => ?_, fun h_158 => ?_⟩
                · skip
                  refine zq (σ := σ) hV hI rfl 5 ?_
                  show V 5 [(4, .int ((nI i) + 1)), (3, .int ((zb o) ^^^ 0)), (0, .ref 30), (1, .int x), (2, .int y), (6, .int (zfx (σ.1 31) x i)), (7, .int (zfx (σ.1 32) y i)), (8, .int (zfx (σ.1 31) x (zNx n i))), (9, .int (zfx (σ.1 32) y (zNx n i))), (10, .int (zTn (σ.1 31) (σ.1 32) x y i (zNx n i)))] [] σ
                  refine zwk hV [2, 3, 4, 1, 0] rfl ?_
                  have hcr : zCr (zfx (σ.1 32) y i) (zfx (σ.1 32) y (zNx n i)) (zTn (σ.1 31) (σ.1 32) x y i (zNx n i)) = false := by
                    unfold zCr
                    refine decide_eq_false ?_
                    simp only [zlt, zle] at h_114 h_124 h_140 h_158 ⊢
                    omega
                  rw [hcr] at hK
                  rw [nI_1]
                  rw [zbx0]
                  exact ihi (i + 1) o (by omega) hK
                · skip
                  refine zq (σ := σ) hV hI rfl 6 ?_
                  show V 5 [(4, .int ((nI i) + 1)), (3, .int ((zb o) ^^^ 1)), (0, .ref 30), (1, .int x), (2, .int y), (6, .int (zfx (σ.1 31) x i)), (7, .int (zfx (σ.1 32) y i)), (8, .int (zfx (σ.1 31) x (zNx n i))), (9, .int (zfx (σ.1 32) y (zNx n i))), (10, .int (zTn (σ.1 31) (σ.1 32) x y i (zNx n i)))] [] σ
                  refine zwk hV [2, 3, 4, 1, 0] rfl ?_
                  have hcr : zCr (zfx (σ.1 32) y i) (zfx (σ.1 32) y (zNx n i)) (zTn (σ.1 31) (σ.1 32) x y i (zNx n i)) = true := by
                    unfold zCr
                    refine decide_eq_true ?_
                    simp only [zlt, zle] at h_114 h_124 h_140 h_158 ⊢
                    omega
                  rw [hcr] at hK
                  rw [nI_1]
                  rw [zbx1]
                  exact ihi (i + 1) (!o) (by omega) hK
              · skip
                refine zq (σ := σ) hV hI rfl 2 ?_
                show ((zTn (σ.1 31) (σ.1 32) x y i (zNx n i)) ≤ 0 → V 152 [(0, .ref 30), (1, .int x), (2, .int y), (3, .int (zb o)), (4, .int (nI i)), (6, .int (zfx (σ.1 31) x i)), (7, .int (zfx (σ.1 32) y i)), (8, .int (zfx (σ.1 31) x (zNx n i))), (9, .int (zfx (σ.1 32) y (zNx n i))), (10, .int (zTn (σ.1 31) (σ.1 32) x y i (zNx n i)))] [.int (zb o)] σ) ∧ (¬ (zTn (σ.1 31) (σ.1 32) x y i (zNx n i)) ≤ 0 → V 148 [(0, .ref 30), (1, .int x), (2, .int y), (3, .int (zb o)), (4, .int (nI i)), (6, .int (zfx (σ.1 31) x i)), (7, .int (zfx (σ.1 32) y i)), (8, .int (zfx (σ.1 31) x (zNx n i))), (9, .int (zfx (σ.1 32) y (zNx n i))), (10, .int (zTn (σ.1 31) (σ.1 32) x y i (zNx n i)))] [.int (zb o)] σ)
                refine ⟨fun h_145 => ?_, fun h_145 => ?_⟩
                · skip
                  refine zq (σ := σ) hV hI rfl 6 ?_
                  show V 5 [(4, .int ((nI i) + 1)), (3, .int ((zb o) ^^^ 0)), (0, .ref 30), (1, .int x), (2, .int y), (6, .int (zfx (σ.1 31) x i)), (7, .int (zfx (σ.1 32) y i)), (8, .int (zfx (σ.1 31) x (zNx n i))), (9, .int (zfx (σ.1 32) y (zNx n i))), (10, .int (zTn (σ.1 31) (σ.1 32) x y i (zNx n i)))] [] σ
                  refine zwk hV [2, 3, 4, 1, 0] rfl ?_
                  have hcr : zCr (zfx (σ.1 32) y i) (zfx (σ.1 32) y (zNx n i)) (zTn (σ.1 31) (σ.1 32) x y i (zNx n i)) = false := by
                    unfold zCr
                    refine decide_eq_false ?_
                    simp only [zlt, zle] at h_114 h_124 h_140 h_145 ⊢
                    omega
                  rw [hcr] at hK
                  rw [nI_1]
                  rw [zbx0]
                  exact ihi (i + 1) o (by omega) hK
                · skip
                  refine zq (σ := σ) hV hI rfl 6 ?_
                  show V 5 [(4, .int ((nI i) + 1)), (3, .int ((zb o) ^^^ 1)), (0, .ref 30), (1, .int x), (2, .int y), (6, .int (zfx (σ.1 31) x i)), (7, .int (zfx (σ.1 32) y i)), (8, .int (zfx (σ.1 31) x (zNx n i))), (9, .int (zfx (σ.1 32) y (zNx n i))), (10, .int (zTn (σ.1 31) (σ.1 32) x y i (zNx n i)))] [] σ
                  refine zwk hV [2, 3, 4, 1, 0] rfl ?_
                  have hcr : zCr (zfx (σ.1 32) y i) (zfx (σ.1 32) y (zNx n i)) (zTn (σ.1 31) (σ.1 32) x y i (zNx n i)) = true := by
                    unfold zCr
                    refine decide_eq_true ?_
                    simp only [zlt, zle] at h_114 h_124 h_140 h_145 ⊢
                    omega
                  rw [hcr] at hK
                  rw [nI_1]
                  rw [zbx1]
                  exact ihi (i + 1) (!o) (by omega) hK
            · skip
              refine zq (σ := σ) hV hI rfl 3 ?_
              show ((1 : Int32) = 1 → V 168 [(0, .ref 30), (1, .int x), (2, .int y), (3, .int (zb o)), (4, .int (nI i)), (6, .int (zfx (σ.1 31) x i)), (7, .int (zfx (σ.1 32) y i)), (8, .int (zfx (σ.1 31) x (zNx n i))), (9, .int (zfx (σ.1 32) y (zNx n i))), (10, .int (zTn (σ.1 31) (σ.1 32) x y i (zNx n i)))] [] σ) ∧ (¬ (1 : Int32) = 1 → V 135 [(0, .ref 30), (1, .int x), (2, .int y), (3, .int (zb o)), (4, .int (nI i)), (6, .int (zfx (σ.1 31) x i)), (7, .int (zfx (σ.1 32) y i)), (8, .int (zfx (σ.1 31) x (zNx n i))), (9, .int (zfx (σ.1 32) y (zNx n i))), (10, .int (zTn (σ.1 31) (σ.1 32) x y i (zNx n i)))] [] σ)
              refine ⟨fun _ => ?_, fun hc => absurd (by decide) hc⟩
              refine zq (σ := σ) hV hI rfl 2 ?_
              show V 5 [(4, .int ((nI i) + 1)), (0, .ref 30), (1, .int x), (2, .int y), (3, .int (zb o)), (6, .int (zfx (σ.1 31) x i)), (7, .int (zfx (σ.1 32) y i)), (8, .int (zfx (σ.1 31) x (zNx n i))), (9, .int (zfx (σ.1 32) y (zNx n i))), (10, .int (zTn (σ.1 31) (σ.1 32) x y i (zNx n i)))] [] σ
              refine zwk hV [1, 2, 3, 4, 0] rfl ?_
              have hcr : zCr (zfx (σ.1 32) y i) (zfx (σ.1 32) y (zNx n i)) (zTn (σ.1 31) (σ.1 32) x y i (zNx n i)) = false := by
                unfold zCr
                refine decide_eq_false ?_
                simp only [zlt, zle] at h_114 h_124 ⊢
                omega
              rw [hcr] at hK
              rw [nI_1]
              exact ihi (i + 1) o (by omega) hK
        · skip
          refine zq (σ := σ) hV hI rfl 2 ?_
          show K (some (.int 2)) σ
          have hon : zOn (zfx (σ.1 31) x i) (zfx (σ.1 32) y i) (zfx (σ.1 31) x (zNx n i)) (zfx (σ.1 32) y (zNx n i)) (zTn (σ.1 31) (σ.1 32) x y i (zNx n i)) = true := by rw [hm]; exact decide_eq_true ⟨h_93, Int32.not_lt.mp h_107⟩
          rw [zSd, hon] at hK
          exact hK
  exact Hi n 0 false (by omega) hK
set_option maxRecDepth 8000 in
set_option maxHeartbeats 4000000 in
theorem isPlace_M {d : Nat} {σ : zSt} {K : Option Value → zSt → Prop} {x y : Int32} (h1 : zBt (-1000) 1000 x ∧ zBt (-1000) 1000 y → K (some (.int 1)) σ) (h0 : ¬ (zBt (-1000) 1000 x ∧ zBt (-1000) 1000 y) → K (some (.int 0)) σ) : zSp (d + 2) mX9_isPlace [.int x, .int y] σ K := by
  refine ⟨⟨by decide, Nat.le_of_ble_eq_true rfl⟩, fun V hV => ?_⟩
  refine zq (σ := σ) hV zQI_0 rfl 5 ?_
  show zSp _ 131 [.long (Int32.toInt64 x), .long (-1000), .long 1000] σ (fun r σ' => σ'.2.2.2 = σ.2.2.2 + zAl 131 → V 11 [(0, .int x), (1, .int y)] (r.toList ++ []) σ')
  refine in_M (lo := (-1000)) (hi := 1000) (by decide) (by decide) (fun hb1 _ => ?_) (fun hb1 _ => ?_)
  · skip
    refine zq (σ := σ) hV zQI_0 rfl 1 ?_
    show ((1 : Int32) = 0 → V 32 [(0, .int x), (1, .int y)] [] σ) ∧ (¬ (1 : Int32) = 0 → V 14 [(0, .int x), (1, .int y)] [] σ)
    refine ⟨fun hc => absurd hc (by decide), fun _ => ?_⟩
    refine zq (σ := σ) hV zQI_0 rfl 5 ?_
    show zSp _ 131 [.long (Int32.toInt64 y), .long (-1000), .long 1000] σ (fun r σ' => σ'.2.2.2 = σ.2.2.2 + zAl 131 → V 25 [(0, .int x), (1, .int y)] (r.toList ++ []) σ')
    refine in_M (lo := (-1000)) (hi := 1000) (by decide) (by decide) (fun hb2 _ => ?_) (fun hb2 _ => ?_)
    · skip
      refine zq (σ := σ) hV zQI_0 rfl 1 ?_
      show ((1 : Int32) = 0 → V 32 [(0, .int x), (1, .int y)] [] σ) ∧ (¬ (1 : Int32) = 0 → V 28 [(0, .int x), (1, .int y)] [] σ)
      refine ⟨fun hc => absurd hc (by decide), fun _ => ?_⟩
      refine zq (σ := σ) hV zQI_0 rfl 3 ?_
      show ((1 : Int32) = 0 ∨ (1 : Int32) = 1) ∧ K (some (.int 1)) σ
      refine ⟨by decide, ?_⟩
      exact h1 ⟨hb1, hb2⟩
    · skip
      refine zq (σ := σ) hV zQI_0 rfl 1 ?_
      show ((0 : Int32) = 0 → V 32 [(0, .int x), (1, .int y)] [] σ) ∧ (¬ (0 : Int32) = 0 → V 28 [(0, .int x), (1, .int y)] [] σ)
      refine ⟨fun _ => ?_, fun hc => absurd (by decide) hc⟩
      refine zq (σ := σ) hV zQI_0 rfl 2 ?_
      show ((0 : Int32) = 0 ∨ (0 : Int32) = 1) ∧ K (some (.int 0)) σ
      refine ⟨by decide, ?_⟩
      exact h0 (fun q => hb2 q.2)
  · skip
    refine zq (σ := σ) hV zQI_0 rfl 1 ?_
    show ((0 : Int32) = 0 → V 32 [(0, .int x), (1, .int y)] [] σ) ∧ (¬ (0 : Int32) = 0 → V 14 [(0, .int x), (1, .int y)] [] σ)
    refine ⟨fun _ => ?_, fun hc => absurd (by decide) hc⟩
    refine zq (σ := σ) hV zQI_0 rfl 2 ?_
    show ((0 : Int32) = 0 ∨ (0 : Int32) = 1) ∧ K (some (.int 0)) σ
    refine ⟨by decide, ?_⟩
    exact h0 (fun q => hb1 q.1)
set_option maxRecDepth 8000 in
set_option maxHeartbeats 4000000 in
theorem isSheet_M {d : Nat} {σ : zSt} {K : Option Value → zSt → Prop} {v : Int32} (h1 : zBt 0 3 v → K (some (.int 1)) σ) (h0 : ¬ zBt 0 3 v → K (some (.int 0)) σ) : zSp (d + 2) mX9_isSheet [.int v] σ K := by
  refine ⟨⟨by decide, Nat.le_of_ble_eq_true rfl⟩, fun V hV => ?_⟩
  refine zq (σ := σ) hV zQI_0 rfl 5 ?_
  show zSp _ 131 [.long (Int32.toInt64 v), .long 0, .long 3] σ (fun r σ' => σ'.2.2.2 = σ.2.2.2 + zAl 131 → V 9 [(0, .int v)] (r.toList ++ []) σ')
  refine in_M (lo := 0) (hi := 3) (by decide) (by decide) (fun hb1 _ => ?_) (fun hb1 _ => ?_)
  · skip
    refine zq (σ := σ) hV zQI_0 rfl 1 ?_
    show ((1 : Int32) = 0 ∨ (1 : Int32) = 1) ∧ K (some (.int 1)) σ
    refine ⟨by decide, ?_⟩
    exact h1 hb1
  · skip
    refine zq (σ := σ) hV zQI_0 rfl 1 ?_
    show ((0 : Int32) = 0 ∨ (0 : Int32) = 1) ∧ K (some (.int 0)) σ
    refine ⟨by decide, ?_⟩
    exact h0 (fun q => hb1 q)
set_option maxRecDepth 8000 in
set_option maxHeartbeats 4000000 in
theorem isStand_M {d : Nat} {σ : zSt} {K : Option Value → zSt → Prop} {e k : Int32} {n : Nat} (hI : zQI (kR 30 52) σ.2.2) (hn : σ.1 30 0 = nI n) (hn10 : n ≤ 10) (h1 : (zBt 0 (n - 1) e ∧ zBt 0 8 k) → K (some (.int 1)) σ) (h0 : ¬ (zBt 0 (n - 1) e ∧ zBt 0 8 k) → K (some (.int 0)) σ) : zSp (d + 2) mX9_isStand [.ref 30, .int e, .int k] σ K := by
  refine ⟨⟨by decide, Nat.le_of_ble_eq_true rfl⟩, fun V hV => ?_⟩
  refine zq (σ := σ) hV hI rfl 9 ?_
  show zSp _ 131 [.long (Int32.toInt64 e), .long 0, .long (Int32.toInt64 ((σ.1 30 0) - 1))] σ (fun r σ' => σ'.2.2.2 = σ.2.2.2 + zAl 131 → V 13 [(0, .ref 30), (1, .int e), (2, .int k)] (r.toList ++ []) σ')
  refine in_M (lo := 0) (hi := ((n : Nat) : Int) - 1) (by decide) (zpm hn (by omega)) (fun hb1 _ => ?_) (fun hb1 _ => ?_)
  · skip
    refine zq (σ := σ) hV hI rfl 1 ?_
    show ((1 : Int32) = 0 → V 32 [(0, .ref 30), (1, .int e), (2, .int k)] [] σ) ∧ (¬ (1 : Int32) = 0 → V 16 [(0, .ref 30), (1, .int e), (2, .int k)] [] σ)
    refine ⟨fun hc => absurd hc (by decide), fun _ => ?_⟩
    refine zq (σ := σ) hV hI rfl 5 ?_
    show zSp _ 131 [.long (Int32.toInt64 k), .long 0, .long 8] σ (fun r σ' => σ'.2.2.2 = σ.2.2.2 + zAl 131 → V 25 [(0, .ref 30), (1, .int e), (2, .int k)] (r.toList ++ []) σ')
    refine in_M (lo := 0) (hi := 8) (by decide) (by decide) (fun hb2 _ => ?_) (fun hb2 _ => ?_)
    · skip
      refine zq (σ := σ) hV hI rfl 1 ?_
      show ((1 : Int32) = 0 → V 32 [(0, .ref 30), (1, .int e), (2, .int k)] [] σ) ∧ (¬ (1 : Int32) = 0 → V 28 [(0, .ref 30), (1, .int e), (2, .int k)] [] σ)
      refine ⟨fun hc => absurd hc (by decide), fun _ => ?_⟩
      refine zq (σ := σ) hV hI rfl 3 ?_
      show ((1 : Int32) = 0 ∨ (1 : Int32) = 1) ∧ K (some (.int 1)) σ
      refine ⟨by decide, ?_⟩
      exact h1 ⟨hb1, hb2⟩
    · skip
      refine zq (σ := σ) hV hI rfl 1 ?_
      show ((0 : Int32) = 0 → V 32 [(0, .ref 30), (1, .int e), (2, .int k)] [] σ) ∧ (¬ (0 : Int32) = 0 → V 28 [(0, .ref 30), (1, .int e), (2, .int k)] [] σ)
      refine ⟨fun _ => ?_, fun hc => absurd (by decide) hc⟩
      refine zq (σ := σ) hV hI rfl 2 ?_
      show ((0 : Int32) = 0 ∨ (0 : Int32) = 1) ∧ K (some (.int 0)) σ
      refine ⟨by decide, ?_⟩
      exact h0 (fun q => hb2 q.2)
  · skip
    refine zq (σ := σ) hV hI rfl 1 ?_
    show ((0 : Int32) = 0 → V 32 [(0, .ref 30), (1, .int e), (2, .int k)] [] σ) ∧ (¬ (0 : Int32) = 0 → V 16 [(0, .ref 30), (1, .int e), (2, .int k)] [] σ)
    refine ⟨fun _ => ?_, fun hc => absurd (by decide) hc⟩
    refine zq (σ := σ) hV hI rfl 2 ?_
    show ((0 : Int32) = 0 ∨ (0 : Int32) = 1) ∧ K (some (.int 0)) σ
    refine ⟨by decide, ?_⟩
    exact h0 (fun q => hb1 q.1)
set_option maxRecDepth 8000 in
set_option maxHeartbeats 4000000 in
theorem isFinger_M {d : Nat} {σ : zSt} {K : Option Value → zSt → Prop} {v : Int32} {m : Nat} (hI : zQI (kR 30 52) σ.2.2) (hs : σ.1 30 5 = nI m) (hm : m ≤ 16) (h1 : zBt 0 (m - 1) v → K (some (.int 1)) σ) (h0 : ¬ zBt 0 (m - 1) v → K (some (.int 0)) σ) : zSp (d + 2) mX9_isFinger [.ref 30, .int v] σ K := by
  refine ⟨⟨by decide, Nat.le_of_ble_eq_true rfl⟩, fun V hV => ?_⟩
  refine zq (σ := σ) hV hI rfl 9 ?_
  show zSp _ 131 [.long (Int32.toInt64 v), .long 0, .long (Int32.toInt64 ((σ.1 30 5) - 1))] σ (fun r σ' => σ'.2.2.2 = σ.2.2.2 + zAl 131 → V 13 [(0, .ref 30), (1, .int v)] (r.toList ++ []) σ')
  refine in_M (lo := 0) (hi := ((m : Nat) : Int) - 1) (by decide) (zpm hs (by omega)) (fun hb1 _ => ?_) (fun hb1 _ => ?_)
  · skip
    refine zq (σ := σ) hV hI rfl 1 ?_
    show ((1 : Int32) = 0 ∨ (1 : Int32) = 1) ∧ K (some (.int 1)) σ
    refine ⟨by decide, ?_⟩
    exact h1 hb1
  · skip
    refine zq (σ := σ) hV hI rfl 1 ?_
    show ((0 : Int32) = 0 ∨ (0 : Int32) = 1) ∧ K (some (.int 0)) σ
    refine ⟨by decide, ?_⟩
    exact h0 (fun q => hb1 q)
set_option maxRecDepth 8000 in
set_option maxHeartbeats 4000000 in
theorem isGrip_M {d : Nat} {σ : zSt} {K : Option Value → zSt → Prop} {v : Int32} {m : Nat} (hI : zQI (kR 30 52) σ.2.2) (hs : σ.1 30 25 = nI m) (hm : m ≤ 16) (h1 : zBt 0 (m - 1) v → K (some (.int 1)) σ) (h0 : ¬ zBt 0 (m - 1) v → K (some (.int 0)) σ) : zSp (d + 2) mX9_isGrip [.ref 30, .int v] σ K := by
  refine ⟨⟨by decide, Nat.le_of_ble_eq_true rfl⟩, fun V hV => ?_⟩
  refine zq (σ := σ) hV hI rfl 9 ?_
  show zSp _ 131 [.long (Int32.toInt64 v), .long 0, .long (Int32.toInt64 ((σ.1 30 25) - 1))] σ (fun r σ' => σ'.2.2.2 = σ.2.2.2 + zAl 131 → V 13 [(0, .ref 30), (1, .int v)] (r.toList ++ []) σ')
  refine in_M (lo := 0) (hi := ((m : Nat) : Int) - 1) (by decide) (zpm hs (by omega)) (fun hb1 _ => ?_) (fun hb1 _ => ?_)
  · skip
    refine zq (σ := σ) hV hI rfl 1 ?_
    show ((1 : Int32) = 0 ∨ (1 : Int32) = 1) ∧ K (some (.int 1)) σ
    refine ⟨by decide, ?_⟩
    exact h1 hb1
  · skip
    refine zq (σ := σ) hV hI rfl 1 ?_
    show ((0 : Int32) = 0 ∨ (0 : Int32) = 1) ∧ K (some (.int 0)) σ
    refine ⟨by decide, ?_⟩
    exact h0 (fun q => hb1 q)
set_option maxRecDepth 8000 in
set_option maxHeartbeats 4000000 in
theorem isDropped_M {d : Nat} {σ : zSt} {K : Option Value → zSt → Prop} {v : Int32} {m : Nat} (hI : zQI (kR 30 52) σ.2.2) (hs : σ.1 30 28 = nI m) (hm : m ≤ 16) (h1 : zBt 0 (m - 1) v → K (some (.int 1)) σ) (h0 : ¬ zBt 0 (m - 1) v → K (some (.int 0)) σ) : zSp (d + 2) mX9_isDropped [.ref 30, .int v] σ K := by
  refine ⟨⟨by decide, Nat.le_of_ble_eq_true rfl⟩, fun V hV => ?_⟩
  refine zq (σ := σ) hV hI rfl 9 ?_
  show zSp _ 131 [.long (Int32.toInt64 v), .long 0, .long (Int32.toInt64 ((σ.1 30 28) - 1))] σ (fun r σ' => σ'.2.2.2 = σ.2.2.2 + zAl 131 → V 13 [(0, .ref 30), (1, .int v)] (r.toList ++ []) σ')
  refine in_M (lo := 0) (hi := ((m : Nat) : Int) - 1) (by decide) (zpm hs (by omega)) (fun hb1 _ => ?_) (fun hb1 _ => ?_)
  · skip
    refine zq (σ := σ) hV hI rfl 1 ?_
    show ((1 : Int32) = 0 ∨ (1 : Int32) = 1) ∧ K (some (.int 1)) σ
    refine ⟨by decide, ?_⟩
    exact h1 hb1
  · skip
    refine zq (σ := σ) hV hI rfl 1 ?_
    show ((0 : Int32) = 0 ∨ (0 : Int32) = 1) ∧ K (some (.int 0)) σ
    refine ⟨by decide, ?_⟩
    exact h0 (fun q => hb1 q)
set_option maxRecDepth 8000 in
set_option maxHeartbeats 4000000 in
theorem met_M {d : Nat} {σ : zSt} {K : Option Value → zSt → Prop} {c : Int32} (hI : zQI (kR 30 52) σ.2.2) (hK : K (some (.int (-10 - c))) (zuI σ 30 35 c)) : zSp (d + 1) mX9_met [.ref 30, .int c] σ K := by
  refine ⟨⟨by decide, Nat.le_of_ble_eq_true rfl⟩, fun V hV => ?_⟩
  refine zq (σ := σ) hV hI rfl 7 ?_
  show K (some (.int ((-10) - c))) (zuI σ 30 35 c)
  exact hK
