variable {zx : Nat × (Nat → Int32)}
set_option maxRecDepth 8000 in
set_option maxHeartbeats 4000000 in
theorem x_ok {d : Nat} {σ : zSt} {K : Option Value → zSt → Prop} {i : Int32} {k : Nat} (hI : zQI (kR 1 4) σ.2.2) (e : i = nI k) (hk : k < 10) (hK : K (some (.int (σ.1 2 k))) σ) : zSp zx (d + 2) mX3_x [.ref 1, .int i] σ K := by
  refine ⟨⟨by decide, Nat.le_of_ble_eq_true rfl⟩, fun V hV => ?_⟩
  subst e
  refine zq (σ := σ) hV hI rfl 4 ?_
  show zSp _ _ 79 [.ref 2, .int (nI k)] σ (fun r σ' => σ'.2.2.2 = σ.2.2.2 + zAl 79 → V 8 [(0, .ref 1), (1, .int (nI k))] (r.toList ++ []) σ')
  refine item_2 (zA_of hI rfl) rfl (by omega) (fun _ => ?_)
  refine zq (σ := σ) hV hI rfl 1 ?_
  show K (some (.int (σ.1 2 k))) σ
  exact hK
set_option maxRecDepth 8000 in
set_option maxHeartbeats 4000000 in
theorem y_ok {d : Nat} {σ : zSt} {K : Option Value → zSt → Prop} {i : Int32} {k : Nat} (hI : zQI (kR 1 4) σ.2.2) (e : i = nI k) (hk : k < 10) (hK : K (some (.int (σ.1 3 k))) σ) : zSp zx (d + 2) mX3_y [.ref 1, .int i] σ K := by
  refine ⟨⟨by decide, Nat.le_of_ble_eq_true rfl⟩, fun V hV => ?_⟩
  subst e
  refine zq (σ := σ) hV hI rfl 4 ?_
  show zSp _ _ 79 [.ref 3, .int (nI k)] σ (fun r σ' => σ'.2.2.2 = σ.2.2.2 + zAl 79 → V 8 [(0, .ref 1), (1, .int (nI k))] (r.toList ++ []) σ')
  refine item_3 (zA_of hI rfl) rfl (by omega) (fun _ => ?_)
  refine zq (σ := σ) hV hI rfl 1 ?_
  show K (some (.int (σ.1 3 k))) σ
  exact hK
set_option maxRecDepth 8000 in
set_option maxHeartbeats 4000000 in
theorem corners_ok {d : Nat} {σ : zSt} {K : Option Value → zSt → Prop} (hI : zQI (kR 1 4) σ.2.2) (hK : K (some (.int (σ.1 1 2))) σ) : zSp zx (d + 1) mX3_corners [.ref 1] σ K := by
  refine ⟨⟨by decide, Nat.le_of_ble_eq_true rfl⟩, fun V hV => ?_⟩
  refine zq (σ := σ) hV hI rfl 3 ?_
  show K (some (.int (σ.1 1 2))) σ
  exact hK
set_option maxRecDepth 8000 in
set_option maxHeartbeats 4000000 in
theorem area_ok {d : Nat} {σ : zSt} {K : Option Value → zSt → Prop} (hI : zQI (kR 1 4) σ.2.2) (hK : K (some (.int (σ.1 1 3))) σ) : zSp zx (d + 1) mX3_area [.ref 1] σ K := by
  refine ⟨⟨by decide, Nat.le_of_ble_eq_true rfl⟩, fun V hV => ?_⟩
  refine zq (σ := σ) hV hI rfl 3 ?_
  show K (some (.int (σ.1 1 3))) σ
  exact hK
set_option maxRecDepth 8000 in
set_option maxHeartbeats 4000000 in
theorem next_ok {d : Nat} {σ : zSt} {K : Option Value → zSt → Prop} {i : Int32} {n k : Nat} (hI : zQI (kR 1 4) σ.2.2) (hn : σ.1 1 2 = nI n) (hn10 : n ≤ 10) (e : i = nI k) (hk : k < n) (hK : K (some (.int (nI (zNx n k)))) σ) : zSp zx (d + 1) mX3_next [.ref 1, .int i] σ K := by
  refine ⟨⟨by decide, Nat.le_of_ble_eq_true rfl⟩, fun V hV => ?_⟩
  subst e
  refine zq (σ := σ) hV hI rfl 6 ?_
  show ((σ.1 1 2) ≤ ((nI k) + 1) → V 16 [(0, .ref 1), (1, .int (nI k))] [] σ) ∧ (¬ (σ.1 1 2) ≤ ((nI k) + 1) → V 10 [(0, .ref 1), (1, .int (nI k))] [] σ)
  refine ⟨fun h_7 => ?_, fun h_7 => ?_⟩
  · skip
    refine zq (σ := σ) hV hI rfl 2 ?_
    show K (some (.int 0)) σ
    rw [hn, nI_1, nI_leI (by omega) (by omega)] at h_7
    have e : zNx n k = 0 := by unfold zNx; rw [if_neg (by omega)]
    rw [e] at hK
    exact hK
  · skip
    refine zq (σ := σ) hV hI rfl 5 ?_
    show K (some (.int ((nI k) + 1))) σ
    rw [hn, nI_1, nI_leI (by omega) (by omega)] at h_7
    have e : zNx n k = k + 1 := by unfold zNx; rw [if_pos (by omega)]
    rw [e] at hK
    rw [nI_1]
    exact hK
set_option maxRecDepth 8000 in
set_option maxHeartbeats 4000000 in
theorem dx_ok {d : Nat} {σ : zSt} {K : Option Value → zSt → Prop} {i : Int32} {n k : Nat} (hI : zQI (kR 1 4) σ.2.2) (hn : σ.1 1 2 = nI n) (hn10 : n ≤ 10) (e : i = nI k) (hk : k < n) (hK : K (some (.int (σ.1 2 (zNx n k) - σ.1 2 k))) σ) : zSp zx (d + 2) mX3_dx [.ref 1, .int i] σ K := by
  refine ⟨⟨by decide, Nat.le_of_ble_eq_true rfl⟩, fun V hV => ?_⟩
  subst e
  have hj := zNx_lt hk
  refine zq (σ := σ) hV hI rfl 5 ?_
  show zSp _ _ 20 [.ref 1, .int (nI k)] σ (fun r σ' => σ'.2.2.2 = σ.2.2.2 + zAl 20 → V 9 [(0, .ref 1), (1, .int (nI k))] (r.toList ++ [.ref 2]) σ')
  refine next_ok (zR_of hI rfl rfl) hn (by omega) rfl (by omega) (fun _ => ?_)
  refine zq (σ := σ) hV hI rfl 1 ?_
  show zSp _ _ 79 [.ref 2, .int (nI (zNx n k))] σ (fun r σ' => σ'.2.2.2 = σ.2.2.2 + zAl 79 → V 12 [(0, .ref 1), (1, .int (nI k))] (r.toList ++ []) σ')
  refine item_2 (zA_of hI rfl) rfl (by omega) (fun _ => ?_)
  refine zq (σ := σ) hV hI rfl 4 ?_
  show zSp _ _ 79 [.ref 2, .int (nI k)] σ (fun r σ' => σ'.2.2.2 = σ.2.2.2 + zAl 79 → V 20 [(0, .ref 1), (1, .int (nI k))] (r.toList ++ [.int (σ.1 2 (zNx n k))]) σ')
  refine item_2 (zA_of hI rfl) rfl (by omega) (fun _ => ?_)
  refine zq (σ := σ) hV hI rfl 2 ?_
  show K (some (.int ((σ.1 2 (zNx n k)) - (σ.1 2 k)))) σ
  exact hK
set_option maxRecDepth 8000 in
set_option maxHeartbeats 4000000 in
theorem dy_ok {d : Nat} {σ : zSt} {K : Option Value → zSt → Prop} {i : Int32} {n k : Nat} (hI : zQI (kR 1 4) σ.2.2) (hn : σ.1 1 2 = nI n) (hn10 : n ≤ 10) (e : i = nI k) (hk : k < n) (hK : K (some (.int (σ.1 3 (zNx n k) - σ.1 3 k))) σ) : zSp zx (d + 2) mX3_dy [.ref 1, .int i] σ K := by
  refine ⟨⟨by decide, Nat.le_of_ble_eq_true rfl⟩, fun V hV => ?_⟩
  subst e
  have hj := zNx_lt hk
  refine zq (σ := σ) hV hI rfl 5 ?_
  show zSp _ _ 20 [.ref 1, .int (nI k)] σ (fun r σ' => σ'.2.2.2 = σ.2.2.2 + zAl 20 → V 9 [(0, .ref 1), (1, .int (nI k))] (r.toList ++ [.ref 3]) σ')
  refine next_ok (zR_of hI rfl rfl) hn (by omega) rfl (by omega) (fun _ => ?_)
  refine zq (σ := σ) hV hI rfl 1 ?_
  show zSp _ _ 79 [.ref 3, .int (nI (zNx n k))] σ (fun r σ' => σ'.2.2.2 = σ.2.2.2 + zAl 79 → V 12 [(0, .ref 1), (1, .int (nI k))] (r.toList ++ []) σ')
  refine item_3 (zA_of hI rfl) rfl (by omega) (fun _ => ?_)
  refine zq (σ := σ) hV hI rfl 4 ?_
  show zSp _ _ 79 [.ref 3, .int (nI k)] σ (fun r σ' => σ'.2.2.2 = σ.2.2.2 + zAl 79 → V 20 [(0, .ref 1), (1, .int (nI k))] (r.toList ++ [.int (σ.1 3 (zNx n k))]) σ')
  refine item_3 (zA_of hI rfl) rfl (by omega) (fun _ => ?_)
  refine zq (σ := σ) hV hI rfl 2 ?_
  show K (some (.int ((σ.1 3 (zNx n k)) - (σ.1 3 k)))) σ
  exact hK
set_option maxRecDepth 8000 in
set_option maxHeartbeats 4000000 in
theorem setCorner_ok {d : Nat} {σ : zSt} {K : Option Value → zSt → Prop} {i x y : Int32} {k : Nat} (hI : zQI (kR 1 4) σ.2.2) (e : i = nI k) (hk : k < 10) (hK : K none (zuI (zuI σ 2 k x) 3 k y)) : zSp zx (d + 2) mX3_setCorner [.ref 1, .int i, .int x, .int y] σ K := by
  refine ⟨⟨by decide, Nat.le_of_ble_eq_true rfl⟩, fun V hV => ?_⟩
  subst e
  refine zq (σ := σ) hV hI rfl 5 ?_
  show zSp _ _ 80 [.ref 2, .int (nI k), .int x] σ (fun r σ' => σ'.2.2.2 = σ.2.2.2 + zAl 80 → V 9 [(0, .ref 1), (1, .int (nI k)), (2, .int x), (3, .int y)] (r.toList ++ []) σ')
  refine setItem_2 (zA_of hI rfl) rfl (by omega) (fun _ => ?_)
  refine zq (σ := (zuI σ 2 k x)) hV hI rfl 5 ?_
  show zSp _ _ 80 [.ref 3, .int (nI k), .int y] (zuI σ 2 k x) (fun r σ' => σ'.2.2.2 = (zuI σ 2 k x).2.2.2 + zAl 80 → V 18 [(0, .ref 1), (1, .int (nI k)), (2, .int x), (3, .int y)] (r.toList ++ []) σ')
  refine setItem_3 (zA_of hI rfl) rfl (by omega) (fun _ => ?_)
  refine zq (σ := (zuI (zuI σ 2 k x) 3 k y)) hV hI rfl 1 ?_
  show K none (zuI (zuI σ 2 k x) 3 k y)
  exact hK
