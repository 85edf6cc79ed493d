set_option maxRecDepth 8000 in
set_option maxHeartbeats 4000000 in
theorem finger_C {d : Nat} {σ : zSt} {K : Option Value → zSt → Prop} {e k : Int32} {n m : Nat} (hI : zQI (kR 0 30) σ.2.2) (hn : σ.1 1 2 = nI n) (hn10 : n ≤ 10) (hs : σ.1 4 2 = nI m) (hm : m ≤ 8) (hBad : ¬ (zBt 0 (n - 1) e ∧ zBt 0 8 k) → K (some (.int (-2))) σ) (hFull : (zBt 0 (n - 1) e ∧ zBt 0 8 k) → m = 8 → K (some (.int (-4))) σ) (hOk : (zBt 0 (n - 1) e ∧ zBt 0 8 k) → m < 8 → K (some (.int (nI m))) (zuI (zuI (zuI σ 5 m e) 6 m k) 4 2 (nI (m + 1)))) : zSp (d + 4) mX8_finger [.ref 0, .int e, .int k] σ K := by
  refine ⟨⟨by decide, Nat.le_of_ble_eq_true rfl⟩, fun V hV => ?_⟩
  have hmi := nI_toInt (show m < 2 ^ 31 by omega)
  refine zq (σ := σ) hV hI rfl 4 ?_
  show zSp _ 124 [.ref 0, .int e, .int k] σ (fun r σ' => σ'.2.2.2 = σ.2.2.2 + zAl 124 → V 6 [(0, .ref 0), (1, .int e), (2, .int k)] (r.toList ++ []) σ')
  refine isStand_ok (zR_of hI rfl rfl) hn (by omega) (fun hb1 _ => ?_) (fun hb1 _ => ?_)
  · skip
    refine zq (σ := σ) hV hI rfl 1 ?_
    show (¬ (1 : Int32) = 0 → V 12 [(0, .ref 0), (1, .int e), (2, .int k)] [] σ) ∧ (¬ (¬ (1 : Int32) = 0) → V 9 [(0, .ref 0), (1, .int e), (2, .int k)] [] σ)
    refine ⟨fun _ => ?_, fun hc => absurd (by decide) hc⟩
    refine zq (σ := σ) hV hI rfl 3 ?_
    show zSp _ 17 [.ref 4] σ (fun r σ' => σ'.2.2.2 = σ.2.2.2 + zAl 17 → V 19 [(0, .ref 0), (1, .int e), (2, .int k)] (r.toList ++ []) σ')
    refine hsize_4 (zR_of hI rfl rfl) (fun _ => ?_)
    refine zq (σ := σ) hV hI rfl 2 ?_
    show ((σ.1 4 2) < 8 → V 27 [(0, .ref 0), (1, .int e), (2, .int k)] [] σ) ∧ (¬ (σ.1 4 2) < 8 → V 24 [(0, .ref 0), (1, .int e), (2, .int k)] [] σ)
    refine ⟨fun h_21 => ?_, fun h_21 => ?_⟩
    · skip
      have h8 : m < 8 := by
        simp only [zlt, hs, hmi] at h_21
        simp at h_21
        omega
      refine zq (σ := σ) hV hI rfl 5 ?_
      show zSp _ 21 [.ref 4, .int e, .int k] σ (fun r σ' => σ'.2.2.2 = σ.2.2.2 + zAl 21 → V 36 [(0, .ref 0), (1, .int e), (2, .int k)] (r.toList ++ []) σ')
      refine hadd_4 (zR_of hI rfl rfl) (m := m) hs (by omega) (fun _ => ?_)
      refine zq (σ := (zuI (zuI (zuI σ 5 m e) 6 m k) 4 2 (nI (m + 1)))) hV hI rfl 3 ?_
      show zSp _ 17 [.ref 4] (zuI (zuI (zuI σ 5 m e) 6 m k) 4 2 (nI (m + 1))) (fun r σ' => σ'.2.2.2 = (zuI (zuI (zuI σ 5 m e) 6 m k) 4 2 (nI (m + 1))).2.2.2 + zAl 17 → V 43 [(0, .ref 0), (1, .int e), (2, .int k)] (r.toList ++ []) σ')
      refine hsize_4 (zR_of hI rfl rfl) (fun _ => ?_)
      refine zq (σ := (zuI (zuI (zuI σ 5 m e) 6 m k) 4 2 (nI (m + 1)))) hV hI rfl 3 ?_
      show K (some (.int ((nI (m + 1)) - 1))) (zuI (zuI (zuI σ 5 m e) 6 m k) 4 2 (nI (m + 1)))
      rw [nI_pred]
      exact hOk hb1 h8
    · skip
      refine zq (σ := σ) hV hI rfl 2 ?_
      show K (some (.int (-4))) σ
      refine hFull hb1 ?_
      simp only [zlt, hs, hmi] at h_21
      simp at h_21
      omega
  · skip
    refine zq (σ := σ) hV hI rfl 1 ?_
    show (¬ (0 : Int32) = 0 → V 12 [(0, .ref 0), (1, .int e), (2, .int k)] [] σ) ∧ (¬ (¬ (0 : Int32) = 0) → V 9 [(0, .ref 0), (1, .int e), (2, .int k)] [] σ)
    refine ⟨fun hc => absurd hc (by decide), fun _ => ?_⟩
    refine zq (σ := σ) hV hI rfl 2 ?_
    show K (some (.int (-2))) σ
    exact hBad hb1
set_option maxRecDepth 8000 in
set_option maxHeartbeats 4000000 in
theorem move_C {d : Nat} {σ : zSt} {K : Option Value → zSt → Prop} {v e k : Int32} {n m : Nat} (hI : zQI (kR 0 30) σ.2.2) (hn : σ.1 1 2 = nI n) (hn10 : n ≤ 10) (hs : σ.1 4 2 = nI m) (hm : m ≤ 8) (hBad : ¬ (zBt 0 (m - 1) v ∧ (zBt 0 (n - 1) e ∧ zBt 0 8 k)) → K (some (.int (-2))) σ) (hOk : ∀ j, v = nI j → j < m → (zBt 0 (n - 1) e ∧ zBt 0 8 k) → K (some (.int 1)) (zuI (zuI σ 5 j e) 6 j k)) : zSp (d + 3) mX8_move [.ref 0, .int v, .int e, .int k] σ K := by
  refine ⟨⟨by decide, Nat.le_of_ble_eq_true rfl⟩, fun V hV => ?_⟩
  refine zq (σ := σ) hV hI rfl 3 ?_
  show zSp _ 125 [.ref 0, .int v] σ (fun r σ' => σ'.2.2.2 = σ.2.2.2 + zAl 125 → V 5 [(0, .ref 0), (1, .int v), (2, .int e), (3, .int k)] (r.toList ++ []) σ')
  refine isFinger_ok (zR_of hI rfl rfl) hs (by omega) (fun hb1 _ => ?_) (fun hb1 _ => ?_)
  · skip
    refine zq (σ := σ) hV hI rfl 1 ?_
    show ((1 : Int32) = 0 → V 17 [(0, .ref 0), (1, .int v), (2, .int e), (3, .int k)] [] σ) ∧ (¬ (1 : Int32) = 0 → V 8 [(0, .ref 0), (1, .int v), (2, .int e), (3, .int k)] [] σ)
    refine ⟨fun hc => absurd hc (by decide), fun _ => ?_⟩
    refine zq (σ := σ) hV hI rfl 4 ?_
    show zSp _ 124 [.ref 0, .int e, .int k] σ (fun r σ' => σ'.2.2.2 = σ.2.2.2 + zAl 124 → V 14 [(0, .ref 0), (1, .int v), (2, .int e), (3, .int k)] (r.toList ++ []) σ')
    refine isStand_ok (zR_of hI rfl rfl) hn (by omega) (fun hb2 _ => ?_) (fun hb2 _ => ?_)
    · skip
      refine zq (σ := σ) hV hI rfl 1 ?_
      show (¬ (1 : Int32) = 0 → V 20 [(0, .ref 0), (1, .int v), (2, .int e), (3, .int k)] [] σ) ∧ (¬ (¬ (1 : Int32) = 0) → V 17 [(0, .ref 0), (1, .int v), (2, .int e), (3, .int k)] [] σ)
      refine ⟨fun _ => ?_, fun hc => absurd (by decide) hc⟩
      refine zq (σ := σ) hV hI rfl 6 ?_
      show zSp _ 22 [.ref 4, .int v, .int e, .int k] σ (fun r σ' => σ'.2.2.2 = σ.2.2.2 + zAl 22 → V 30 [(0, .ref 0), (1, .int v), (2, .int e), (3, .int k)] (r.toList ++ []) σ')
      obtain ⟨j, hj, hj2, _⟩ := zNat (x := v) (by unfold zBt at hb1; omega)
      have hjm : j < m := by unfold zBt at hb1; omega
      refine hstand_4 (zR_of hI rfl rfl) hj (by omega) (fun _ => ?_)
      refine zq (σ := (zuI (zuI σ 5 j e) 6 j k)) hV hI rfl 2 ?_
      show K (some (.int 1)) (zuI (zuI σ 5 j e) 6 j k)
      exact hOk j hj hjm hb2
    · skip
      refine zq (σ := σ) hV hI rfl 1 ?_
      show (¬ (0 : Int32) = 0 → V 20 [(0, .ref 0), (1, .int v), (2, .int e), (3, .int k)] [] σ) ∧ (¬ (¬ (0 : Int32) = 0) → V 17 [(0, .ref 0), (1, .int v), (2, .int e), (3, .int k)] [] σ)
      refine ⟨fun hc => absurd hc (by decide), fun _ => ?_⟩
      refine zq (σ := σ) hV hI rfl 2 ?_
      show K (some (.int (-2))) σ
      exact hBad (fun q => hb2 q.2)
  · skip
    refine zq (σ := σ) hV hI rfl 1 ?_
    show ((0 : Int32) = 0 → V 17 [(0, .ref 0), (1, .int v), (2, .int e), (3, .int k)] [] σ) ∧ (¬ (0 : Int32) = 0 → V 8 [(0, .ref 0), (1, .int v), (2, .int e), (3, .int k)] [] σ)
    refine ⟨fun _ => ?_, fun hc => absurd (by decide) hc⟩
    refine zq (σ := σ) hV hI rfl 2 ?_
    show K (some (.int (-2))) σ
    exact hBad (fun q => hb1 q.1)
set_option maxRecDepth 8000 in
set_option maxHeartbeats 4000000 in
theorem release_C {d : Nat} {σ : zSt} {K : Option Value → zSt → Prop} (hI : zQI (kR 0 30) σ.2.2) (hK : K (some (.int (σ.1 4 2))) (zuI σ 4 2 0)) : zSp (d + 2) mX8_release [.ref 0] σ K := by
  refine ⟨⟨by decide, Nat.le_of_ble_eq_true rfl⟩, fun V hV => ?_⟩
  refine zq (σ := σ) hV hI rfl 3 ?_
  show zSp _ 17 [.ref 4] σ (fun r σ' => σ'.2.2.2 = σ.2.2.2 + zAl 17 → V 7 [(0, .ref 0)] (r.toList ++ []) σ')
  refine hsize_4 (zR_of hI rfl rfl) (fun _ => ?_)
  refine zq (σ := σ) hV hI rfl 4 ?_
  show zSp _ 20 [.ref 4] σ (fun r σ' => σ'.2.2.2 = σ.2.2.2 + zAl 20 → V 15 [(1, .int (σ.1 4 2)), (0, .ref 0)] (r.toList ++ []) σ')
  refine hclear_4 (zR_of hI rfl rfl) (fun _ => ?_)
  refine zq (σ := (zuI σ 4 2 0)) hV hI rfl 2 ?_
  show K (some (.int (σ.1 4 2))) (zuI σ 4 2 0)
  exact hK
set_option maxRecDepth 8000 in
set_option maxHeartbeats 4000000 in
theorem friction_C {d : Nat} {σ : zSt} {K : Option Value → zSt → Prop} {f : Int32} (hI : zQI (kR 0 30) σ.2.2) (hBad : ¬ zBt 0 16 f → K (some (.int (-2))) σ) (hOk : zBt 0 16 f → K (some (.int (σ.1 0 9))) (zuI σ 0 9 f)) : zSp (d + 1) mX8_friction [.ref 0, .int f] σ K := by
  refine ⟨⟨by decide, Nat.le_of_ble_eq_true rfl⟩, fun V hV => ?_⟩
  refine zq (σ := σ) hV hI rfl 2 ?_
  show (f < 0 → V 10 [(0, .ref 0), (1, .int f)] [] σ) ∧ (¬ f < 0 → V 4 [(0, .ref 0), (1, .int f)] [] σ)
  refine ⟨fun h_1 => ?_, fun h_1 => ?_⟩
  · skip
    refine zq (σ := σ) hV hI rfl 2 ?_
    show K (some (.int (-2))) σ
    exact hBad (by
      simp only [zlt, zle] at h_1
      unfold zBt
      simp at h_1 ⊢
      omega)
  · skip
    refine zq (σ := σ) hV hI rfl 3 ?_
    show (f ≤ 16 → V 13 [(0, .ref 0), (1, .int f)] [] σ) ∧ (¬ f ≤ 16 → V 10 [(0, .ref 0), (1, .int f)] [] σ)
    refine ⟨fun h_7 => ?_, fun h_7 => ?_⟩
    · skip
      refine zq (σ := σ) hV hI rfl 8 ?_
      show K (some (.int (σ.1 0 9))) (zuI σ 0 9 f)
      exact hOk (by
        simp only [zlt, zle] at h_1 h_7
        unfold zBt
        simp at h_1 h_7 ⊢
        omega)
    · skip
      refine zq (σ := σ) hV hI rfl 2 ?_
      show K (some (.int (-2))) σ
      exact hBad (by
        simp only [zlt, zle] at h_1 h_7
        unfold zBt
        simp at h_1 h_7 ⊢
        omega)
set_option maxRecDepth 8000 in
set_option maxHeartbeats 4000000 in
theorem corner_C {d : Nat} {σ : zSt} {K : Option Value → zSt → Prop} {i what : Int32} {n : Nat} (hI : zQI (kR 0 30) σ.2.2) (hn : σ.1 1 2 = nI n) (hn10 : n ≤ 10) (hBad : ¬ (zBt 0 (n - 1) i ∧ zBt 0 1 what) → K (some (.int (-1000))) σ) (hOk : ∀ k, i = nI k → k < n → zBt 0 (n - 1) i ∧ zBt 0 1 what → K (some (.int (if what = 0 then σ.1 2 k else σ.1 3 k))) σ) : zSp (d + 3) mX8_corner [.ref 0, .int i, .int what] σ K := by
  refine ⟨⟨by decide, Nat.le_of_ble_eq_true rfl⟩, fun V hV => ?_⟩
  have hni := nI_toInt (show n < 2 ^ 31 by omega)
  refine zq (σ := σ) hV hI rfl 2 ?_
  show (i < 0 → V 24 [(0, .ref 0), (1, .int i), (2, .int what)] [] σ) ∧ (¬ i < 0 → V 4 [(0, .ref 0), (1, .int i), (2, .int what)] [] σ)
  refine ⟨fun h_1 => ?_, fun h_1 => ?_⟩
  · skip
    refine zq (σ := σ) hV hI rfl 2 ?_
    show K (some (.int (-1000))) σ
    refine hBad (fun q => ?_)
    unfold zBt at q
    simp only [zlt, zle, hn, hni] at h_1
    simp at h_1 q
    omega
  · skip
    refine zq (σ := σ) hV hI rfl 4 ?_
    show zSp _ 27 [.ref 1] σ (fun r σ' => σ'.2.2.2 = σ.2.2.2 + zAl 27 → V 12 [(0, .ref 0), (1, .int i), (2, .int what)] (r.toList ++ [.int i]) σ')
    refine corners_ok (zR_of hI rfl rfl) (fun _ => ?_)
    refine zq (σ := σ) hV hI rfl 1 ?_
    show ((σ.1 1 2) ≤ i → V 24 [(0, .ref 0), (1, .int i), (2, .int what)] [] σ) ∧ (¬ (σ.1 1 2) ≤ i → V 15 [(0, .ref 0), (1, .int i), (2, .int what)] [] σ)
    refine ⟨fun h_12 => ?_, fun h_12 => ?_⟩
    · skip
      refine zq (σ := σ) hV hI rfl 2 ?_
      show K (some (.int (-1000))) σ
      refine hBad (fun q => ?_)
      unfold zBt at q
      simp only [zlt, zle, hn, hni] at h_1 h_12
      simp at h_1 h_12 q
      omega
    · skip
      refine zq (σ := σ) hV hI rfl 2 ?_
      show (what < 0 → V 24 [(0, .ref 0), (1, .int i), (2, .int what)] [] σ) ∧ (¬ what < 0 → V 19 [(0, .ref 0), (1, .int i), (2, .int what)] [] σ)
      refine ⟨fun h_16 => ?_, fun h_16 => ?_⟩
      · skip
        refine zq (σ := σ) hV hI rfl 2 ?_
        show K (some (.int (-1000))) σ
        refine hBad (fun q => ?_)
        unfold zBt at q
        simp only [zlt, zle, hn, hni] at h_1 h_12 h_16
        simp at h_1 h_12 h_16 q
        omega
      · skip
        refine zq (σ := σ) hV hI rfl 3 ?_
        show (what ≤ 1 → V 28 [(0, .ref 0), (1, .int i), (2, .int what)] [] σ) ∧ (¬ what ≤ 1 → V 24 [(0, .ref 0), (1, .int i), (2, .int what)] [] σ)
        refine ⟨fun h_21 => ?_, fun h_21 => ?_⟩
        · skip
          refine zq (σ := σ) hV hI rfl 2 ?_
          show (¬ what = 0 → V 43 [(0, .ref 0), (1, .int i), (2, .int what)] [] σ) ∧ (¬ (¬ what = 0) → V 32 [(0, .ref 0), (1, .int i), (2, .int what)] [] σ)
          refine ⟨fun h_29 => ?_, fun h_29 => ?_⟩
          · skip
            refine zq (σ := σ) hV hI rfl 4 ?_
            show zSp _ 32 [.ref 1, .int i] σ (fun r σ' => σ'.2.2.2 = σ.2.2.2 + zAl 32 → V 51 [(0, .ref 0), (1, .int i), (2, .int what)] (r.toList ++ []) σ')
            obtain ⟨k, hk, hk2, _⟩ := zNat (x := i) (by simp only [zlt] at h_1; simp at h_1; omega)
            have hkn : k < n := by simp only [zle, hn, hni] at h_12; omega
            refine y_ok (zR_of hI rfl rfl) hk (by omega) (fun _ => ?_)
            refine zq (σ := σ) hV hI rfl 1 ?_
            show K (some (.int (σ.1 3 k))) σ
            have hv : zBt 0 (n - 1) i ∧ zBt 0 1 what := by
              unfold zBt
              simp only [zlt, zle, hn, hni] at h_1 h_12 h_16 h_21
              simp at h_1 h_12 h_16 h_21 ⊢
              omega
            have := hOk k hk hkn hv
            first | (rw [if_pos h_29] at this; exact this) | (rw [if_neg h_29] at this; exact this)
          · skip
            have h_29 := Classical.not_not.mp h_29
            refine zq (σ := σ) hV hI rfl 4 ?_
            show zSp _ 31 [.ref 1, .int i] σ (fun r σ' => σ'.2.2.2 = σ.2.2.2 + zAl 31 → V 40 [(0, .ref 0), (1, .int i), (2, .int what)] (r.toList ++ []) σ')
            obtain ⟨k, hk, hk2, _⟩ := zNat (x := i) (by simp only [zlt] at h_1; simp at h_1; omega)
            have hkn : k < n := by simp only [zle, hn, hni] at h_12; omega
            refine x_ok (zR_of hI rfl rfl) hk (by omega) (fun _ => ?_)
            refine zq (σ := σ) hV hI rfl 2 ?_
            show K (some (.int (σ.1 2 k))) σ
            have hv : zBt 0 (n - 1) i ∧ zBt 0 1 what := by
              unfold zBt
              simp only [zlt, zle, hn, hni] at h_1 h_12 h_16 h_21
              simp at h_1 h_12 h_16 h_21 ⊢
              omega
            have := hOk k hk hkn hv
            first | (rw [if_pos h_29] at this; exact this) | (rw [if_neg h_29] at this; exact this)
        · skip
          refine zq (σ := σ) hV hI rfl 2 ?_
          show K (some (.int (-1000))) σ
          refine hBad (fun q => ?_)
          unfold zBt at q
          simp only [zlt, zle, hn, hni] at h_1 h_12 h_16 h_21
          simp at h_1 h_12 h_16 h_21 q
          omega
set_option maxRecDepth 8000 in
set_option maxHeartbeats 4000000 in
theorem middle_C {d : Nat} {σ : zSt} {K : Option Value → zSt → Prop} {what : Int32} (hI : zQI (kR 0 30) σ.2.2) (hBad : ¬ zBt 0 2 what → K (some (.int (-1000000))) σ) (h0 : what = 0 → K (some (.int (σ.1 1 3))) σ) (h1 : what = 1 → K (some (.int (σ.1 1 4))) σ) (h2 : what = 2 → K (some (.int (σ.1 1 5))) σ) : zSp (d + 2) mX8_middle [.ref 0, .int what] σ K := by
  refine ⟨⟨by decide, Nat.le_of_ble_eq_true rfl⟩, fun V hV => ?_⟩
  refine zq (σ := σ) hV hI rfl 2 ?_
  show ((Int32.toInt what < 0 ∨ 2 < Int32.toInt what) → V 52 [(0, .ref 0), (1, .int what)] [] σ) ∧ ((¬ Int32.toInt what < 0 ∧ ¬ 2 < Int32.toInt what) → ∃ off, (#[27, 35, 43] : Array Int)[(Int32.toInt what - 0).toNat]? = some off ∧ 0 ≤ ((1 : Nat) : Int) + off ∧ V (ztg 1 off) [(0, .ref 0), (1, .int what)] [] σ)
  refine ⟨fun hsw => ?_, fun hsw => ?_⟩
  · skip
    refine zq (σ := σ) hV hI rfl 2 ?_
    show K (some (.int (-1000000))) σ
    exact hBad (by unfold zBt; omega)
  · skip
    rcases (show Int32.toInt what = 0 ∨ Int32.toInt what = 1 ∨ Int32.toInt what = 2 by omega) with hx | hx | hx
    · skip
      refine ⟨27, by rw [hx]; rfl, by decide, ?_⟩
      show V 28 [(0, .ref 0), (1, .int what)] [] σ
      refine zq (σ := σ) hV hI rfl 3 ?_
      show zSp _ 28 [.ref 1] σ (fun r σ' => σ'.2.2.2 = σ.2.2.2 + zAl 28 → V 35 [(0, .ref 0), (1, .int what)] (r.toList ++ []) σ')
      refine area_ok (zR_of hI rfl rfl) (fun _ => ?_)
      refine zq (σ := σ) hV hI rfl 1 ?_
      show K (some (.int (σ.1 1 3))) σ
      exact h0 (by rw [zeq, hx]; rfl)
    · skip
      refine ⟨35, by rw [hx]; rfl, by decide, ?_⟩
      show V 36 [(0, .ref 0), (1, .int what)] [] σ
      refine zq (σ := σ) hV hI rfl 3 ?_
      show zSp _ 29 [.ref 1] σ (fun r σ' => σ'.2.2.2 = σ.2.2.2 + zAl 29 → V 43 [(0, .ref 0), (1, .int what)] (r.toList ++ []) σ')
      refine momentX_ok (zR_of hI rfl rfl) (fun _ => ?_)
      refine zq (σ := σ) hV hI rfl 1 ?_
      show K (some (.int (σ.1 1 4))) σ
      exact h1 (by rw [zeq, hx]; rfl)
    · skip
      refine ⟨43, by rw [hx]; rfl, by decide, ?_⟩
      show V 44 [(0, .ref 0), (1, .int what)] [] σ
      refine zq (σ := σ) hV hI rfl 3 ?_
      show zSp _ 30 [.ref 1] σ (fun r σ' => σ'.2.2.2 = σ.2.2.2 + zAl 30 → V 51 [(0, .ref 0), (1, .int what)] (r.toList ++ []) σ')
      refine momentY_ok (zR_of hI rfl rfl) (fun _ => ?_)
      refine zq (σ := σ) hV hI rfl 1 ?_
      show K (some (.int (σ.1 1 5))) σ
      exact h2 (by rw [zeq, hx]; rfl)
set_option maxRecDepth 8000 in
set_option maxHeartbeats 4000000 in
theorem isIn_C {d : Nat} {σ : zSt} {K : Option Value → zSt → Prop} {x y : Int32} {n : Nat} (hI : zQI (kR 0 30) σ.2.2) (hn : σ.1 1 2 = nI n) (hn10 : n ≤ 10) (hBad : ¬ (zBt (-1000) 1000 x ∧ zBt (-1000) 1000 y) → K (some (.int (-2))) σ) (hOk : (zBt (-1000) 1000 x ∧ zBt (-1000) 1000 y) → K (some (.int (zSide n (σ.1 2) (σ.1 3) x y))) σ) : zSp (d + 4) mX8_isIn [.ref 0, .int x, .int y] σ K := by
  refine ⟨⟨by decide, Nat.le_of_ble_eq_true rfl⟩, fun V hV => ?_⟩
  refine zq (σ := σ) hV hI rfl 3 ?_
  show zSp _ 119 [.int x, .int y] σ (fun r σ' => σ'.2.2.2 = σ.2.2.2 + zAl 119 → V 5 [(0, .ref 0), (1, .int x), (2, .int y)] (r.toList ++ []) σ')
  refine isPlace_ok (fun hb1 _ => ?_) (fun hb1 _ => ?_)
  · skip
    refine zq (σ := σ) hV hI rfl 1 ?_
    show ((1 : Int32) = 0 → V 20 [(0, .ref 0), (1, .int x), (2, .int y)] [] σ) ∧ (¬ (1 : Int32) = 0 → V 8 [(0, .ref 0), (1, .int x), (2, .int y)] [] σ)
    refine ⟨fun hc => absurd hc (by decide), fun _ => ?_⟩
    refine zq (σ := σ) hV hI rfl 5 ?_
    show zSp _ 36 [.ref 1, .int x, .int y] σ (fun r σ' => σ'.2.2.2 = σ.2.2.2 + zAl 36 → V 17 [(0, .ref 0), (1, .int x), (2, .int y)] (r.toList ++ []) σ')
    refine side_ok (zR_of hI rfl rfl) hn hn10 (fun _ => ?_)
    refine zq (σ := σ) hV hI rfl 2 ?_
    show K (some (.int (zSide n (σ.1 2) (σ.1 3) x y))) σ
    exact hOk hb1
  · skip
    refine zq (σ := σ) hV hI rfl 1 ?_
    show ((0 : Int32) = 0 → V 20 [(0, .ref 0), (1, .int x), (2, .int y)] [] σ) ∧ (¬ (0 : Int32) = 0 → V 8 [(0, .ref 0), (1, .int x), (2, .int y)] [] σ)
    refine ⟨fun _ => ?_, fun hc => absurd (by decide) hc⟩
    refine zq (σ := σ) hV hI rfl 2 ?_
    show K (some (.int (-2))) σ
    exact hBad hb1
set_option maxRecDepth 8000 in
set_option maxHeartbeats 4000000 in
theorem lifts_C {d : Nat} {σ : zSt} {K : Option Value → zSt → Prop} {x y w s : Int32} {n : Nat} (hI : zQI (kR 0 30) σ.2.2) (hn : σ.1 1 2 = nI n) (hn10 : n ≤ 10) (hBad : ¬ (zBt (-1000) 1000 x ∧ zBt (-1000) 1000 y ∧ zBt 1 20 w ∧ zBt 0 100000 s) → K (some (.int (-2))) σ) (h1 : (zBt (-1000) 1000 x ∧ zBt (-1000) 1000 y ∧ zBt 1 20 w ∧ zBt 0 100000 s) → ¬ zSide n (σ.1 2) (σ.1 3) x y = 0 → zSld (σ.1 1 3) (zPull (σ.1 1 3) (σ.1 1 4) (σ.1 1 5) x y w) s → K (some (.int 1)) σ) (h0 : (zBt (-1000) 1000 x ∧ zBt (-1000) 1000 y ∧ zBt 1 20 w ∧ zBt 0 100000 s) → ¬ (¬ zSide n (σ.1 2) (σ.1 3) x y = 0 ∧ zSld (σ.1 1 3) (zPull (σ.1 1 3) (σ.1 1 4) (σ.1 1 5) x y w) s) → K (some (.int 0)) σ) : zSp (d + 4) mX8_lifts [.ref 0, .int x, .int y, .int w, .int s] σ K := by
  refine ⟨⟨by decide, Nat.le_of_ble_eq_true rfl⟩, fun V hV => ?_⟩
  refine zq (σ := σ) hV hI rfl 3 ?_
  show zSp _ 119 [.int x, .int y] σ (fun r σ' => σ'.2.2.2 = σ.2.2.2 + zAl 119 → V 5 [(0, .ref 0), (1, .int x), (2, .int y), (3, .int w), (4, .int s)] (r.toList ++ []) σ')
  refine isPlace_ok (fun hb1 _ => ?_) (fun hb1 _ => ?_)
  · skip
    refine zq (σ := σ) hV hI rfl 1 ?_
    show ((1 : Int32) = 0 → V 27 [(0, .ref 0), (1, .int x), (2, .int y), (3, .int w), (4, .int s)] [] σ) ∧ (¬ (1 : Int32) = 0 → V 8 [(0, .ref 0), (1, .int x), (2, .int y), (3, .int w), (4, .int s)] [] σ)
    refine ⟨fun hc => absurd hc (by decide), fun _ => ?_⟩
    refine zq (σ := σ) hV hI rfl 2 ?_
    show zSp _ 120 [.int w] σ (fun r σ' => σ'.2.2.2 = σ.2.2.2 + zAl 120 → V 12 [(0, .ref 0), (1, .int x), (2, .int y), (3, .int w), (4, .int s)] (r.toList ++ []) σ')
    refine isWeight_ok (fun hb2 _ => ?_) (fun hb2 _ => ?_)
    · skip
      refine zq (σ := σ) hV hI rfl 1 ?_
      show ((1 : Int32) = 0 → V 27 [(0, .ref 0), (1, .int x), (2, .int y), (3, .int w), (4, .int s)] [] σ) ∧ (¬ (1 : Int32) = 0 → V 15 [(0, .ref 0), (1, .int x), (2, .int y), (3, .int w), (4, .int s)] [] σ)
      refine ⟨fun hc => absurd hc (by decide), fun _ => ?_⟩
      refine zq (σ := σ) hV hI rfl 2 ?_
      show (s < 0 → V 27 [(0, .ref 0), (1, .int x), (2, .int y), (3, .int w), (4, .int s)] [] σ) ∧ (¬ s < 0 → V 20 [(0, .ref 0), (1, .int x), (2, .int y), (3, .int w), (4, .int s)] [] σ)
      refine ⟨fun h_17 => ?_, fun h_17 => ?_⟩
      · skip
        refine zq (σ := σ) hV hI rfl 2 ?_
        show K (some (.int (-2))) σ
        refine hBad (fun q => ?_)
        have q4 := q.2.2.2
        unfold zBt at q4
        simp only [zlt, zle] at h_17
        simp at h_17
        omega
      · skip
        refine zq (σ := σ) hV hI rfl 3 ?_
        show (s ≤ 100000 → V 30 [(0, .ref 0), (1, .int x), (2, .int y), (3, .int w), (4, .int s)] [] σ) ∧ (¬ s ≤ 100000 → V 27 [(0, .ref 0), (1, .int x), (2, .int y), (3, .int w), (4, .int s)] [] σ)
        refine ⟨fun h_24 => ?_, fun h_24 => ?_⟩
        · skip
          refine zq (σ := σ) hV hI rfl 5 ?_
          show zSp _ 36 [.ref 1, .int x, .int y] σ (fun r σ' => σ'.2.2.2 = σ.2.2.2 + zAl 36 → V 39 [(0, .ref 0), (1, .int x), (2, .int y), (3, .int w), (4, .int s)] (r.toList ++ []) σ')
          refine side_ok (zR_of hI rfl rfl) hn hn10 (fun _ => ?_)
          refine zq (σ := σ) hV hI rfl 1 ?_
          show ((zSide n (σ.1 2) (σ.1 3) x y) = 0 → V 68 [(0, .ref 0), (1, .int x), (2, .int y), (3, .int w), (4, .int s)] [] σ) ∧ (¬ (zSide n (σ.1 2) (σ.1 3) x y) = 0 → V 42 [(0, .ref 0), (1, .int x), (2, .int y), (3, .int w), (4, .int s)] [] σ)
          refine ⟨fun h_39 => ?_, fun h_39 => ?_⟩
          · skip
            refine zq (σ := σ) hV hI rfl 2 ?_
            show K (some (.int 0)) σ
            have hv : (zBt (-1000) 1000 x ∧ zBt (-1000) 1000 y ∧ zBt 1 20 w ∧ zBt 0 100000 s) := ⟨hb1.1, hb1.2, hb2, by
              unfold zBt
              simp only [zlt, zle] at h_17 h_24
              simp at h_17 h_24 ⊢
              omega⟩
            exact h0 hv (fun q => q.1 h_39)
          · skip
            refine zq (σ := σ) hV hI rfl 8 ?_
            show zSp _ 37 [.ref 1, .int x, .int y, .int w] σ (fun r σ' => σ'.2.2.2 = σ.2.2.2 + zAl 37 → V 56 [(0, .ref 0), (1, .int x), (2, .int y), (3, .int w), (4, .int s)] (r.toList ++ [.ref 1]) σ')
            refine pull_ok (zR_of hI rfl rfl) (fun _ => ?_)
            refine zq (σ := σ) hV hI rfl 2 ?_
            show zSp _ 38 [.ref 1, .long (zPull (σ.1 1 3) (σ.1 1 4) (σ.1 1 5) x y w), .int s] σ (fun r σ' => σ'.2.2.2 = σ.2.2.2 + zAl 38 → V 61 [(0, .ref 0), (1, .int x), (2, .int y), (3, .int w), (4, .int s)] (r.toList ++ []) σ')
            refine isSealed_ok (zR_of hI rfl rfl)  (fun hb3 _ => ?_) (fun hb3 _ => ?_)
            · skip
              refine zq (σ := σ) hV hI rfl 1 ?_
              show ((1 : Int32) = 0 → V 68 [(0, .ref 0), (1, .int x), (2, .int y), (3, .int w), (4, .int s)] [] σ) ∧ (¬ (1 : Int32) = 0 → V 64 [(0, .ref 0), (1, .int x), (2, .int y), (3, .int w), (4, .int s)] [] σ)
              refine ⟨fun hc => absurd hc (by decide), fun _ => ?_⟩
              refine zq (σ := σ) hV hI rfl 3 ?_
              show K (some (.int 1)) σ
              have hv : (zBt (-1000) 1000 x ∧ zBt (-1000) 1000 y ∧ zBt 1 20 w ∧ zBt 0 100000 s) := ⟨hb1.1, hb1.2, hb2, by
                unfold zBt
                simp only [zlt, zle] at h_17 h_24
                simp at h_17 h_24 ⊢
                omega⟩
              exact h1 hv h_39 hb3
            · skip
              refine zq (σ := σ) hV hI rfl 1 ?_
              show ((0 : Int32) = 0 → V 68 [(0, .ref 0), (1, .int x), (2, .int y), (3, .int w), (4, .int s)] [] σ) ∧ (¬ (0 : Int32) = 0 → V 64 [(0, .ref 0), (1, .int x), (2, .int y), (3, .int w), (4, .int s)] [] σ)
              refine ⟨fun _ => ?_, fun hc => absurd (by decide) hc⟩
              refine zq (σ := σ) hV hI rfl 2 ?_
              show K (some (.int 0)) σ
              have hv : (zBt (-1000) 1000 x ∧ zBt (-1000) 1000 y ∧ zBt 1 20 w ∧ zBt 0 100000 s) := ⟨hb1.1, hb1.2, hb2, by
                unfold zBt
                simp only [zlt, zle] at h_17 h_24
                simp at h_17 h_24 ⊢
                omega⟩
              exact h0 hv (fun q => hb3 q.2)
        · skip
          refine zq (σ := σ) hV hI rfl 2 ?_
          show K (some (.int (-2))) σ
          refine hBad (fun q => ?_)
          have q4 := q.2.2.2
          unfold zBt at q4
          simp only [zlt, zle] at h_17 h_24
          simp at h_17 h_24
          omega
    · skip
      refine zq (σ := σ) hV hI rfl 1 ?_
      show ((0 : Int32) = 0 → V 27 [(0, .ref 0), (1, .int x), (2, .int y), (3, .int w), (4, .int s)] [] σ) ∧ (¬ (0 : Int32) = 0 → V 15 [(0, .ref 0), (1, .int x), (2, .int y), (3, .int w), (4, .int s)] [] σ)
      refine ⟨fun _ => ?_, fun hc => absurd (by decide) hc⟩
      refine zq (σ := σ) hV hI rfl 2 ?_
      show K (some (.int (-2))) σ
      exact hBad (fun q => hb2 q.2.2.1)
  · skip
    refine zq (σ := σ) hV hI rfl 1 ?_
    show ((0 : Int32) = 0 → V 27 [(0, .ref 0), (1, .int x), (2, .int y), (3, .int w), (4, .int s)] [] σ) ∧ (¬ (0 : Int32) = 0 → V 8 [(0, .ref 0), (1, .int x), (2, .int y), (3, .int w), (4, .int s)] [] σ)
    refine ⟨fun _ => ?_, fun hc => absurd (by decide) hc⟩
    refine zq (σ := σ) hV hI rfl 2 ?_
    show K (some (.int (-2))) σ
    exact hBad (fun q => hb1 ⟨q.1, q.2.1⟩)
set_option maxRecDepth 8000 in
set_option maxHeartbeats 4000000 in
theorem seal_C {d : Nat} {σ : zSt} {K : Option Value → zSt → Prop} {x y w : Int32} {n : Nat} (hI : zQI (kR 0 30) σ.2.2) (hn : σ.1 1 2 = nI n) (hn10 : n ≤ 10) (hBad : ¬ (zBt (-1000) 1000 x ∧ zBt (-1000) 1000 y ∧ zBt 1 20 w) → K (some (.int (-2))) σ) (hNot : (zBt (-1000) 1000 x ∧ zBt (-1000) 1000 y ∧ zBt 1 20 w) → zSide n (σ.1 2) (σ.1 3) x y = 0 → K (some (.int (-3))) σ) (hOk : (zBt (-1000) 1000 x ∧ zBt (-1000) 1000 y ∧ zBt 1 20 w) → ¬ zSide n (σ.1 2) (σ.1 3) x y = 0 → K (some (.int (zLs (σ.1 1 3) (zPull (σ.1 1 3) (σ.1 1 4) (σ.1 1 5) x y w) 31 0 1073741824))) σ) : zSp (d + 4) mX8_seal [.ref 0, .int x, .int y, .int w] σ K := by
  refine ⟨⟨by decide, Nat.le_of_ble_eq_true rfl⟩, fun V hV => ?_⟩
  refine zq (σ := σ) hV hI rfl 3 ?_
  show zSp _ 119 [.int x, .int y] σ (fun r σ' => σ'.2.2.2 = σ.2.2.2 + zAl 119 → V 5 [(0, .ref 0), (1, .int x), (2, .int y), (3, .int w)] (r.toList ++ []) σ')
  refine isPlace_ok (fun hb1 _ => ?_) (fun hb1 _ => ?_)
  · skip
    refine zq (σ := σ) hV hI rfl 1 ?_
    show ((1 : Int32) = 0 → V 15 [(0, .ref 0), (1, .int x), (2, .int y), (3, .int w)] [] σ) ∧ (¬ (1 : Int32) = 0 → V 8 [(0, .ref 0), (1, .int x), (2, .int y), (3, .int w)] [] σ)
    refine ⟨fun hc => absurd hc (by decide), fun _ => ?_⟩
    refine zq (σ := σ) hV hI rfl 2 ?_
    show zSp _ 120 [.int w] σ (fun r σ' => σ'.2.2.2 = σ.2.2.2 + zAl 120 → V 12 [(0, .ref 0), (1, .int x), (2, .int y), (3, .int w)] (r.toList ++ []) σ')
    refine isWeight_ok (fun hb2 _ => ?_) (fun hb2 _ => ?_)
    · skip
      refine zq (σ := σ) hV hI rfl 1 ?_
      show (¬ (1 : Int32) = 0 → V 18 [(0, .ref 0), (1, .int x), (2, .int y), (3, .int w)] [] σ) ∧ (¬ (¬ (1 : Int32) = 0) → V 15 [(0, .ref 0), (1, .int x), (2, .int y), (3, .int w)] [] σ)
      refine ⟨fun _ => ?_, fun hc => absurd (by decide) hc⟩
      refine zq (σ := σ) hV hI rfl 5 ?_
      show zSp _ 36 [.ref 1, .int x, .int y] σ (fun r σ' => σ'.2.2.2 = σ.2.2.2 + zAl 36 → V 27 [(0, .ref 0), (1, .int x), (2, .int y), (3, .int w)] (r.toList ++ []) σ')
      refine side_ok (zR_of hI rfl rfl) hn hn10 (fun _ => ?_)
      refine zq (σ := σ) hV hI rfl 1 ?_
      show (¬ (zSide n (σ.1 2) (σ.1 3) x y) = 0 → V 33 [(0, .ref 0), (1, .int x), (2, .int y), (3, .int w)] [] σ) ∧ (¬ (¬ (zSide n (σ.1 2) (σ.1 3) x y) = 0) → V 30 [(0, .ref 0), (1, .int x), (2, .int y), (3, .int w)] [] σ)
      refine ⟨fun h_27 => ?_, fun h_27 => ?_⟩
      · skip
        refine zq (σ := σ) hV hI rfl 8 ?_
        show zSp _ 37 [.ref 1, .int x, .int y, .int w] σ (fun r σ' => σ'.2.2.2 = σ.2.2.2 + zAl 37 → V 47 [(0, .ref 0), (1, .int x), (2, .int y), (3, .int w)] (r.toList ++ [.ref 1]) σ')
        refine pull_ok (zR_of hI rfl rfl) (fun _ => ?_)
        refine zq (σ := σ) hV hI rfl 1 ?_
        show zSp _ 39 [.ref 1, .long (zPull (σ.1 1 3) (σ.1 1 4) (σ.1 1 5) x y w)] σ (fun r σ' => σ'.2.2.2 = σ.2.2.2 + zAl 39 → V 50 [(0, .ref 0), (1, .int x), (2, .int y), (3, .int w)] (r.toList ++ []) σ')
        refine leastSeal_ok (zR_of hI rfl rfl) (fun _ => ?_)
        refine zq (σ := σ) hV hI rfl 1 ?_
        show K (some (.int (zLs (σ.1 1 3) (zPull (σ.1 1 3) (σ.1 1 4) (σ.1 1 5) x y w) 31 0 1073741824))) σ
        have hv : (zBt (-1000) 1000 x ∧ zBt (-1000) 1000 y ∧ zBt 1 20 w) := ⟨hb1.1, hb1.2, hb2⟩
        exact hOk hv h_27
      · skip
        have h_27 := Classical.not_not.mp h_27
        refine zq (σ := σ) hV hI rfl 2 ?_
        show K (some (.int (-3))) σ
        have hv : (zBt (-1000) 1000 x ∧ zBt (-1000) 1000 y ∧ zBt 1 20 w) := ⟨hb1.1, hb1.2, hb2⟩
        exact hNot hv h_27
    · skip
      refine zq (σ := σ) hV hI rfl 1 ?_
      show (¬ (0 : Int32) = 0 → V 18 [(0, .ref 0), (1, .int x), (2, .int y), (3, .int w)] [] σ) ∧ (¬ (¬ (0 : Int32) = 0) → V 15 [(0, .ref 0), (1, .int x), (2, .int y), (3, .int w)] [] σ)
      refine ⟨fun hc => absurd hc (by decide), fun _ => ?_⟩
      refine zq (σ := σ) hV hI rfl 2 ?_
      show K (some (.int (-2))) σ
      exact hBad (fun q => hb2 q.2.2)
  · skip
    refine zq (σ := σ) hV hI rfl 1 ?_
    show ((0 : Int32) = 0 → V 15 [(0, .ref 0), (1, .int x), (2, .int y), (3, .int w)] [] σ) ∧ (¬ (0 : Int32) = 0 → V 8 [(0, .ref 0), (1, .int x), (2, .int y), (3, .int w)] [] σ)
    refine ⟨fun _ => ?_, fun hc => absurd (by decide) hc⟩
    refine zq (σ := σ) hV hI rfl 2 ?_
    show K (some (.int (-2))) σ
    exact hBad (fun q => hb1 ⟨q.1, q.2.1⟩)
set_option maxRecDepth 8000 in
set_option maxHeartbeats 4000000 in
theorem psize_ok {d : Nat} {σ : zSt} {K : Option Value → zSt → Prop} (hI : zQI (kR 18 21) σ.2.2) (hK : K (some (.int (σ.1 18 2))) σ) : zSp (d + 1) mX4_size [.ref 18] σ K := by
  refine ⟨⟨by decide, Nat.le_of_ble_eq_true rfl⟩, fun V hV => ?_⟩
  refine zq (σ := σ) hV hI rfl 3 ?_
  show K (some (.int (σ.1 18 2))) σ
  exact hK
set_option maxRecDepth 8000 in
set_option maxHeartbeats 4000000 in
theorem px_ok {d : Nat} {σ : zSt} {K : Option Value → zSt → Prop} {i : Int32} {k : Nat} (hI : zQI (kR 18 21) σ.2.2) (e : i = nI k) (hk : k < 20) (hK : K (some (.int (σ.1 19 k))) σ) : zSp (d + 2) mX4_x [.ref 18, .int i] σ K := by
  refine ⟨⟨by decide, Nat.le_of_ble_eq_true rfl⟩, fun V hV => ?_⟩
  subst e
  refine zq (σ := σ) hV hI rfl 4 ?_
  show zSp _ 128 [.ref 19, .int (nI k)] σ (fun r σ' => σ'.2.2.2 = σ.2.2.2 + zAl 128 → V 8 [(0, .ref 18), (1, .int (nI k))] (r.toList ++ []) σ')
  refine item_19 (zA_of hI rfl) rfl (by omega) (fun _ => ?_)
  refine zq (σ := σ) hV hI rfl 1 ?_
  show K (some (.int (σ.1 19 k))) σ
  exact hK
set_option maxRecDepth 8000 in
set_option maxHeartbeats 4000000 in
theorem py_ok {d : Nat} {σ : zSt} {K : Option Value → zSt → Prop} {i : Int32} {k : Nat} (hI : zQI (kR 18 21) σ.2.2) (e : i = nI k) (hk : k < 20) (hK : K (some (.int (σ.1 20 k))) σ) : zSp (d + 2) mX4_y [.ref 18, .int i] σ K := by
  refine ⟨⟨by decide, Nat.le_of_ble_eq_true rfl⟩, fun V hV => ?_⟩
  subst e
  refine zq (σ := σ) hV hI rfl 4 ?_
  show zSp _ 128 [.ref 20, .int (nI k)] σ (fun r σ' => σ'.2.2.2 = σ.2.2.2 + zAl 128 → V 8 [(0, .ref 18), (1, .int (nI k))] (r.toList ++ []) σ')
  refine item_20 (zA_of hI rfl) rfl (by omega) (fun _ => ?_)
  refine zq (σ := σ) hV hI rfl 1 ?_
  show K (some (.int (σ.1 20 k))) σ
  exact hK
set_option maxRecDepth 8000 in
set_option maxHeartbeats 4000000 in
theorem padd_ok {d : Nat} {σ : zSt} {K : Option Value → zSt → Prop} {x y : Int32} {m : Nat} (hI : zQI (kR 18 21) σ.2.2) (hs : σ.1 18 2 = nI m) (hm : m < 20) (hK : K none (zuI (zuI (zuI σ 19 m x) 20 m y) 18 2 (nI (m + 1)))) : zSp (d + 2) mX4_add [.ref 18, .int x, .int y] σ K := by
  refine ⟨⟨by decide, Nat.le_of_ble_eq_true rfl⟩, fun V hV => ?_⟩
  refine zq (σ := σ) hV hI rfl 6 ?_
  show zSp _ 129 [.ref 19, .int (σ.1 18 2), .int x] σ (fun r σ' => σ'.2.2.2 = σ.2.2.2 + zAl 129 → V 12 [(0, .ref 18), (1, .int x), (2, .int y)] (r.toList ++ []) σ')
  refine setItem_19 (zA_of hI rfl) hs (by omega) (fun _ => ?_)
  refine zq (σ := (zuI σ 19 m x)) hV hI rfl 6 ?_
  show zSp _ 129 [.ref 20, .int (σ.1 18 2), .int y] (zuI σ 19 m x) (fun r σ' => σ'.2.2.2 = (zuI σ 19 m x).2.2.2 + zAl 129 → V 24 [(0, .ref 18), (1, .int x), (2, .int y)] (r.toList ++ []) σ')
  refine setItem_20 (zA_of hI rfl) hs (by omega) (fun _ => ?_)
  refine zq (σ := (zuI (zuI σ 19 m x) 20 m y)) hV hI rfl 7 ?_
  show K none (zuI (zuI (zuI σ 19 m x) 20 m y) 18 2 ((σ.1 18 2) + 1))
  rw [show (σ.1 18 2) + 1 = nI (m + 1) by rw [hs, nI_1]]
  exact hK
set_option maxRecDepth 8000 in
set_option maxHeartbeats 4000000 in
theorem sadd_ok {d : Nat} {σ : zSt} {K : Option Value → zSt → Prop} {e k c : Int32} {m : Nat} (hI : zQI (kR 14 18) σ.2.2) (hs : σ.1 14 3 = nI m) (hm : m < 7) (hK : K none (zuI (zuI (zuI (zuI σ 15 m e) 16 m k) 17 m c) 14 3 (nI (m + 1)))) : zSp (d + 2) mX6_add [.ref 14, .int e, .int k, .int c] σ K := by
  refine ⟨⟨by decide, Nat.le_of_ble_eq_true rfl⟩, fun V hV => ?_⟩
  refine zq (σ := σ) hV hI rfl 6 ?_
  show zSp _ 129 [.ref 15, .int (σ.1 14 3), .int e] σ (fun r σ' => σ'.2.2.2 = σ.2.2.2 + zAl 129 → V 12 [(0, .ref 14), (1, .int e), (2, .int k), (3, .int c)] (r.toList ++ []) σ')
  refine setItem_15 (zA_of hI rfl) hs (by omega) (fun _ => ?_)
  refine zq (σ := (zuI σ 15 m e)) hV hI rfl 6 ?_
  show zSp _ 129 [.ref 16, .int (σ.1 14 3), .int k] (zuI σ 15 m e) (fun r σ' => σ'.2.2.2 = (zuI σ 15 m e).2.2.2 + zAl 129 → V 24 [(0, .ref 14), (1, .int e), (2, .int k), (3, .int c)] (r.toList ++ []) σ')
  refine setItem_16 (zA_of hI rfl) hs (by omega) (fun _ => ?_)
  refine zq (σ := (zuI (zuI σ 15 m e) 16 m k)) hV hI rfl 6 ?_
  show zSp _ 129 [.ref 17, .int (σ.1 14 3), .int c] (zuI (zuI σ 15 m e) 16 m k) (fun r σ' => σ'.2.2.2 = (zuI (zuI σ 15 m e) 16 m k).2.2.2 + zAl 129 → V 36 [(0, .ref 14), (1, .int e), (2, .int k), (3, .int c)] (r.toList ++ []) σ')
  refine setItem_17 (zA_of hI rfl) hs (by omega) (fun _ => ?_)
  refine zq (σ := (zuI (zuI (zuI σ 15 m e) 16 m k) 17 m c)) hV hI rfl 7 ?_
  show K none (zuI (zuI (zuI (zuI σ 15 m e) 16 m k) 17 m c) 14 3 ((σ.1 14 3) + 1))
  rw [show (σ.1 14 3) + 1 = nI (m + 1) by rw [hs, nI_1]]
  exact hK
set_option maxRecDepth 8000 in
set_option maxHeartbeats 4000000 in
theorem probe_C {d : Nat} {σ : zSt} {K : Option Value → zSt → Prop} {x y : Int32} {m : Nat} (hI : zQI (kR 0 30) σ.2.2) (hs : σ.1 18 2 = nI m) (hm : m ≤ 20) (hBad : ¬ (zBt (-40) 40 x ∧ zBt (-40) 40 y) → K (some (.int (-2))) σ) (hFull : (zBt (-40) 40 x ∧ zBt (-40) 40 y) → m = 20 → K (some (.int (-4))) σ) (hOk : (zBt (-40) 40 x ∧ zBt (-40) 40 y) → m < 20 → K (some (.int (nI (m + 1)))) (zuI (zuI (zuI σ 19 m x) 20 m y) 18 2 (nI (m + 1)))) : zSp (d + 3) mX8_probe [.ref 0, .int x, .int y] σ K := by
  refine ⟨⟨by decide, Nat.le_of_ble_eq_true rfl⟩, fun V hV => ?_⟩
  have hmi := nI_toInt (show m < 2 ^ 31 by omega)
  refine zq (σ := σ) hV hI rfl 3 ?_
  show zSp _ 118 [.int x, .int 40] σ (fun r σ' => σ'.2.2.2 = σ.2.2.2 + zAl 118 → V 6 [(0, .ref 0), (1, .int x), (2, .int y)] (r.toList ++ []) σ')
  refine isWithin_ok (k := 40) rfl (by decide) (fun hw0 _ => ?_) (fun hw0 _ => ?_)
  · skip
    refine zq (σ := σ) hV hI rfl 1 ?_
    show ((1 : Int32) = 0 → V 18 [(0, .ref 0), (1, .int x), (2, .int y)] [] σ) ∧ (¬ (1 : Int32) = 0 → V 9 [(0, .ref 0), (1, .int x), (2, .int y)] [] σ)
    refine ⟨fun hc => absurd hc (by decide), fun _ => ?_⟩
    refine zq (σ := σ) hV hI rfl 3 ?_
    show zSp _ 118 [.int y, .int 40] σ (fun r σ' => σ'.2.2.2 = σ.2.2.2 + zAl 118 → V 15 [(0, .ref 0), (1, .int x), (2, .int y)] (r.toList ++ []) σ')
    refine isWithin_ok (k := 40) rfl (by decide) (fun hw1 _ => ?_) (fun hw1 _ => ?_)
    · skip
      refine zq (σ := σ) hV hI rfl 1 ?_
      show (¬ (1 : Int32) = 0 → V 21 [(0, .ref 0), (1, .int x), (2, .int y)] [] σ) ∧ (¬ (¬ (1 : Int32) = 0) → V 18 [(0, .ref 0), (1, .int x), (2, .int y)] [] σ)
      refine ⟨fun _ => ?_, fun hc => absurd (by decide) hc⟩
      refine zq (σ := σ) hV hI rfl 3 ?_
      show zSp _ 41 [.ref 18] σ (fun r σ' => σ'.2.2.2 = σ.2.2.2 + zAl 41 → V 28 [(0, .ref 0), (1, .int x), (2, .int y)] (r.toList ++ []) σ')
      refine psize_ok (zR_of hI rfl rfl) (fun _ => ?_)
      refine zq (σ := σ) hV hI rfl 2 ?_
      show ((σ.1 18 2) < 20 → V 36 [(0, .ref 0), (1, .int x), (2, .int y)] [] σ) ∧ (¬ (σ.1 18 2) < 20 → V 33 [(0, .ref 0), (1, .int x), (2, .int y)] [] σ)
      refine ⟨fun h_30 => ?_, fun h_30 => ?_⟩
      · skip
        have hcap : m < 20 := by
          simp only [zlt, hs, hmi] at h_30
          simp at h_30
          omega
        refine zq (σ := σ) hV hI rfl 5 ?_
        show zSp _ 44 [.ref 18, .int x, .int y] σ (fun r σ' => σ'.2.2.2 = σ.2.2.2 + zAl 44 → V 45 [(0, .ref 0), (1, .int x), (2, .int y)] (r.toList ++ []) σ')
        refine padd_ok (zR_of hI rfl rfl) (m := m) hs (by omega) (fun _ => ?_)
        refine zq (σ := (zuI (zuI (zuI σ 19 m x) 20 m y) 18 2 (nI (m + 1)))) hV hI rfl 3 ?_
        show zSp _ 41 [.ref 18] (zuI (zuI (zuI σ 19 m x) 20 m y) 18 2 (nI (m + 1))) (fun r σ' => σ'.2.2.2 = (zuI (zuI (zuI σ 19 m x) 20 m y) 18 2 (nI (m + 1))).2.2.2 + zAl 41 → V 52 [(0, .ref 0), (1, .int x), (2, .int y)] (r.toList ++ []) σ')
        refine psize_ok (zR_of hI rfl rfl) (fun _ => ?_)
        refine zq (σ := (zuI (zuI (zuI σ 19 m x) 20 m y) 18 2 (nI (m + 1)))) hV hI rfl 1 ?_
        show K (some (.int (nI (m + 1)))) (zuI (zuI (zuI σ 19 m x) 20 m y) 18 2 (nI (m + 1)))
        exact hOk ⟨hw0, hw1⟩ hcap
      · skip
        refine zq (σ := σ) hV hI rfl 2 ?_
        show K (some (.int (-4))) σ
        refine hFull ⟨hw0, hw1⟩ ?_
        simp only [zlt, hs, hmi] at h_30
        simp at h_30
        omega
    · skip
      refine zq (σ := σ) hV hI rfl 1 ?_
      show (¬ (0 : Int32) = 0 → V 21 [(0, .ref 0), (1, .int x), (2, .int y)] [] σ) ∧ (¬ (¬ (0 : Int32) = 0) → V 18 [(0, .ref 0), (1, .int x), (2, .int y)] [] σ)
      refine ⟨fun hc => absurd hc (by decide), fun _ => ?_⟩
      refine zq (σ := σ) hV hI rfl 2 ?_
      show K (some (.int (-2))) σ
      exact hBad (fun q => hw1 q.2)
  · skip
    refine zq (σ := σ) hV hI rfl 1 ?_
    show ((0 : Int32) = 0 → V 18 [(0, .ref 0), (1, .int x), (2, .int y)] [] σ) ∧ (¬ (0 : Int32) = 0 → V 9 [(0, .ref 0), (1, .int x), (2, .int y)] [] σ)
    refine ⟨fun _ => ?_, fun hc => absurd (by decide) hc⟩
    refine zq (σ := σ) hV hI rfl 2 ?_
    show K (some (.int (-2))) σ
    exact hBad (fun q => hw0 q.1)
set_option maxRecDepth 8000 in
set_option maxHeartbeats 4000000 in
theorem ssize_ok {d : Nat} {σ : zSt} {K : Option Value → zSt → Prop} (hI : zQI (kR 14 18) σ.2.2) (hK : K (some (.int (σ.1 14 3))) σ) : zSp (d + 1) mX6_size [.ref 14] σ K := by
  refine ⟨⟨by decide, Nat.le_of_ble_eq_true rfl⟩, fun V hV => ?_⟩
  refine zq (σ := σ) hV hI rfl 3 ?_
  show K (some (.int (σ.1 14 3))) σ
  exact hK
set_option maxRecDepth 8000 in
set_option maxHeartbeats 4000000 in
theorem sclear_ok {d : Nat} {σ : zSt} {K : Option Value → zSt → Prop} (hI : zQI (kR 14 18) σ.2.2) (hK : K none (zuI σ 14 3 0)) : zSp (d + 1) mX6_clear [.ref 14] σ K := by
  refine ⟨⟨by decide, Nat.le_of_ble_eq_true rfl⟩, fun V hV => ?_⟩
  refine zq (σ := σ) hV hI rfl 4 ?_
  show K none (zuI σ 14 3 0)
  exact hK
set_option maxRecDepth 8000 in
set_option maxHeartbeats 4000000 in
theorem spot_C {d : Nat} {σ : zSt} {K : Option Value → zSt → Prop} {e k c : Int32} {n m : Nat} (hI : zQI (kR 0 30) σ.2.2) (hn : σ.1 1 2 = nI n) (hn10 : n ≤ 10) (hs : σ.1 14 3 = nI m) (hm : m ≤ 7) (hBad : ¬ ((zBt 0 (n - 1) e ∧ zBt 0 8 k) ∧ zBt 0 1000 c) → K (some (.int (-2))) σ) (hFull : ((zBt 0 (n - 1) e ∧ zBt 0 8 k) ∧ zBt 0 1000 c) → m = 7 → K (some (.int (-4))) σ) (hOk : ((zBt 0 (n - 1) e ∧ zBt 0 8 k) ∧ zBt 0 1000 c) → m < 7 → K (some (.int (nI (m + 1)))) (zuI (zuI (zuI (zuI σ 15 m e) 16 m k) 17 m c) 14 3 (nI (m + 1)))) : zSp (d + 3) mX8_spot [.ref 0, .int e, .int k, .int c] σ K := by
  refine ⟨⟨by decide, Nat.le_of_ble_eq_true rfl⟩, fun V hV => ?_⟩
  have hmi := nI_toInt (show m < 2 ^ 31 by omega)
  refine zq (σ := σ) hV hI rfl 4 ?_
  show zSp _ 124 [.ref 0, .int e, .int k] σ (fun r σ' => σ'.2.2.2 = σ.2.2.2 + zAl 124 → V 6 [(0, .ref 0), (1, .int e), (2, .int k), (3, .int c)] (r.toList ++ []) σ')
  refine isStand_ok (zR_of hI rfl rfl) hn (by omega) (fun hb1 _ => ?_) (fun hb1 _ => ?_)
  · skip
    refine zq (σ := σ) hV hI rfl 1 ?_
    show ((1 : Int32) = 0 → V 20 [(0, .ref 0), (1, .int e), (2, .int k), (3, .int c)] [] σ) ∧ (¬ (1 : Int32) = 0 → V 9 [(0, .ref 0), (1, .int e), (2, .int k), (3, .int c)] [] σ)
    refine ⟨fun hc => absurd hc (by decide), fun _ => ?_⟩
    refine zq (σ := σ) hV hI rfl 2 ?_
    show (c < 0 → V 20 [(0, .ref 0), (1, .int e), (2, .int k), (3, .int c)] [] σ) ∧ (¬ c < 0 → V 13 [(0, .ref 0), (1, .int e), (2, .int k), (3, .int c)] [] σ)
    refine ⟨fun h_10 => ?_, fun h_10 => ?_⟩
    · skip
      refine zq (σ := σ) hV hI rfl 2 ?_
      show K (some (.int (-2))) σ
      refine hBad (fun q => ?_)
      have q4 := q.2
      unfold zBt at q4
      simp only [zlt, zle] at h_10
      simp at h_10
      omega
    · skip
      refine zq (σ := σ) hV hI rfl 3 ?_
      show (c ≤ 1000 → V 23 [(0, .ref 0), (1, .int e), (2, .int k), (3, .int c)] [] σ) ∧ (¬ c ≤ 1000 → V 20 [(0, .ref 0), (1, .int e), (2, .int k), (3, .int c)] [] σ)
      refine ⟨fun h_17 => ?_, fun h_17 => ?_⟩
      · skip
        refine zq (σ := σ) hV hI rfl 3 ?_
        show zSp _ 59 [.ref 14] σ (fun r σ' => σ'.2.2.2 = σ.2.2.2 + zAl 59 → V 30 [(0, .ref 0), (1, .int e), (2, .int k), (3, .int c)] (r.toList ++ []) σ')
        refine ssize_ok (zR_of hI rfl rfl) (fun _ => ?_)
        refine zq (σ := σ) hV hI rfl 2 ?_
        show ((σ.1 14 3) < 7 → V 38 [(0, .ref 0), (1, .int e), (2, .int k), (3, .int c)] [] σ) ∧ (¬ (σ.1 14 3) < 7 → V 35 [(0, .ref 0), (1, .int e), (2, .int k), (3, .int c)] [] σ)
        refine ⟨fun h_32 => ?_, fun h_32 => ?_⟩
        · skip
          have hcap : m < 7 := by
            simp only [zlt, hs, hmi] at h_32
            simp at h_32
            omega
          refine zq (σ := σ) hV hI rfl 6 ?_
          show zSp _ 61 [.ref 14, .int e, .int k, .int c] σ (fun r σ' => σ'.2.2.2 = σ.2.2.2 + zAl 61 → V 48 [(0, .ref 0), (1, .int e), (2, .int k), (3, .int c)] (r.toList ++ []) σ')
          refine sadd_ok (zR_of hI rfl rfl) (m := m) hs (by omega) (fun _ => ?_)
          refine zq (σ := (zuI (zuI (zuI (zuI σ 15 m e) 16 m k) 17 m c) 14 3 (nI (m + 1)))) hV hI rfl 3 ?_
          show zSp _ 59 [.ref 14] (zuI (zuI (zuI (zuI σ 15 m e) 16 m k) 17 m c) 14 3 (nI (m + 1))) (fun r σ' => σ'.2.2.2 = (zuI (zuI (zuI (zuI σ 15 m e) 16 m k) 17 m c) 14 3 (nI (m + 1))).2.2.2 + zAl 59 → V 55 [(0, .ref 0), (1, .int e), (2, .int k), (3, .int c)] (r.toList ++ []) σ')
          refine ssize_ok (zR_of hI rfl rfl) (fun _ => ?_)
          refine zq (σ := (zuI (zuI (zuI (zuI σ 15 m e) 16 m k) 17 m c) 14 3 (nI (m + 1)))) hV hI rfl 1 ?_
          show K (some (.int (nI (m + 1)))) (zuI (zuI (zuI (zuI σ 15 m e) 16 m k) 17 m c) 14 3 (nI (m + 1)))
          have hv : ((zBt 0 (n - 1) e ∧ zBt 0 8 k) ∧ zBt 0 1000 c) := ⟨hb1, by
            unfold zBt
            simp only [zlt, zle] at h_10 h_17
            simp at h_10 h_17 ⊢
            omega⟩
          exact hOk hv hcap
        · skip
          refine zq (σ := σ) hV hI rfl 2 ?_
          show K (some (.int (-4))) σ
          have hv : ((zBt 0 (n - 1) e ∧ zBt 0 8 k) ∧ zBt 0 1000 c) := ⟨hb1, by
            unfold zBt
            simp only [zlt, zle] at h_10 h_17
            simp at h_10 h_17 ⊢
            omega⟩
          refine hFull hv ?_
          simp only [zlt, hs, hmi] at h_32
          simp at h_32
          omega
      · skip
        refine zq (σ := σ) hV hI rfl 2 ?_
        show K (some (.int (-2))) σ
        refine hBad (fun q => ?_)
        have q4 := q.2
        unfold zBt at q4
        simp only [zlt, zle] at h_10 h_17
        simp at h_10 h_17
        omega
  · skip
    refine zq (σ := σ) hV hI rfl 1 ?_
    show ((0 : Int32) = 0 → V 20 [(0, .ref 0), (1, .int e), (2, .int k), (3, .int c)] [] σ) ∧ (¬ (0 : Int32) = 0 → V 9 [(0, .ref 0), (1, .int e), (2, .int k), (3, .int c)] [] σ)
    refine ⟨fun _ => ?_, fun hc => absurd (by decide) hc⟩
    refine zq (σ := σ) hV hI rfl 2 ?_
    show K (some (.int (-2))) σ
    exact hBad (fun q => hb1 q.1)
