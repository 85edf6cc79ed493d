variable {zx : Nat × (Nat → Int32)}
set_option maxRecDepth 8000 in
set_option maxHeartbeats 4000000 in
theorem finger_C {d : Nat} {σ : zSt} {K : Option Value → zSt → Prop} {e k : Int32} {n m : Nat} (hI : zQI (kR 0 30) σ.2.2) (hn : σ.1 1 2 = nI n) (hn10 : n ≤ 10) (hs : σ.1 4 2 = nI m) (hm : m ≤ 8) (hBad : ¬ (zBt 0 (n - 1) e ∧ zBt 0 8 k) → K (some (.int (-2))) σ) (hFull : (zBt 0 (n - 1) e ∧ zBt 0 8 k) → m = 8 → K (some (.int (-4))) σ) (hOk : (zBt 0 (n - 1) e ∧ zBt 0 8 k) → m < 8 → K (some (.int (nI m))) (zuI (zuI (zuI σ 5 m e) 6 m k) 4 2 (nI (m + 1)))) : zSp zx (d + 4) mX8_finger [.ref 0, .int e, .int k] σ K := by
  refine ⟨⟨by decide, Nat.le_of_ble_eq_true rfl⟩, fun V hV => ?_⟩
  have hmi := nI_toInt (show m < 2 ^ 31 by omega)
  refine zq (σ := σ) hV hI rfl 4 ?_
  show zSp _ _ 77 [.ref 0, .int e, .int k] σ (fun r σ' => σ'.2.2.2 = σ.2.2.2 + zAl 77 → V 6 [(0, .ref 0), (1, .int e), (2, .int k)] (r.toList ++ []) σ')
  refine isStand_ok (zR_of hI rfl rfl) hn (by omega) (fun hb1 _ => ?_) (fun hb1 _ => ?_)
  · skip
    refine zq (σ := σ) hV hI rfl 1 ?_
    show (¬ (1 : Int32) = 0 → V 12 [(0, .ref 0), (1, .int e), (2, .int k)] [] σ) ∧ (¬ (¬ (1 : Int32) = 0) → V 9 [(0, .ref 0), (1, .int e), (2, .int k)] [] σ)
    refine ⟨fun _ => ?_, fun hc => absurd (by decide) hc⟩
    refine zq (σ := σ) hV hI rfl 3 ?_
    show zSp _ _ 6 [.ref 4] σ (fun r σ' => σ'.2.2.2 = σ.2.2.2 + zAl 6 → V 19 [(0, .ref 0), (1, .int e), (2, .int k)] (r.toList ++ []) σ')
    refine hsize_4 (zR_of hI rfl rfl) (fun _ => ?_)
    refine zq (σ := σ) hV hI rfl 2 ?_
    show ((σ.1 4 2) < 8 → V 27 [(0, .ref 0), (1, .int e), (2, .int k)] [] σ) ∧ (¬ (σ.1 4 2) < 8 → V 24 [(0, .ref 0), (1, .int e), (2, .int k)] [] σ)
    refine ⟨fun h_21 => ?_, fun h_21 => ?_⟩
    · skip
      have h8 : m < 8 := by
        simp only [zlt, hs, hmi] at h_21
        simp at h_21
        omega
      refine zq (σ := σ) hV hI rfl 5 ?_
      show zSp _ _ 10 [.ref 4, .int e, .int k] σ (fun r σ' => σ'.2.2.2 = σ.2.2.2 + zAl 10 → V 36 [(0, .ref 0), (1, .int e), (2, .int k)] (r.toList ++ []) σ')
      refine hadd_4 (zR_of hI rfl rfl) (m := m) hs (by omega) (fun _ => ?_)
      refine zq (σ := (zuI (zuI (zuI σ 5 m e) 6 m k) 4 2 (nI (m + 1)))) hV hI rfl 3 ?_
      show zSp _ _ 6 [.ref 4] (zuI (zuI (zuI σ 5 m e) 6 m k) 4 2 (nI (m + 1))) (fun r σ' => σ'.2.2.2 = (zuI (zuI (zuI σ 5 m e) 6 m k) 4 2 (nI (m + 1))).2.2.2 + zAl 6 → V 43 [(0, .ref 0), (1, .int e), (2, .int k)] (r.toList ++ []) σ')
      refine hsize_4 (zR_of hI rfl rfl) (fun _ => ?_)
      refine zq (σ := (zuI (zuI (zuI σ 5 m e) 6 m k) 4 2 (nI (m + 1)))) hV hI rfl 3 ?_
      show K (some (.int ((nI (m + 1)) - 1))) (zuI (zuI (zuI σ 5 m e) 6 m k) 4 2 (nI (m + 1)))
      rw [nI_pred]
      exact hOk hb1 h8
    · skip
      refine zq (σ := σ) hV hI rfl 2 ?_
      show K (some (.int (-4))) σ
      refine hFull hb1 ?_
      simp only [zlt, hs, hmi] at h_21
      simp at h_21
      omega
  · skip
    refine zq (σ := σ) hV hI rfl 1 ?_
    show (¬ (0 : Int32) = 0 → V 12 [(0, .ref 0), (1, .int e), (2, .int k)] [] σ) ∧ (¬ (¬ (0 : Int32) = 0) → V 9 [(0, .ref 0), (1, .int e), (2, .int k)] [] σ)
    refine ⟨fun hc => absurd hc (by decide), fun _ => ?_⟩
    refine zq (σ := σ) hV hI rfl 2 ?_
    show K (some (.int (-2))) σ
    exact hBad hb1
set_option maxRecDepth 8000 in
set_option maxHeartbeats 4000000 in
theorem friction_C {d : Nat} {σ : zSt} {K : Option Value → zSt → Prop} {f : Int32} (hI : zQI (kR 0 30) σ.2.2) (hBad : ¬ zBt 0 16 f → K (some (.int (-2))) σ) (hOk : zBt 0 16 f → K (some (.int (σ.1 0 9))) (zuI σ 0 9 f)) : zSp zx (d + 1) mX8_friction [.ref 0, .int f] σ K := by
  refine ⟨⟨by decide, Nat.le_of_ble_eq_true rfl⟩, fun V hV => ?_⟩
  refine zq (σ := σ) hV hI rfl 2 ?_
  show (f < 0 → V 10 [(0, .ref 0), (1, .int f)] [] σ) ∧ (¬ f < 0 → V 4 [(0, .ref 0), (1, .int f)] [] σ)
  refine ⟨fun h_1 => ?_, fun h_1 => ?_⟩
  · skip
    refine zq (σ := σ) hV hI rfl 2 ?_
    show K (some (.int (-2))) σ
    exact hBad (by
      simp only [zlt, zle] at h_1
      unfold zBt
      simp at h_1 ⊢
      omega)
  · skip
    refine zq (σ := σ) hV hI rfl 3 ?_
    show (f ≤ 16 → V 13 [(0, .ref 0), (1, .int f)] [] σ) ∧ (¬ f ≤ 16 → V 10 [(0, .ref 0), (1, .int f)] [] σ)
    refine ⟨fun h_7 => ?_, fun h_7 => ?_⟩
    · skip
      refine zq (σ := σ) hV hI rfl 8 ?_
      show K (some (.int (σ.1 0 9))) (zuI σ 0 9 f)
      exact hOk (by
        simp only [zlt, zle] at h_1 h_7
        unfold zBt
        simp at h_1 h_7 ⊢
        omega)
    · skip
      refine zq (σ := σ) hV hI rfl 2 ?_
      show K (some (.int (-2))) σ
      exact hBad (by
        simp only [zlt, zle] at h_1 h_7
        unfold zBt
        simp at h_1 h_7 ⊢
        omega)
set_option maxRecDepth 8000 in
set_option maxHeartbeats 4000000 in
theorem psize_ok {d : Nat} {σ : zSt} {K : Option Value → zSt → Prop} (hI : zQI (kR 18 21) σ.2.2) (hK : K (some (.int (σ.1 18 2))) σ) : zSp zx (d + 1) mX4_size [.ref 18] σ K := by
  refine ⟨⟨by decide, Nat.le_of_ble_eq_true rfl⟩, fun V hV => ?_⟩
  refine zq (σ := σ) hV hI rfl 3 ?_
  show K (some (.int (σ.1 18 2))) σ
  exact hK
set_option maxRecDepth 8000 in
set_option maxHeartbeats 4000000 in
theorem sadd_ok {d : Nat} {σ : zSt} {K : Option Value → zSt → Prop} {e k c : Int32} {m : Nat} (hI : zQI (kR 14 18) σ.2.2) (hs : σ.1 14 3 = nI m) (hm : m < 7) (hK : K none (zuI (zuI (zuI (zuI σ 15 m e) 16 m k) 17 m c) 14 3 (nI (m + 1)))) : zSp zx (d + 2) mX6_add [.ref 14, .int e, .int k, .int c] σ K := by
  refine ⟨⟨by decide, Nat.le_of_ble_eq_true rfl⟩, fun V hV => ?_⟩
  refine zq (σ := σ) hV hI rfl 6 ?_
  show zSp _ _ 80 [.ref 15, .int (σ.1 14 3), .int e] σ (fun r σ' => σ'.2.2.2 = σ.2.2.2 + zAl 80 → V 12 [(0, .ref 14), (1, .int e), (2, .int k), (3, .int c)] (r.toList ++ []) σ')
  refine setItem_15 (zA_of hI rfl) hs (by omega) (fun _ => ?_)
  refine zq (σ := (zuI σ 15 m e)) hV hI rfl 6 ?_
  show zSp _ _ 80 [.ref 16, .int (σ.1 14 3), .int k] (zuI σ 15 m e) (fun r σ' => σ'.2.2.2 = (zuI σ 15 m e).2.2.2 + zAl 80 → V 24 [(0, .ref 14), (1, .int e), (2, .int k), (3, .int c)] (r.toList ++ []) σ')
  refine setItem_16 (zA_of hI rfl) hs (by omega) (fun _ => ?_)
  refine zq (σ := (zuI (zuI σ 15 m e) 16 m k)) hV hI rfl 6 ?_
  show zSp _ _ 80 [.ref 17, .int (σ.1 14 3), .int c] (zuI (zuI σ 15 m e) 16 m k) (fun r σ' => σ'.2.2.2 = (zuI (zuI σ 15 m e) 16 m k).2.2.2 + zAl 80 → V 36 [(0, .ref 14), (1, .int e), (2, .int k), (3, .int c)] (r.toList ++ []) σ')
  refine setItem_17 (zA_of hI rfl) hs (by omega) (fun _ => ?_)
  refine zq (σ := (zuI (zuI (zuI σ 15 m e) 16 m k) 17 m c)) hV hI rfl 7 ?_
  show K none (zuI (zuI (zuI (zuI σ 15 m e) 16 m k) 17 m c) 14 3 ((σ.1 14 3) + 1))
  rw [show (σ.1 14 3) + 1 = nI (m + 1) by rw [hs, nI_1]]
  exact hK
set_option maxRecDepth 8000 in
set_option maxHeartbeats 4000000 in
theorem ssize_ok {d : Nat} {σ : zSt} {K : Option Value → zSt → Prop} (hI : zQI (kR 14 18) σ.2.2) (hK : K (some (.int (σ.1 14 3))) σ) : zSp zx (d + 1) mX6_size [.ref 14] σ K := by
  refine ⟨⟨by decide, Nat.le_of_ble_eq_true rfl⟩, fun V hV => ?_⟩
  refine zq (σ := σ) hV hI rfl 3 ?_
  show K (some (.int (σ.1 14 3))) σ
  exact hK
set_option maxRecDepth 8000 in
set_option maxHeartbeats 4000000 in
theorem sclear_ok {d : Nat} {σ : zSt} {K : Option Value → zSt → Prop} (hI : zQI (kR 14 18) σ.2.2) (hK : K none (zuI σ 14 3 0)) : zSp zx (d + 1) mX6_clear [.ref 14] σ K := by
  refine ⟨⟨by decide, Nat.le_of_ble_eq_true rfl⟩, fun V hV => ?_⟩
  refine zq (σ := σ) hV hI rfl 4 ?_
  show K none (zuI σ 14 3 0)
  exact hK
set_option maxRecDepth 8000 in
set_option maxHeartbeats 4000000 in
theorem spot_C {d : Nat} {σ : zSt} {K : Option Value → zSt → Prop} {e k c : Int32} {n m : Nat} (hI : zQI (kR 0 30) σ.2.2) (hn : σ.1 1 2 = nI n) (hn10 : n ≤ 10) (hs : σ.1 14 3 = nI m) (hm : m ≤ 7) (hBad : ¬ ((zBt 0 (n - 1) e ∧ zBt 0 8 k) ∧ zBt 0 1000 c) → K (some (.int (-2))) σ) (hFull : ((zBt 0 (n - 1) e ∧ zBt 0 8 k) ∧ zBt 0 1000 c) → m = 7 → K (some (.int (-4))) σ) (hOk : ((zBt 0 (n - 1) e ∧ zBt 0 8 k) ∧ zBt 0 1000 c) → m < 7 → K (some (.int (nI (m + 1)))) (zuI (zuI (zuI (zuI σ 15 m e) 16 m k) 17 m c) 14 3 (nI (m + 1)))) : zSp zx (d + 3) mX8_spot [.ref 0, .int e, .int k, .int c] σ K := by
  refine ⟨⟨by decide, Nat.le_of_ble_eq_true rfl⟩, fun V hV => ?_⟩
  have hmi := nI_toInt (show m < 2 ^ 31 by omega)
  refine zq (σ := σ) hV hI rfl 4 ?_
  show zSp _ _ 77 [.ref 0, .int e, .int k] σ (fun r σ' => σ'.2.2.2 = σ.2.2.2 + zAl 77 → V 6 [(0, .ref 0), (1, .int e), (2, .int k), (3, .int c)] (r.toList ++ []) σ')
  refine isStand_ok (zR_of hI rfl rfl) hn (by omega) (fun hb1 _ => ?_) (fun hb1 _ => ?_)
  · skip
    refine zq (σ := σ) hV hI rfl 1 ?_
    show ((1 : Int32) = 0 → V 20 [(0, .ref 0), (1, .int e), (2, .int k), (3, .int c)] [] σ) ∧ (¬ (1 : Int32) = 0 → V 9 [(0, .ref 0), (1, .int e), (2, .int k), (3, .int c)] [] σ)
    refine ⟨fun hc => absurd hc (by decide), fun _ => ?_⟩
    refine zq (σ := σ) hV hI rfl 2 ?_
    show (c < 0 → V 20 [(0, .ref 0), (1, .int e), (2, .int k), (3, .int c)] [] σ) ∧ (¬ c < 0 → V 13 [(0, .ref 0), (1, .int e), (2, .int k), (3, .int c)] [] σ)
    refine ⟨fun h_10 => ?_, fun h_10 => ?_⟩
    · skip
      refine zq (σ := σ) hV hI rfl 2 ?_
      show K (some (.int (-2))) σ
      refine hBad (fun q => ?_)
      have q4 := q.2
      unfold zBt at q4
      simp only [zlt, zle] at h_10
      simp at h_10
      omega
    · skip
      refine zq (σ := σ) hV hI rfl 3 ?_
      show (c ≤ 1000 → V 23 [(0, .ref 0), (1, .int e), (2, .int k), (3, .int c)] [] σ) ∧ (¬ c ≤ 1000 → V 20 [(0, .ref 0), (1, .int e), (2, .int k), (3, .int c)] [] σ)
      refine ⟨fun h_17 => ?_, fun h_17 => ?_⟩
      · skip
        refine zq (σ := σ) hV hI rfl 3 ?_
        show zSp _ _ 37 [.ref 14] σ (fun r σ' => σ'.2.2.2 = σ.2.2.2 + zAl 37 → V 30 [(0, .ref 0), (1, .int e), (2, .int k), (3, .int c)] (r.toList ++ []) σ')
        refine ssize_ok (zR_of hI rfl rfl) (fun _ => ?_)
        refine zq (σ := σ) hV hI rfl 2 ?_
        show ((σ.1 14 3) < 7 → V 38 [(0, .ref 0), (1, .int e), (2, .int k), (3, .int c)] [] σ) ∧ (¬ (σ.1 14 3) < 7 → V 35 [(0, .ref 0), (1, .int e), (2, .int k), (3, .int c)] [] σ)
        refine ⟨fun h_32 => ?_, fun h_32 => ?_⟩
        · skip
          have hcap : m < 7 := by
            simp only [zlt, hs, hmi] at h_32
            simp at h_32
            omega
          refine zq (σ := σ) hV hI rfl 6 ?_
          show zSp _ _ 39 [.ref 14, .int e, .int k, .int c] σ (fun r σ' => σ'.2.2.2 = σ.2.2.2 + zAl 39 → V 48 [(0, .ref 0), (1, .int e), (2, .int k), (3, .int c)] (r.toList ++ []) σ')
          refine sadd_ok (zR_of hI rfl rfl) (m := m) hs (by omega) (fun _ => ?_)
          refine zq (σ := (zuI (zuI (zuI (zuI σ 15 m e) 16 m k) 17 m c) 14 3 (nI (m + 1)))) hV hI rfl 3 ?_
          show zSp _ _ 37 [.ref 14] (zuI (zuI (zuI (zuI σ 15 m e) 16 m k) 17 m c) 14 3 (nI (m + 1))) (fun r σ' => σ'.2.2.2 = (zuI (zuI (zuI (zuI σ 15 m e) 16 m k) 17 m c) 14 3 (nI (m + 1))).2.2.2 + zAl 37 → V 55 [(0, .ref 0), (1, .int e), (2, .int k), (3, .int c)] (r.toList ++ []) σ')
          refine ssize_ok (zR_of hI rfl rfl) (fun _ => ?_)
          refine zq (σ := (zuI (zuI (zuI (zuI σ 15 m e) 16 m k) 17 m c) 14 3 (nI (m + 1)))) hV hI rfl 1 ?_
          show K (some (.int (nI (m + 1)))) (zuI (zuI (zuI (zuI σ 15 m e) 16 m k) 17 m c) 14 3 (nI (m + 1)))
          have hv : ((zBt 0 (n - 1) e ∧ zBt 0 8 k) ∧ zBt 0 1000 c) := ⟨hb1, by
            unfold zBt
            simp only [zlt, zle] at h_10 h_17
            simp at h_10 h_17 ⊢
            omega⟩
          exact hOk hv hcap
        · skip
          refine zq (σ := σ) hV hI rfl 2 ?_
          show K (some (.int (-4))) σ
          have hv : ((zBt 0 (n - 1) e ∧ zBt 0 8 k) ∧ zBt 0 1000 c) := ⟨hb1, by
            unfold zBt
            simp only [zlt, zle] at h_10 h_17
            simp at h_10 h_17 ⊢
            omega⟩
          refine hFull hv ?_
          simp only [zlt, hs, hmi] at h_32
          simp at h_32
          omega
      · skip
        refine zq (σ := σ) hV hI rfl 2 ?_
        show K (some (.int (-2))) σ
        refine hBad (fun q => ?_)
        have q4 := q.2
        unfold zBt at q4
        simp only [zlt, zle] at h_10 h_17
        simp at h_10 h_17
        omega
  · skip
    refine zq (σ := σ) hV hI rfl 1 ?_
    show ((0 : Int32) = 0 → V 20 [(0, .ref 0), (1, .int e), (2, .int k), (3, .int c)] [] σ) ∧ (¬ (0 : Int32) = 0 → V 9 [(0, .ref 0), (1, .int e), (2, .int k), (3, .int c)] [] σ)
    refine ⟨fun _ => ?_, fun hc => absurd (by decide) hc⟩
    refine zq (σ := σ) hV hI rfl 2 ?_
    show K (some (.int (-2))) σ
    exact hBad (fun q => hb1 q.1)
