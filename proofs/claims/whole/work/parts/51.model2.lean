set_option maxRecDepth 8000 in
set_option maxHeartbeats 4000000 in
theorem finger_M {d : Nat} {σ : zSt} {K : Option Value → zSt → Prop} {e k : Int32} {n m : Nat} (hI : zQI (kR 30 52) σ.2.2) (hn : σ.1 30 0 = nI n) (hn10 : n ≤ 10) (hs : σ.1 30 5 = nI m) (hm : m ≤ 8) (hBad : ¬ (zBt 0 (n - 1) e ∧ zBt 0 8 k) → K (some (.int (-2))) σ) (hFull : (zBt 0 (n - 1) e ∧ zBt 0 8 k) → m = 8 → K (some (.int (-4))) σ) (hOk : (zBt 0 (n - 1) e ∧ zBt 0 8 k) → m < 8 → K (some (.int (nI m))) (zuI (zuI (zuI σ 35 m e) 36 m k) 30 5 (nI (m + 1)))) : zSp (d + 3) mX9_finger [.ref 30, .int e, .int k] σ K := by
  refine ⟨⟨by decide, Nat.le_of_ble_eq_true rfl⟩, fun V hV => ?_⟩
  refine zq (σ := σ) hV hI rfl 4 ?_
  show zSp _ 144 [.ref 30, .int e, .int k] σ (fun r σ' => σ'.2.2.2 = σ.2.2.2 + zAl 144 → V 6 [(0, .ref 30), (1, .int e), (2, .int k)] (r.toList ++ []) σ')
  refine isStand_M hI hn hn10 (fun hb1 _ => ?_) (fun hb1 _ => ?_)
  · skip
    refine zq (σ := σ) hV hI rfl 1 ?_
    show (¬ (1 : Int32) = 0 → V 12 [(0, .ref 30), (1, .int e), (2, .int k)] [] σ) ∧ (¬ (¬ (1 : Int32) = 0) → V 9 [(0, .ref 30), (1, .int e), (2, .int k)] [] σ)
    refine ⟨fun _ => ?_, fun hc => absurd (by decide) hc⟩
    refine zq (σ := σ) hV hI rfl 4 ?_
    show (¬ (σ.1 30 5) = 8 → V 24 [(0, .ref 30), (1, .int e), (2, .int k)] [] σ) ∧ (¬ (¬ (σ.1 30 5) = 8) → V 21 [(0, .ref 30), (1, .int e), (2, .int k)] [] σ)
    refine ⟨fun h_18 => ?_, fun h_18 => ?_⟩
    · skip
      rw [hs] at h_18
      have hcap : ¬ m = 8 := fun q => h_18 ((nI_eq (a := m) (b := 8) (by omega) (by decide)).mpr q)
      refine zq (σ := σ) hV hI rfl 6 ?_
      show vp_in (σ.1 30 5) 8 ∧ V 34 [(0, .ref 30), (1, .int e), (2, .int k)] [] (zuI σ 35 (Int32.toNatClampNeg (σ.1 30 5)) e)
      refine ⟨zix (k := m) hs (by omega) (by decide), ?_⟩
      rw [zcl_k (i := (σ.1 30 5)) (k := m) hs (by omega)]
      refine zq (σ := (zuI σ 35 m e)) hV hI rfl 6 ?_
      show vp_in (σ.1 30 5) 8 ∧ V 44 [(0, .ref 30), (1, .int e), (2, .int k)] [] (zuI (zuI σ 35 m e) 36 (Int32.toNatClampNeg (σ.1 30 5)) k)
      refine ⟨zix (k := m) hs (by omega) (by decide), ?_⟩
      rw [zcl_k (i := (σ.1 30 5)) (k := m) hs (by omega)]
      refine zq (σ := (zuI (zuI σ 35 m e) 36 m k)) hV hI rfl 11 ?_
      show K (some (.int (((σ.1 30 5) + 1) - 1))) (zuI (zuI (zuI σ 35 m e) 36 m k) 30 5 ((σ.1 30 5) + 1))
      rw [hs, nI_1, nI_pred]
      exact hOk hb1 (by omega)
    · skip
      have h_18 := Classical.not_not.mp h_18
      refine zq (σ := σ) hV hI rfl 2 ?_
      show K (some (.int (-4))) σ
      rw [hs] at h_18
      have hcap := (nI_eq (a := m) (b := 8) (by omega) (by decide)).mp h_18
      exact hFull hb1 hcap
  · skip
    refine zq (σ := σ) hV hI rfl 1 ?_
    show (¬ (0 : Int32) = 0 → V 12 [(0, .ref 30), (1, .int e), (2, .int k)] [] σ) ∧ (¬ (¬ (0 : Int32) = 0) → V 9 [(0, .ref 30), (1, .int e), (2, .int k)] [] σ)
    refine ⟨fun hc => absurd hc (by decide), fun _ => ?_⟩
    refine zq (σ := σ) hV hI rfl 2 ?_
    show K (some (.int (-2))) σ
    exact hBad hb1
set_option maxRecDepth 8000 in
set_option maxHeartbeats 4000000 in
theorem move_M {d : Nat} {σ : zSt} {K : Option Value → zSt → Prop} {v e k : Int32} {n m : Nat} (hI : zQI (kR 30 52) σ.2.2) (hn : σ.1 30 0 = nI n) (hn10 : n ≤ 10) (hs : σ.1 30 5 = nI m) (hm : m ≤ 8) (hBad : ¬ (zBt 0 (m - 1) v ∧ (zBt 0 (n - 1) e ∧ zBt 0 8 k)) → K (some (.int (-2))) σ) (hOk : ∀ j, v = nI j → j < m → (zBt 0 (n - 1) e ∧ zBt 0 8 k) → K (some (.int 1)) (zuI (zuI σ 35 j e) 36 j k)) : zSp (d + 3) mX9_move [.ref 30, .int v, .int e, .int k] σ K := by
  refine ⟨⟨by decide, Nat.le_of_ble_eq_true rfl⟩, fun V hV => ?_⟩
  refine zq (σ := σ) hV hI rfl 3 ?_
  show zSp _ 145 [.ref 30, .int v] σ (fun r σ' => σ'.2.2.2 = σ.2.2.2 + zAl 145 → V 5 [(0, .ref 30), (1, .int v), (2, .int e), (3, .int k)] (r.toList ++ []) σ')
  refine isFinger_M hI hs (by omega) (fun hb1 _ => ?_) (fun hb1 _ => ?_)
  · skip
    refine zq (σ := σ) hV hI rfl 1 ?_
    show ((1 : Int32) = 0 → V 17 [(0, .ref 30), (1, .int v), (2, .int e), (3, .int k)] [] σ) ∧ (¬ (1 : Int32) = 0 → V 8 [(0, .ref 30), (1, .int v), (2, .int e), (3, .int k)] [] σ)
    refine ⟨fun hc => absurd hc (by decide), fun _ => ?_⟩
    refine zq (σ := σ) hV hI rfl 4 ?_
    show zSp _ 144 [.ref 30, .int e, .int k] σ (fun r σ' => σ'.2.2.2 = σ.2.2.2 + zAl 144 → V 14 [(0, .ref 30), (1, .int v), (2, .int e), (3, .int k)] (r.toList ++ []) σ')
    refine isStand_M hI hn hn10 (fun hb2 _ => ?_) (fun hb2 _ => ?_)
    · skip
      refine zq (σ := σ) hV hI rfl 1 ?_
      show (¬ (1 : Int32) = 0 → V 20 [(0, .ref 30), (1, .int v), (2, .int e), (3, .int k)] [] σ) ∧ (¬ (¬ (1 : Int32) = 0) → V 17 [(0, .ref 30), (1, .int v), (2, .int e), (3, .int k)] [] σ)
      refine ⟨fun _ => ?_, fun hc => absurd (by decide) hc⟩
      obtain ⟨j, hj, hj2, _⟩ := zNat (x := v) (by unfold zBt at hb1; omega)
      have hjm : j < m := by unfold zBt at hb1; omega
      refine zq (σ := σ) hV hI rfl 5 ?_
      show vp_in v 8 ∧ V 27 [(0, .ref 30), (1, .int v), (2, .int e), (3, .int k)] [] (zuI σ 35 (Int32.toNatClampNeg v) e)
      refine ⟨zix (k := j) hj (by omega) (by decide), ?_⟩
      rw [zcl_k (i := v) (k := j) hj (by omega)]
      refine zq (σ := (zuI σ 35 j e)) hV hI rfl 5 ?_
      show vp_in v 8 ∧ V 34 [(0, .ref 30), (1, .int v), (2, .int e), (3, .int k)] [] (zuI (zuI σ 35 j e) 36 (Int32.toNatClampNeg v) k)
      refine ⟨zix (k := j) hj (by omega) (by decide), ?_⟩
      rw [zcl_k (i := v) (k := j) hj (by omega)]
      refine zq (σ := (zuI (zuI σ 35 j e) 36 j k)) hV hI rfl 2 ?_
      show K (some (.int 1)) (zuI (zuI σ 35 j e) 36 j k)
      exact hOk j hj hjm hb2
    · skip
      refine zq (σ := σ) hV hI rfl 1 ?_
      show (¬ (0 : Int32) = 0 → V 20 [(0, .ref 30), (1, .int v), (2, .int e), (3, .int k)] [] σ) ∧ (¬ (¬ (0 : Int32) = 0) → V 17 [(0, .ref 30), (1, .int v), (2, .int e), (3, .int k)] [] σ)
      refine ⟨fun hc => absurd hc (by decide), fun _ => ?_⟩
      refine zq (σ := σ) hV hI rfl 2 ?_
      show K (some (.int (-2))) σ
      exact hBad (fun q => hb2 q.2)
  · skip
    refine zq (σ := σ) hV hI rfl 1 ?_
    show ((0 : Int32) = 0 → V 17 [(0, .ref 30), (1, .int v), (2, .int e), (3, .int k)] [] σ) ∧ (¬ (0 : Int32) = 0 → V 8 [(0, .ref 30), (1, .int v), (2, .int e), (3, .int k)] [] σ)
    refine ⟨fun _ => ?_, fun hc => absurd (by decide) hc⟩
    refine zq (σ := σ) hV hI rfl 2 ?_
    show K (some (.int (-2))) σ
    exact hBad (fun q => hb1 q.1)
set_option maxRecDepth 8000 in
set_option maxHeartbeats 4000000 in
theorem release_M {d : Nat} {σ : zSt} {K : Option Value → zSt → Prop} (hI : zQI (kR 30 52) σ.2.2) (hK : K (some (.int (σ.1 30 5))) (zuI σ 30 5 0)) : zSp (d + 1) mX9_release [.ref 30] σ K := by
  refine ⟨⟨by decide, Nat.le_of_ble_eq_true rfl⟩, fun V hV => ?_⟩
  refine zq (σ := σ) hV hI rfl 8 ?_
  show K (some (.int (σ.1 30 5))) (zuI σ 30 5 0)
  exact hK
set_option maxRecDepth 8000 in
set_option maxHeartbeats 4000000 in
theorem friction_M {d : Nat} {σ : zSt} {K : Option Value → zSt → Prop} {f : Int32} (hI : zQI (kR 30 52) σ.2.2) (hBad : ¬ zBt 0 16 f → K (some (.int (-2))) σ) (hOk : zBt 0 16 f → K (some (.int (σ.1 30 8))) (zuI σ 30 8 f)) : zSp (d + 2) mX9_friction [.ref 30, .int f] σ K := by
  refine ⟨⟨by decide, Nat.le_of_ble_eq_true rfl⟩, fun V hV => ?_⟩
  refine zq (σ := σ) hV hI rfl 5 ?_
  show zSp _ 131 [.long (Int32.toInt64 f), .long 0, .long 16] σ (fun r σ' => σ'.2.2.2 = σ.2.2.2 + zAl 131 → V 9 [(0, .ref 30), (1, .int f)] (r.toList ++ []) σ')
  refine in_M (lo := 0) (hi := 16) (by decide) (by decide) (fun hb1 _ => ?_) (fun hb1 _ => ?_)
  · skip
    refine zq (σ := σ) hV hI rfl 1 ?_
    show (¬ (1 : Int32) = 0 → V 15 [(0, .ref 30), (1, .int f)] [] σ) ∧ (¬ (¬ (1 : Int32) = 0) → V 12 [(0, .ref 30), (1, .int f)] [] σ)
    refine ⟨fun _ => ?_, fun hc => absurd (by decide) hc⟩
    refine zq (σ := σ) hV hI rfl 8 ?_
    show K (some (.int (σ.1 30 8))) (zuI σ 30 8 f)
    exact hOk hb1
  · skip
    refine zq (σ := σ) hV hI rfl 1 ?_
    show (¬ (0 : Int32) = 0 → V 15 [(0, .ref 30), (1, .int f)] [] σ) ∧ (¬ (¬ (0 : Int32) = 0) → V 12 [(0, .ref 30), (1, .int f)] [] σ)
    refine ⟨fun hc => absurd hc (by decide), fun _ => ?_⟩
    refine zq (σ := σ) hV hI rfl 2 ?_
    show K (some (.int (-2))) σ
    exact hBad hb1
set_option maxRecDepth 8000 in
set_option maxHeartbeats 4000000 in
theorem corner_M {d : Nat} {σ : zSt} {K : Option Value → zSt → Prop} {i what : Int32} {n : Nat} (hI : zQI (kR 30 52) σ.2.2) (hn : σ.1 30 0 = nI n) (hn10 : n ≤ 10) (hBad : ¬ (zBt 0 (n - 1) i ∧ zBt 0 1 what) → K (some (.int (-1000))) σ) (hOk : ∀ k, i = nI k → k < n → zBt 0 (n - 1) i ∧ zBt 0 1 what → K (some (.int (if what = 0 then σ.1 31 k else σ.1 32 k))) σ) : zSp (d + 2) mX9_corner [.ref 30, .int i, .int what] σ K := by
  refine ⟨⟨by decide, Nat.le_of_ble_eq_true rfl⟩, fun V hV => ?_⟩
  refine zq (σ := σ) hV hI rfl 9 ?_
  show zSp _ 131 [.long (Int32.toInt64 i), .long 0, .long (Int32.toInt64 ((σ.1 30 0) - 1))] σ (fun r σ' => σ'.2.2.2 = σ.2.2.2 + zAl 131 → V 13 [(0, .ref 30), (1, .int i), (2, .int what)] (r.toList ++ []) σ')
  refine in_M (lo := 0) (hi := ((n : Nat) : Int) - 1) (by decide) (zpm hn (by omega)) (fun hb1 _ => ?_) (fun hb1 _ => ?_)
  · skip
    refine zq (σ := σ) hV hI rfl 1 ?_
    show ((1 : Int32) = 0 → V 26 [(0, .ref 30), (1, .int i), (2, .int what)] [] σ) ∧ (¬ (1 : Int32) = 0 → V 16 [(0, .ref 30), (1, .int i), (2, .int what)] [] σ)
    refine ⟨fun hc => absurd hc (by decide), fun _ => ?_⟩
    refine zq (σ := σ) hV hI rfl 5 ?_
    show zSp _ 131 [.long (Int32.toInt64 what), .long 0, .long 1] σ (fun r σ' => σ'.2.2.2 = σ.2.2.2 + zAl 131 → V 23 [(0, .ref 30), (1, .int i), (2, .int what)] (r.toList ++ []) σ')
    refine in_M (lo := 0) (hi := 1) (by decide) (by decide) (fun hb2 _ => ?_) (fun hb2 _ => ?_)
    · skip
      refine zq (σ := σ) hV hI rfl 1 ?_
      show (¬ (1 : Int32) = 0 → V 30 [(0, .ref 30), (1, .int i), (2, .int what)] [] σ) ∧ (¬ (¬ (1 : Int32) = 0) → V 26 [(0, .ref 30), (1, .int i), (2, .int what)] [] σ)
      refine ⟨fun _ => ?_, fun hc => absurd (by decide) hc⟩
      obtain ⟨k, hk, hk2, _⟩ := zNat (x := i) (by unfold zBt at hb1; omega)
      have hkm : k < n := by unfold zBt at hb1; omega
      refine zq (σ := σ) hV hI rfl 2 ?_
      show (¬ what = 0 → V 43 [(0, .ref 30), (1, .int i), (2, .int what)] [] σ) ∧ (¬ (¬ what = 0) → V 34 [(0, .ref 30), (1, .int i), (2, .int what)] [] σ)
      refine ⟨fun h_31 => ?_, fun h_31 => ?_⟩
      · skip
        refine zq (σ := σ) hV hI rfl 4 ?_
        show vp_in i 10 ∧ V 49 [(0, .ref 30), (1, .int i), (2, .int what)] [.int (σ.1 32 (Int32.toNatClampNeg i))] σ
        refine ⟨zix (k := k) hk (by omega) (by decide), ?_⟩
        rw [zcl_k (i := i) (k := k) hk (by omega)]
        refine zq (σ := σ) hV hI rfl 1 ?_
        show K (some (.int (σ.1 32 k))) σ
        have := hOk k hk hkm ⟨hb1, hb2⟩
        first | (rw [if_pos h_31] at this; exact this) | (rw [if_neg h_31] at this; exact this)
      · skip
        have h_31 := Classical.not_not.mp h_31
        refine zq (σ := σ) hV hI rfl 4 ?_
        show vp_in i 10 ∧ V 40 [(0, .ref 30), (1, .int i), (2, .int what)] [.int (σ.1 31 (Int32.toNatClampNeg i))] σ
        refine ⟨zix (k := k) hk (by omega) (by decide), ?_⟩
        rw [zcl_k (i := i) (k := k) hk (by omega)]
        refine zq (σ := σ) hV hI rfl 2 ?_
        show K (some (.int (σ.1 31 k))) σ
        have := hOk k hk hkm ⟨hb1, hb2⟩
        first | (rw [if_pos h_31] at this; exact this) | (rw [if_neg h_31] at this; exact this)
    · skip
      refine zq (σ := σ) hV hI rfl 1 ?_
      show (¬ (0 : Int32) = 0 → V 30 [(0, .ref 30), (1, .int i), (2, .int what)] [] σ) ∧ (¬ (¬ (0 : Int32) = 0) → V 26 [(0, .ref 30), (1, .int i), (2, .int what)] [] σ)
      refine ⟨fun hc => absurd hc (by decide), fun _ => ?_⟩
      refine zq (σ := σ) hV hI rfl 2 ?_
      show K (some (.int (-1000))) σ
      exact hBad (fun q => hb2 q.2)
  · skip
    refine zq (σ := σ) hV hI rfl 1 ?_
    show ((0 : Int32) = 0 → V 26 [(0, .ref 30), (1, .int i), (2, .int what)] [] σ) ∧ (¬ (0 : Int32) = 0 → V 16 [(0, .ref 30), (1, .int i), (2, .int what)] [] σ)
    refine ⟨fun _ => ?_, fun hc => absurd (by decide) hc⟩
    refine zq (σ := σ) hV hI rfl 2 ?_
    show K (some (.int (-1000))) σ
    exact hBad (fun q => hb1 q.1)
set_option maxRecDepth 8000 in
set_option maxHeartbeats 4000000 in
theorem middle_M {d : Nat} {σ : zSt} {K : Option Value → zSt → Prop} {what : Int32} {n : Nat} (hI : zQI (kR 30 52) σ.2.2) (hn : σ.1 30 0 = nI n) (hn10 : n ≤ 10) (hBad : ¬ zBt 0 2 what → K (some (.int (-1000000))) σ) (h0 : what = 0 → K (some (.int (zAr n (σ.1 31) (σ.1 32) n))) σ) (h1 : what = 1 → K (some (.int (zMx n (σ.1 31) (σ.1 32) n))) σ) (h2 : what = 2 → K (some (.int (zMy n (σ.1 31) (σ.1 32) n))) σ) : zSp (d + 4) mX9_middle [.ref 30, .int what] σ K := by
  refine ⟨⟨by decide, Nat.le_of_ble_eq_true rfl⟩, fun V hV => ?_⟩
  refine zq (σ := σ) hV hI rfl 2 ?_
  show ((Int32.toInt what < 0 ∨ 2 < Int32.toInt what) → V 43 [(0, .ref 30), (1, .int what)] [] σ) ∧ ((¬ Int32.toInt what < 0 ∧ ¬ 2 < Int32.toInt what) → ∃ off, (#[27, 32, 37] : Array Int)[(Int32.toInt what - 0).toNat]? = some off ∧ 0 ≤ ((1 : Nat) : Int) + off ∧ V (ztg 1 off) [(0, .ref 30), (1, .int what)] [] σ)
  refine ⟨fun hsw => ?_, fun hsw => ?_⟩
  · skip
    refine zq (σ := σ) hV hI rfl 2 ?_
    show K (some (.int (-1000000))) σ
    exact hBad (by unfold zBt; omega)
  · skip
    rcases (show Int32.toInt what = 0 ∨ Int32.toInt what = 1 ∨ Int32.toInt what = 2 by omega) with hx | hx | hx
    · skip
      refine ⟨27, by rw [hx]; rfl, by decide, ?_⟩
      show V 28 [(0, .ref 30), (1, .int what)] [] σ
      refine zq (σ := σ) hV hI rfl 2 ?_
      show zSp _ 135 [.ref 30] σ (fun r σ' => σ'.2.2.2 = σ.2.2.2 + zAl 135 → V 32 [(0, .ref 30), (1, .int what)] (r.toList ++ []) σ')
      refine area_M hI hn hn10 (fun _ => ?_)
      refine zq (σ := σ) hV hI rfl 1 ?_
      show K (some (.int (zAr n (σ.1 31) (σ.1 32) n))) σ
      exact h0 (by rw [zeq, hx]; rfl)
    · skip
      refine ⟨32, by rw [hx]; rfl, by decide, ?_⟩
      show V 33 [(0, .ref 30), (1, .int what)] [] σ
      refine zq (σ := σ) hV hI rfl 2 ?_
      show zSp _ 136 [.ref 30] σ (fun r σ' => σ'.2.2.2 = σ.2.2.2 + zAl 136 → V 37 [(0, .ref 30), (1, .int what)] (r.toList ++ []) σ')
      refine middleX_M hI hn hn10 (fun _ => ?_)
      refine zq (σ := σ) hV hI rfl 1 ?_
      show K (some (.int (zMx n (σ.1 31) (σ.1 32) n))) σ
      exact h1 (by rw [zeq, hx]; rfl)
    · skip
      refine ⟨37, by rw [hx]; rfl, by decide, ?_⟩
      show V 38 [(0, .ref 30), (1, .int what)] [] σ
      refine zq (σ := σ) hV hI rfl 2 ?_
      show zSp _ 137 [.ref 30] σ (fun r σ' => σ'.2.2.2 = σ.2.2.2 + zAl 137 → V 42 [(0, .ref 30), (1, .int what)] (r.toList ++ []) σ')
      refine middleY_M hI hn hn10 (fun _ => ?_)
      refine zq (σ := σ) hV hI rfl 1 ?_
      show K (some (.int (zMy n (σ.1 31) (σ.1 32) n))) σ
      exact h2 (by rw [zeq, hx]; rfl)
set_option maxRecDepth 8000 in
set_option maxHeartbeats 4000000 in
theorem isIn_M {d : Nat} {σ : zSt} {K : Option Value → zSt → Prop} {x y : Int32} {n : Nat} (hI : zQI (kR 30 52) σ.2.2) (hn : σ.1 30 0 = nI n) (hn10 : n ≤ 10) (hB : ∀ j, j < n → zBt (-30) 30 (σ.1 31 j) ∧ zBt (-30) 30 (σ.1 32 j)) (hBad : ¬ (zBt (-1000) 1000 x ∧ zBt (-1000) 1000 y) → K (some (.int (-2))) σ) (hOk : (zBt (-1000) 1000 x ∧ zBt (-1000) 1000 y) → K (some (.int (zSide n (σ.1 31) (σ.1 32) x y))) σ) : zSp (d + 3) mX9_isIn [.ref 30, .int x, .int y] σ K := by
  refine ⟨⟨by decide, Nat.le_of_ble_eq_true rfl⟩, fun V hV => ?_⟩
  refine zq (σ := σ) hV hI rfl 3 ?_
  show zSp _ 142 [.int x, .int y] σ (fun r σ' => σ'.2.2.2 = σ.2.2.2 + zAl 142 → V 5 [(0, .ref 30), (1, .int x), (2, .int y)] (r.toList ++ []) σ')
  refine isPlace_M (fun hb1 _ => ?_) (fun hb1 _ => ?_)
  · skip
    refine zq (σ := σ) hV hI rfl 1 ?_
    show ((1 : Int32) = 0 → V 17 [(0, .ref 30), (1, .int x), (2, .int y)] [] σ) ∧ (¬ (1 : Int32) = 0 → V 8 [(0, .ref 30), (1, .int x), (2, .int y)] [] σ)
    refine ⟨fun hc => absurd hc (by decide), fun _ => ?_⟩
    refine zq (σ := σ) hV hI rfl 4 ?_
    show zSp _ 141 [.ref 30, .int x, .int y] σ (fun r σ' => σ'.2.2.2 = σ.2.2.2 + zAl 141 → V 14 [(0, .ref 30), (1, .int x), (2, .int y)] (r.toList ++ []) σ')
    refine place_M hI hn hn10 hB hb1.1 hb1.2 (fun _ => ?_)
    refine zq (σ := σ) hV hI rfl 2 ?_
    show K (some (.int (zSide n (σ.1 31) (σ.1 32) x y))) σ
    exact hOk hb1
  · skip
    refine zq (σ := σ) hV hI rfl 1 ?_
    show ((0 : Int32) = 0 → V 17 [(0, .ref 30), (1, .int x), (2, .int y)] [] σ) ∧ (¬ (0 : Int32) = 0 → V 8 [(0, .ref 30), (1, .int x), (2, .int y)] [] σ)
    refine ⟨fun _ => ?_, fun hc => absurd (by decide) hc⟩
    refine zq (σ := σ) hV hI rfl 2 ?_
    show K (some (.int (-2))) σ
    exact hBad hb1
set_option maxRecDepth 8000 in
set_option maxHeartbeats 4000000 in
theorem probe_M {d : Nat} {σ : zSt} {K : Option Value → zSt → Prop} {x y : Int32} {m : Nat} (hI : zQI (kR 30 52) σ.2.2) (hs : σ.1 30 22 = nI m) (hm : m ≤ 20) (hBad : ¬ (zBt (-40) 40 x ∧ zBt (-40) 40 y) → K (some (.int (-2))) σ) (hFull : (zBt (-40) 40 x ∧ zBt (-40) 40 y) → m = 20 → K (some (.int (-4))) σ) (hOk : (zBt (-40) 40 x ∧ zBt (-40) 40 y) → m < 20 → K (some (.int (nI (m + 1)))) (zuI (zuI (zuI σ 43 m x) 44 m y) 30 22 (nI (m + 1)))) : zSp (d + 2) mX9_probe [.ref 30, .int x, .int y] σ K := by
  refine ⟨⟨by decide, Nat.le_of_ble_eq_true rfl⟩, fun V hV => ?_⟩
  refine zq (σ := σ) hV hI rfl 5 ?_
  show zSp _ 131 [.long (Int32.toInt64 x), .long (-40), .long 40] σ (fun r σ' => σ'.2.2.2 = σ.2.2.2 + zAl 131 → V 11 [(0, .ref 30), (1, .int x), (2, .int y)] (r.toList ++ []) σ')
  refine in_M (lo := (-40)) (hi := 40) (by decide) (by decide) (fun hb1 _ => ?_) (fun hb1 _ => ?_)
  · skip
    refine zq (σ := σ) hV hI rfl 1 ?_
    show ((1 : Int32) = 0 → V 28 [(0, .ref 30), (1, .int x), (2, .int y)] [] σ) ∧ (¬ (1 : Int32) = 0 → V 14 [(0, .ref 30), (1, .int x), (2, .int y)] [] σ)
    refine ⟨fun hc => absurd hc (by decide), fun _ => ?_⟩
    refine zq (σ := σ) hV hI rfl 5 ?_
    show zSp _ 131 [.long (Int32.toInt64 y), .long (-40), .long 40] σ (fun r σ' => σ'.2.2.2 = σ.2.2.2 + zAl 131 → V 25 [(0, .ref 30), (1, .int x), (2, .int y)] (r.toList ++ []) σ')
    refine in_M (lo := (-40)) (hi := 40) (by decide) (by decide) (fun hb2 _ => ?_) (fun hb2 _ => ?_)
    · skip
      refine zq (σ := σ) hV hI rfl 1 ?_
      show (¬ (1 : Int32) = 0 → V 31 [(0, .ref 30), (1, .int x), (2, .int y)] [] σ) ∧ (¬ (¬ (1 : Int32) = 0) → V 28 [(0, .ref 30), (1, .int x), (2, .int y)] [] σ)
      refine ⟨fun _ => ?_, fun hc => absurd (by decide) hc⟩
      refine zq (σ := σ) hV hI rfl 4 ?_
      show (¬ (σ.1 30 22) = 20 → V 43 [(0, .ref 30), (1, .int x), (2, .int y)] [] σ) ∧ (¬ (¬ (σ.1 30 22) = 20) → V 40 [(0, .ref 30), (1, .int x), (2, .int y)] [] σ)
      refine ⟨fun h_37 => ?_, fun h_37 => ?_⟩
      · skip
        rw [hs] at h_37
        have hcap : ¬ m = 20 := fun q => h_37 ((nI_eq (a := m) (b := 20) (by omega) (by decide)).mpr q)
        refine zq (σ := σ) hV hI rfl 6 ?_
        show vp_in (σ.1 30 22) 20 ∧ V 53 [(0, .ref 30), (1, .int x), (2, .int y)] [] (zuI σ 43 (Int32.toNatClampNeg (σ.1 30 22)) x)
        refine ⟨zix (k := m) hs (by omega) (by decide), ?_⟩
        rw [zcl_k (i := (σ.1 30 22)) (k := m) hs (by omega)]
        refine zq (σ := (zuI σ 43 m x)) hV hI rfl 6 ?_
        show vp_in (σ.1 30 22) 20 ∧ V 63 [(0, .ref 30), (1, .int x), (2, .int y)] [] (zuI (zuI σ 43 m x) 44 (Int32.toNatClampNeg (σ.1 30 22)) y)
        refine ⟨zix (k := m) hs (by omega) (by decide), ?_⟩
        rw [zcl_k (i := (σ.1 30 22)) (k := m) hs (by omega)]
        refine zq (σ := (zuI (zuI σ 43 m x) 44 m y)) hV hI rfl 9 ?_
        show K (some (.int ((σ.1 30 22) + 1))) (zuI (zuI (zuI σ 43 m x) 44 m y) 30 22 ((σ.1 30 22) + 1))
        rw [hs, nI_1]
        exact hOk ⟨hb1, hb2⟩ (by omega)
      · skip
        have h_37 := Classical.not_not.mp h_37
        refine zq (σ := σ) hV hI rfl 2 ?_
        show K (some (.int (-4))) σ
        rw [hs] at h_37
        have hcap := (nI_eq (a := m) (b := 20) (by omega) (by decide)).mp h_37
        exact hFull ⟨hb1, hb2⟩ hcap
    · skip
      refine zq (σ := σ) hV hI rfl 1 ?_
      show (¬ (0 : Int32) = 0 → V 31 [(0, .ref 30), (1, .int x), (2, .int y)] [] σ) ∧ (¬ (¬ (0 : Int32) = 0) → V 28 [(0, .ref 30), (1, .int x), (2, .int y)] [] σ)
      refine ⟨fun hc => absurd hc (by decide), fun _ => ?_⟩
      refine zq (σ := σ) hV hI rfl 2 ?_
      show K (some (.int (-2))) σ
      exact hBad (fun q => hb2 q.2)
  · skip
    refine zq (σ := σ) hV hI rfl 1 ?_
    show ((0 : Int32) = 0 → V 28 [(0, .ref 30), (1, .int x), (2, .int y)] [] σ) ∧ (¬ (0 : Int32) = 0 → V 14 [(0, .ref 30), (1, .int x), (2, .int y)] [] σ)
    refine ⟨fun _ => ?_, fun hc => absurd (by decide) hc⟩
    refine zq (σ := σ) hV hI rfl 2 ?_
    show K (some (.int (-2))) σ
    exact hBad (fun q => hb1 q.1)
set_option maxRecDepth 8000 in
set_option maxHeartbeats 4000000 in
theorem spot_M {d : Nat} {σ : zSt} {K : Option Value → zSt → Prop} {e k c : Int32} {n m : Nat} (hI : zQI (kR 30 52) σ.2.2) (hn : σ.1 30 0 = nI n) (hn10 : n ≤ 10) (hs : σ.1 30 18 = nI m) (hm : m ≤ 7) (hBad : ¬ ((zBt 0 (n - 1) e ∧ zBt 0 8 k) ∧ zBt 0 1000 c) → K (some (.int (-2))) σ) (hFull : ((zBt 0 (n - 1) e ∧ zBt 0 8 k) ∧ zBt 0 1000 c) → m = 7 → K (some (.int (-4))) σ) (hOk : ((zBt 0 (n - 1) e ∧ zBt 0 8 k) ∧ zBt 0 1000 c) → m < 7 → K (some (.int (nI (m + 1)))) (zuI (zuI (zuI (zuI σ 40 m e) 41 m k) 42 m c) 30 18 (nI (m + 1)))) : zSp (d + 3) mX9_spot [.ref 30, .int e, .int k, .int c] σ K := by
  refine ⟨⟨by decide, Nat.le_of_ble_eq_true rfl⟩, fun V hV => ?_⟩
  refine zq (σ := σ) hV hI rfl 4 ?_
  show zSp _ 144 [.ref 30, .int e, .int k] σ (fun r σ' => σ'.2.2.2 = σ.2.2.2 + zAl 144 → V 6 [(0, .ref 30), (1, .int e), (2, .int k), (3, .int c)] (r.toList ++ []) σ')
  refine isStand_M hI hn hn10 (fun hb1 _ => ?_) (fun hb1 _ => ?_)
  · skip
    refine zq (σ := σ) hV hI rfl 1 ?_
    show ((1 : Int32) = 0 → V 21 [(0, .ref 30), (1, .int e), (2, .int k), (3, .int c)] [] σ) ∧ (¬ (1 : Int32) = 0 → V 9 [(0, .ref 30), (1, .int e), (2, .int k), (3, .int c)] [] σ)
    refine ⟨fun hc => absurd hc (by decide), fun _ => ?_⟩
    refine zq (σ := σ) hV hI rfl 5 ?_
    show zSp _ 131 [.long (Int32.toInt64 c), .long 0, .long 1000] σ (fun r σ' => σ'.2.2.2 = σ.2.2.2 + zAl 131 → V 18 [(0, .ref 30), (1, .int e), (2, .int k), (3, .int c)] (r.toList ++ []) σ')
    refine in_M (lo := 0) (hi := 1000) (by decide) (by decide) (fun hb2 _ => ?_) (fun hb2 _ => ?_)
    · skip
      refine zq (σ := σ) hV hI rfl 1 ?_
      show (¬ (1 : Int32) = 0 → V 24 [(0, .ref 30), (1, .int e), (2, .int k), (3, .int c)] [] σ) ∧ (¬ (¬ (1 : Int32) = 0) → V 21 [(0, .ref 30), (1, .int e), (2, .int k), (3, .int c)] [] σ)
      refine ⟨fun _ => ?_, fun hc => absurd (by decide) hc⟩
      refine zq (σ := σ) hV hI rfl 4 ?_
      show (¬ (σ.1 30 18) = 7 → V 36 [(0, .ref 30), (1, .int e), (2, .int k), (3, .int c)] [] σ) ∧ (¬ (¬ (σ.1 30 18) = 7) → V 33 [(0, .ref 30), (1, .int e), (2, .int k), (3, .int c)] [] σ)
      refine ⟨fun h_30 => ?_, fun h_30 => ?_⟩
      · skip
        rw [hs] at h_30
        have hcap : ¬ m = 7 := fun q => h_30 ((nI_eq (a := m) (b := 7) (by omega) (by decide)).mpr q)
        refine zq (σ := σ) hV hI rfl 6 ?_
        show vp_in (σ.1 30 18) 7 ∧ V 46 [(0, .ref 30), (1, .int e), (2, .int k), (3, .int c)] [] (zuI σ 40 (Int32.toNatClampNeg (σ.1 30 18)) e)
        refine ⟨zix (k := m) hs (by omega) (by decide), ?_⟩
        rw [zcl_k (i := (σ.1 30 18)) (k := m) hs (by omega)]
        refine zq (σ := (zuI σ 40 m e)) hV hI rfl 6 ?_
        show vp_in (σ.1 30 18) 7 ∧ V 56 [(0, .ref 30), (1, .int e), (2, .int k), (3, .int c)] [] (zuI (zuI σ 40 m e) 41 (Int32.toNatClampNeg (σ.1 30 18)) k)
        refine ⟨zix (k := m) hs (by omega) (by decide), ?_⟩
        rw [zcl_k (i := (σ.1 30 18)) (k := m) hs (by omega)]
        refine zq (σ := (zuI (zuI σ 40 m e) 41 m k)) hV hI rfl 6 ?_
        show vp_in (σ.1 30 18) 7 ∧ V 66 [(0, .ref 30), (1, .int e), (2, .int k), (3, .int c)] [] (zuI (zuI (zuI σ 40 m e) 41 m k) 42 (Int32.toNatClampNeg (σ.1 30 18)) c)
        refine ⟨zix (k := m) hs (by omega) (by decide), ?_⟩
        rw [zcl_k (i := (σ.1 30 18)) (k := m) hs (by omega)]
        refine zq (σ := (zuI (zuI (zuI σ 40 m e) 41 m k) 42 m c)) hV hI rfl 9 ?_
        show K (some (.int ((σ.1 30 18) + 1))) (zuI (zuI (zuI (zuI σ 40 m e) 41 m k) 42 m c) 30 18 ((σ.1 30 18) + 1))
        rw [hs, nI_1]
        exact hOk ⟨hb1, hb2⟩ (by omega)
      · skip
        have h_30 := Classical.not_not.mp h_30
        refine zq (σ := σ) hV hI rfl 2 ?_
        show K (some (.int (-4))) σ
        rw [hs] at h_30
        have hcap := (nI_eq (a := m) (b := 7) (by omega) (by decide)).mp h_30
        exact hFull ⟨hb1, hb2⟩ hcap
    · skip
      refine zq (σ := σ) hV hI rfl 1 ?_
      show (¬ (0 : Int32) = 0 → V 24 [(0, .ref 30), (1, .int e), (2, .int k), (3, .int c)] [] σ) ∧ (¬ (¬ (0 : Int32) = 0) → V 21 [(0, .ref 30), (1, .int e), (2, .int k), (3, .int c)] [] σ)
      refine ⟨fun hc => absurd hc (by decide), fun _ => ?_⟩
      refine zq (σ := σ) hV hI rfl 2 ?_
      show K (some (.int (-2))) σ
      exact hBad (fun q => hb2 q.2)
  · skip
    refine zq (σ := σ) hV hI rfl 1 ?_
    show ((0 : Int32) = 0 → V 21 [(0, .ref 30), (1, .int e), (2, .int k), (3, .int c)] [] σ) ∧ (¬ (0 : Int32) = 0 → V 9 [(0, .ref 30), (1, .int e), (2, .int k), (3, .int c)] [] σ)
    refine ⟨fun _ => ?_, fun hc => absurd (by decide) hc⟩
    refine zq (σ := σ) hV hI rfl 2 ?_
    show K (some (.int (-2))) σ
    exact hBad (fun q => hb1 q.1)
set_option maxRecDepth 8000 in
set_option maxHeartbeats 4000000 in
theorem grip_M {d : Nat} {σ : zSt} {K : Option Value → zSt → Prop} {m : Nat} (hI : zQI (kR 30 52) σ.2.2) (hs : σ.1 30 25 = nI m) (hm : m ≤ 10) (hFull : m = 10 → K (some (.int (-4))) σ) (hOk : m < 10 → K (some (.int (nI m))) (zuI σ 30 25 (nI (m + 1)))) : zSp (d + 1) mX9_grip [.ref 30] σ K := by
  refine ⟨⟨by decide, Nat.le_of_ble_eq_true rfl⟩, fun V hV => ?_⟩
  refine zq (σ := σ) hV hI rfl 4 ?_
  show (¬ (σ.1 30 25) = 10 → V 12 [(0, .ref 30)] [] σ) ∧ (¬ (¬ (σ.1 30 25) = 10) → V 9 [(0, .ref 30)] [] σ)
  refine ⟨fun h_6 => ?_, fun h_6 => ?_⟩
  · skip
    refine zq (σ := σ) hV hI rfl 11 ?_
    show K (some (.int (((σ.1 30 25) + 1) - 1))) (zuI σ 30 25 ((σ.1 30 25) + 1))
    rw [hs] at h_6
    have hcap : ¬ m = 10 := fun q => h_6 ((nI_eq (a := m) (b := 10) (by omega) (by decide)).mpr q)
    rw [hs, nI_1, nI_pred]
    exact hOk (by omega)
  · skip
    have h_6 := Classical.not_not.mp h_6
    refine zq (σ := σ) hV hI rfl 2 ?_
    show K (some (.int (-4))) σ
    rw [hs] at h_6
    have hcap := (nI_eq (a := m) (b := 10) (by omega) (by decide)).mp h_6
    exact hFull hcap
set_option maxRecDepth 8000 in
set_option maxHeartbeats 4000000 in
theorem link_M {d : Nat} {σ : zSt} {K : Option Value → zSt → Prop} {a b c : Int32} {m : Nat} (hI : zQI (kR 30 52) σ.2.2) (hs : σ.1 30 25 = nI m) (hm : m ≤ 10) (hBad : ¬ (zBt 0 (m - 1) a ∧ zBt 0 (m - 1) b ∧ ¬ a = b ∧ zBt 1 1000 c) → K (some (.int (-2))) σ) (hOk : ∀ i j, a = nI i → i < m → b = nI j → j < m → (zBt 0 (m - 1) a ∧ zBt 0 (m - 1) b ∧ ¬ a = b ∧ zBt 1 1000 c) → K (some (.int 1)) (zuI (zuI σ 45 (i * 10 + j) c) 45 (j * 10 + i) c)) : zSp (d + 3) mX9_link [.ref 30, .int a, .int b, .int c] σ K := by
  refine ⟨⟨by decide, Nat.le_of_ble_eq_true rfl⟩, fun V hV => ?_⟩
  refine zq (σ := σ) hV hI rfl 3 ?_
  show zSp _ 175 [.ref 30, .int a] σ (fun r σ' => σ'.2.2.2 = σ.2.2.2 + zAl 175 → V 5 [(0, .ref 30), (1, .int a), (2, .int b), (3, .int c)] (r.toList ++ []) σ')
  refine isGrip_M hI hs (by omega) (fun hb1 _ => ?_) (fun hb1 _ => ?_)
  · skip
    refine zq (σ := σ) hV hI rfl 1 ?_
    show ((1 : Int32) = 0 → V 33 [(0, .ref 30), (1, .int a), (2, .int b), (3, .int c)] [] σ) ∧ (¬ (1 : Int32) = 0 → V 8 [(0, .ref 30), (1, .int a), (2, .int b), (3, .int c)] [] σ)
    refine ⟨fun hc => absurd hc (by decide), fun _ => ?_⟩
    refine zq (σ := σ) hV hI rfl 3 ?_
    show zSp _ 175 [.ref 30, .int b] σ (fun r σ' => σ'.2.2.2 = σ.2.2.2 + zAl 175 → V 13 [(0, .ref 30), (1, .int a), (2, .int b), (3, .int c)] (r.toList ++ []) σ')
    refine isGrip_M hI hs (by omega) (fun hb2 _ => ?_) (fun hb2 _ => ?_)
    · skip
      refine zq (σ := σ) hV hI rfl 1 ?_
      show ((1 : Int32) = 0 → V 33 [(0, .ref 30), (1, .int a), (2, .int b), (3, .int c)] [] σ) ∧ (¬ (1 : Int32) = 0 → V 16 [(0, .ref 30), (1, .int a), (2, .int b), (3, .int c)] [] σ)
      refine ⟨fun hc => absurd hc (by decide), fun _ => ?_⟩
      refine zq (σ := σ) hV hI rfl 3 ?_
      show (a = b → V 33 [(0, .ref 30), (1, .int a), (2, .int b), (3, .int c)] [] σ) ∧ (¬ a = b → V 21 [(0, .ref 30), (1, .int a), (2, .int b), (3, .int c)] [] σ)
      refine ⟨fun h_18 => ?_, fun h_18 => ?_⟩
      · skip
        refine zq (σ := σ) hV hI rfl 2 ?_
        show K (some (.int (-2))) σ
        exact hBad (fun q => q.2.2.1 h_18)
      · skip
        refine zq (σ := σ) hV hI rfl 5 ?_
        show zSp _ 131 [.long (Int32.toInt64 c), .long 1, .long 1000] σ (fun r σ' => σ'.2.2.2 = σ.2.2.2 + zAl 131 → V 30 [(0, .ref 30), (1, .int a), (2, .int b), (3, .int c)] (r.toList ++ []) σ')
        refine in_M (lo := 1) (hi := 1000) (by decide) (by decide) (fun hb3 _ => ?_) (fun hb3 _ => ?_)
        · skip
          refine zq (σ := σ) hV hI rfl 1 ?_
          show (¬ (1 : Int32) = 0 → V 36 [(0, .ref 30), (1, .int a), (2, .int b), (3, .int c)] [] σ) ∧ (¬ (¬ (1 : Int32) = 0) → V 33 [(0, .ref 30), (1, .int a), (2, .int b), (3, .int c)] [] σ)
          refine ⟨fun _ => ?_, fun hc => absurd (by decide) hc⟩
          obtain ⟨i, hi, hi2, _⟩ := zNat (x := a) (by unfold zBt at hb1; omega)
          have him : i < m := by unfold zBt at hb1; omega
          obtain ⟨j, hj, hj2, _⟩ := zNat (x := b) (by unfold zBt at hb2; omega)
          have hjm : j < m := by unfold zBt at hb2; omega
          have x1 : 10 * a + b = nI (i * 10 + j) := by rw [hi, hj, show (10 : Int32) = nI 10 from rfl, pk_mul, nI_add, Nat.mul_comm]
          have x2 : 10 * b + a = nI (j * 10 + i) := by rw [hi, hj, show (10 : Int32) = nI 10 from rfl, pk_mul, nI_add, Nat.mul_comm]
          refine zq (σ := σ) hV hI rfl 9 ?_
          show vp_in ((10 * a) + b) 100 ∧ V 48 [(0, .ref 30), (1, .int a), (2, .int b), (3, .int c)] [] (zuI σ 45 (Int32.toNatClampNeg ((10 * a) + b)) c)
          refine ⟨zix (k := (i * 10 + j)) x1 (by omega) (by decide), ?_⟩
          rw [zcl_k (i := ((10 * a) + b)) (k := (i * 10 + j)) x1 (by omega)]
          refine zq (σ := (zuI σ 45 (i * 10 + j) c)) hV hI rfl 9 ?_
          show vp_in ((10 * b) + a) 100 ∧ V 60 [(0, .ref 30), (1, .int a), (2, .int b), (3, .int c)] [] (zuI (zuI σ 45 (i * 10 + j) c) 45 (Int32.toNatClampNeg ((10 * b) + a)) c)
          refine ⟨zix (k := (j * 10 + i)) x2 (by omega) (by decide), ?_⟩
          rw [zcl_k (i := ((10 * b) + a)) (k := (j * 10 + i)) x2 (by omega)]
          refine zq (σ := (zuI (zuI σ 45 (i * 10 + j) c) 45 (j * 10 + i) c)) hV hI rfl 2 ?_
          show K (some (.int 1)) (zuI (zuI σ 45 (i * 10 + j) c) 45 (j * 10 + i) c)
          exact hOk i j hi him hj hjm ⟨hb1, hb2, h_18, hb3⟩
        · skip
          refine zq (σ := σ) hV hI rfl 1 ?_
          show (¬ (0 : Int32) = 0 → V 36 [(0, .ref 30), (1, .int a), (2, .int b), (3, .int c)] [] σ) ∧ (¬ (¬ (0 : Int32) = 0) → V 33 [(0, .ref 30), (1, .int a), (2, .int b), (3, .int c)] [] σ)
          refine ⟨fun hc => absurd hc (by decide), fun _ => ?_⟩
          refine zq (σ := σ) hV hI rfl 2 ?_
          show K (some (.int (-2))) σ
          exact hBad (fun q => hb3 q.2.2.2)
    · skip
      refine zq (σ := σ) hV hI rfl 1 ?_
      show ((0 : Int32) = 0 → V 33 [(0, .ref 30), (1, .int a), (2, .int b), (3, .int c)] [] σ) ∧ (¬ (0 : Int32) = 0 → V 16 [(0, .ref 30), (1, .int a), (2, .int b), (3, .int c)] [] σ)
      refine ⟨fun _ => ?_, fun hc => absurd (by decide) hc⟩
      refine zq (σ := σ) hV hI rfl 2 ?_
      show K (some (.int (-2))) σ
      exact hBad (fun q => hb2 q.2.1)
  · skip
    refine zq (σ := σ) hV hI rfl 1 ?_
    show ((0 : Int32) = 0 → V 33 [(0, .ref 30), (1, .int a), (2, .int b), (3, .int c)] [] σ) ∧ (¬ (0 : Int32) = 0 → V 8 [(0, .ref 30), (1, .int a), (2, .int b), (3, .int c)] [] σ)
    refine ⟨fun _ => ?_, fun hc => absurd (by decide) hc⟩
    refine zq (σ := σ) hV hI rfl 2 ?_
    show K (some (.int (-2))) σ
    exact hBad (fun q => hb1 q.1)
set_option maxRecDepth 8000 in
set_option maxHeartbeats 4000000 in
theorem drop_M {d : Nat} {σ : zSt} {K : Option Value → zSt → Prop} {m : Nat} (hI : zQI (kR 30 52) σ.2.2) (hs : σ.1 30 28 = nI m) (hm : m ≤ 12) (hFull : m = 12 → K (some (.int (-4))) σ) (hOk : m < 12 → K (some (.int (nI m))) (zuI (zuI σ 30 29 (σ.1 30 29 ||| (1 <<< (nI m &&& 31)))) 30 28 (nI (m + 1)))) : zSp (d + 1) mX9_drop [.ref 30] σ K := by
  refine ⟨⟨by decide, Nat.le_of_ble_eq_true rfl⟩, fun V hV => ?_⟩
  refine zq (σ := σ) hV hI rfl 4 ?_
  show (¬ (σ.1 30 28) = 12 → V 12 [(0, .ref 30)] [] σ) ∧ (¬ (¬ (σ.1 30 28) = 12) → V 9 [(0, .ref 30)] [] σ)
  refine ⟨fun h_6 => ?_, fun h_6 => ?_⟩
  · skip
    refine zq (σ := σ) hV hI rfl 20 ?_
    show K (some (.int (((σ.1 30 28) + 1) - 1))) (zuI (zuI σ 30 29 ((σ.1 30 29) ||| (1 <<< ((σ.1 30 28) &&& 31)))) 30 28 ((σ.1 30 28) + 1))
    rw [hs] at h_6
    have hcap : ¬ m = 12 := fun q => h_6 ((nI_eq (a := m) (b := 12) (by omega) (by decide)).mpr q)
    rw [hs, nI_1, nI_pred]
    exact hOk (by omega)
  · skip
    have h_6 := Classical.not_not.mp h_6
    refine zq (σ := σ) hV hI rfl 2 ?_
    show K (some (.int (-4))) σ
    rw [hs] at h_6
    have hcap := (nI_eq (a := m) (b := 12) (by omega) (by decide)).mp h_6
    exact hFull hcap
set_option maxRecDepth 8000 in
set_option maxHeartbeats 4000000 in
theorem on_M {d : Nat} {σ : zSt} {K : Option Value → zSt → Prop} {a b : Int32} {m : Nat} (hI : zQI (kR 30 52) σ.2.2) (hs : σ.1 30 28 = nI m) (hm : m ≤ 12) (hBad : ¬ (zBt 0 (m - 1) a ∧ zBt 0 (m - 1) b ∧ ¬ a = b) → K (some (.int (-2))) σ) (hOk : ∀ j, b = nI j → j < m → (zBt 0 (m - 1) a ∧ zBt 0 (m - 1) b ∧ ¬ a = b) → K (some (.int 1)) (zuI σ 47 j (σ.1 47 j ||| (1 <<< (a &&& 31))))) : zSp (d + 3) mX9_on [.ref 30, .int a, .int b] σ K := by
  refine ⟨⟨by decide, Nat.le_of_ble_eq_true rfl⟩, fun V hV => ?_⟩
  refine zq (σ := σ) hV hI rfl 3 ?_
  show zSp _ 179 [.ref 30, .int a] σ (fun r σ' => σ'.2.2.2 = σ.2.2.2 + zAl 179 → V 5 [(0, .ref 30), (1, .int a), (2, .int b)] (r.toList ++ []) σ')
  refine isDropped_M hI hs (by omega) (fun hb1 _ => ?_) (fun hb1 _ => ?_)
  · skip
    refine zq (σ := σ) hV hI rfl 1 ?_
    show ((1 : Int32) = 0 → V 21 [(0, .ref 30), (1, .int a), (2, .int b)] [] σ) ∧ (¬ (1 : Int32) = 0 → V 8 [(0, .ref 30), (1, .int a), (2, .int b)] [] σ)
    refine ⟨fun hc => absurd hc (by decide), fun _ => ?_⟩
    refine zq (σ := σ) hV hI rfl 3 ?_
    show zSp _ 179 [.ref 30, .int b] σ (fun r σ' => σ'.2.2.2 = σ.2.2.2 + zAl 179 → V 13 [(0, .ref 30), (1, .int a), (2, .int b)] (r.toList ++ []) σ')
    refine isDropped_M hI hs (by omega) (fun hb2 _ => ?_) (fun hb2 _ => ?_)
    · skip
      refine zq (σ := σ) hV hI rfl 1 ?_
      show ((1 : Int32) = 0 → V 21 [(0, .ref 30), (1, .int a), (2, .int b)] [] σ) ∧ (¬ (1 : Int32) = 0 → V 16 [(0, .ref 30), (1, .int a), (2, .int b)] [] σ)
      refine ⟨fun hc => absurd hc (by decide), fun _ => ?_⟩
      refine zq (σ := σ) hV hI rfl 3 ?_
      show (¬ a = b → V 24 [(0, .ref 30), (1, .int a), (2, .int b)] [] σ) ∧ (¬ (¬ a = b) → V 21 [(0, .ref 30), (1, .int a), (2, .int b)] [] σ)
      refine ⟨fun h_18 => ?_, fun h_18 => ?_⟩
      · skip
        obtain ⟨j, hj, hj2, _⟩ := zNat (x := b) (by unfold zBt at hb2; omega)
        have hjm : j < m := by unfold zBt at hb2; omega
        refine zq (σ := σ) hV hI rfl 5 ?_
        show vp_in b 12 ∧ V 31 [(0, .ref 30), (1, .int a), (2, .int b)] [.int (σ.1 47 (Int32.toNatClampNeg b)), .int b, .ref 47] σ
        refine ⟨zix (k := j) hj (by omega) (by decide), ?_⟩
        rw [zcl_k (i := b) (k := j) hj (by omega)]
        refine zq (σ := σ) hV hI rfl 5 ?_
        show vp_in b 12 ∧ V 36 [(0, .ref 30), (1, .int a), (2, .int b)] [] (zuI σ 47 (Int32.toNatClampNeg b) ((σ.1 47 j) ||| (1 <<< (a &&& 31))))
        refine ⟨zix (k := j) hj (by omega) (by decide), ?_⟩
        rw [zcl_k (i := b) (k := j) hj (by omega)]
        refine zq (σ := (zuI σ 47 j ((σ.1 47 j) ||| (1 <<< (a &&& 31))))) hV hI rfl 2 ?_
        show K (some (.int 1)) (zuI σ 47 j ((σ.1 47 j) ||| (1 <<< (a &&& 31))))
        exact hOk j hj hjm ⟨hb1, hb2, h_18⟩
      · skip
        have h_18 := Classical.not_not.mp h_18
        refine zq (σ := σ) hV hI rfl 2 ?_
        show K (some (.int (-2))) σ
        exact hBad (fun q => q.2.2 h_18)
    · skip
      refine zq (σ := σ) hV hI rfl 1 ?_
      show ((0 : Int32) = 0 → V 21 [(0, .ref 30), (1, .int a), (2, .int b)] [] σ) ∧ (¬ (0 : Int32) = 0 → V 16 [(0, .ref 30), (1, .int a), (2, .int b)] [] σ)
      refine ⟨fun _ => ?_, fun hc => absurd (by decide) hc⟩
      refine zq (σ := σ) hV hI rfl 2 ?_
      show K (some (.int (-2))) σ
      exact hBad (fun q => hb2 q.2.1)
  · skip
    refine zq (σ := σ) hV hI rfl 1 ?_
    show ((0 : Int32) = 0 → V 21 [(0, .ref 30), (1, .int a), (2, .int b)] [] σ) ∧ (¬ (0 : Int32) = 0 → V 8 [(0, .ref 30), (1, .int a), (2, .int b)] [] σ)
    refine ⟨fun _ => ?_, fun hc => absurd (by decide) hc⟩
    refine zq (σ := σ) hV hI rfl 2 ?_
    show K (some (.int (-2))) σ
    exact hBad (fun q => hb1 q.1)
set_option maxRecDepth 8000 in
set_option maxHeartbeats 4000000 in
theorem pick_M {d : Nat} {σ : zSt} {K : Option Value → zSt → Prop} {a : Int32} {m : Nat} (hI : zQI (kR 30 52) σ.2.2) (hs : σ.1 30 28 = nI m) (hm : m ≤ 12) (hBad : ¬ zBt 0 (m - 1) a → K (some (.int (-2))) σ) (hNot : zBt 0 (m - 1) a → ¬ (zBit (σ.1 30 29) a ∧ ∀ j, a = nI j → (σ.1 47 j &&& σ.1 30 29) = 0) → K (some (.int (-3))) σ) (hOk : ∀ j, a = nI j → j < m → zBt 0 (m - 1) a → zBit (σ.1 30 29) a → (σ.1 47 j &&& σ.1 30 29) = 0 → K (some (.int 1)) (zuI σ 30 29 (σ.1 30 29 &&& ((1 <<< (a &&& 31)) ^^^ (-1))))) : zSp (d + 3) mX9_pick [.ref 30, .int a] σ K := by
  refine ⟨⟨by decide, Nat.le_of_ble_eq_true rfl⟩, fun V hV => ?_⟩
  refine zq (σ := σ) hV hI rfl 3 ?_
  show zSp _ 179 [.ref 30, .int a] σ (fun r σ' => σ'.2.2.2 = σ.2.2.2 + zAl 179 → V 5 [(0, .ref 30), (1, .int a)] (r.toList ++ []) σ')
  refine isDropped_M hI hs (by omega) (fun hb1 _ => ?_) (fun hb1 _ => ?_)
  · skip
    refine zq (σ := σ) hV hI rfl 1 ?_
    show (¬ (1 : Int32) = 0 → V 11 [(0, .ref 30), (1, .int a)] [] σ) ∧ (¬ (¬ (1 : Int32) = 0) → V 8 [(0, .ref 30), (1, .int a)] [] σ)
    refine ⟨fun _ => ?_, fun hc => absurd (by decide) hc⟩
    refine zq (σ := σ) hV hI rfl 7 ?_
    show ((((σ.1 30 29) >>> (a &&& 31)) &&& 1) = 0 → V 36 [(0, .ref 30), (1, .int a)] [] σ) ∧ (¬ (((σ.1 30 29) >>> (a &&& 31)) &&& 1) = 0 → V 22 [(0, .ref 30), (1, .int a)] [] σ)
    refine ⟨fun h_19 => ?_, fun h_19 => ?_⟩
    · skip
      refine zq (σ := σ) hV hI rfl 2 ?_
      show K (some (.int (-3))) σ
      exact hNot hb1 (fun q => q.1 h_19)
    · skip
      obtain ⟨j, hj, hj2, _⟩ := zNat (x := a) (by unfold zBt at hb1; omega)
      have hjm : j < m := by unfold zBt at hb1; omega
      refine zq (σ := σ) hV hI rfl 4 ?_
      show vp_in a 12 ∧ V 28 [(0, .ref 30), (1, .int a)] [.int (σ.1 47 (Int32.toNatClampNeg a))] σ
      refine ⟨zix (k := j) hj (by omega) (by decide), ?_⟩
      rw [zcl_k (i := a) (k := j) hj (by omega)]
      refine zq (σ := σ) hV hI rfl 4 ?_
      show (((σ.1 47 j) &&& (σ.1 30 29)) = 0 → V 39 [(0, .ref 30), (1, .int a)] [] σ) ∧ (¬ ((σ.1 47 j) &&& (σ.1 30 29)) = 0 → V 36 [(0, .ref 30), (1, .int a)] [] σ)
      refine ⟨fun h_33 => ?_, fun h_33 => ?_⟩
      · skip
        refine zq (σ := σ) hV hI rfl 12 ?_
        show K (some (.int 1)) (zuI σ 30 29 ((σ.1 30 29) &&& ((1 <<< (a &&& 31)) ^^^ (-1))))
        exact hOk j hj hjm hb1 h_19 h_33
      · skip
        refine zq (σ := σ) hV hI rfl 2 ?_
        show K (some (.int (-3))) σ
        exact hNot hb1 (fun q => h_33 (q.2 j hj))
  · skip
    refine zq (σ := σ) hV hI rfl 1 ?_
    show (¬ (0 : Int32) = 0 → V 11 [(0, .ref 30), (1, .int a)] [] σ) ∧ (¬ (¬ (0 : Int32) = 0) → V 8 [(0, .ref 30), (1, .int a)] [] σ)
    refine ⟨fun hc => absurd hc (by decide), fun _ => ?_⟩
    refine zq (σ := σ) hV hI rfl 2 ?_
    show K (some (.int (-2))) σ
    exact hBad hb1
