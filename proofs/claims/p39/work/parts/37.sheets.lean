variable {zx : Nat × (Nat → Int32)}
def zKp (f v : Int32) : Int32 := if f = 0 then v.toInt8.toInt32 else if f = 1 then v.toInt16.toInt32 else v
theorem zix60 {k j : Nat} : nI k * 60 + nI j = nI (k * 60 + j) := by rw [show (60 : Int32) = nI 60 from rfl, pk_mul, nI_add]
set_option maxRecDepth 8000 in
set_option maxHeartbeats 4000000 in
theorem latest_ok {d : Nat} {σ : zSt} {K : Option Value → zSt → Prop} (hI : zQI (kR 26 30) σ.2.2) (hK : K (some (.int (σ.1 26 3))) σ) : zSp zx (d + 1) mX5_latestFinding [.ref 26] σ K := by
  refine ⟨⟨by decide, Nat.le_of_ble_eq_true rfl⟩, fun V hV => ?_⟩
  refine zq (σ := σ) hV hI rfl 3 ?_
  show K (some (.int (σ.1 26 3))) σ
  exact hK
set_option maxRecDepth 8000 in
set_option maxHeartbeats 4000000 in
theorem find_ok {d : Nat} {σ : zSt} {K : Option Value → zSt → Prop} {c : Int32} (hI : zQI (kR 26 30) σ.2.2) (hK : K (some (.int (-10 - c))) (zuI σ 26 3 c)) : zSp zx (d + 1) mX5_find [.ref 26, .int c] σ K := by
  refine ⟨⟨by decide, Nat.le_of_ble_eq_true rfl⟩, fun V hV => ?_⟩
  refine zq (σ := σ) hV hI rfl 7 ?_
  show K (some (.int ((-10) - c))) (zuI σ 26 3 c)
  exact hK
set_option maxRecDepth 8000 in
set_option maxHeartbeats 4000000 in
theorem sform_ok {d : Nat} {σ : zSt} {K : Option Value → zSt → Prop} {s : Int32} {k : Nat} (hI : zQI (kR 26 30) σ.2.2) (e : s = nI k) (hk : k < 4) (hK : K (some (.int (σ.1 27 k))) σ) : zSp zx (d + 2) mX5_form [.ref 26, .int s] σ K := by
  refine ⟨⟨by decide, Nat.le_of_ble_eq_true rfl⟩, fun V hV => ?_⟩
  subst e
  refine zq (σ := σ) hV hI rfl 4 ?_
  show zSp _ _ 79 [.ref 27, .int (nI k)] σ (fun r σ' => σ'.2.2.2 = σ.2.2.2 + zAl 79 → V 8 [(0, .ref 26), (1, .int (nI k))] (r.toList ++ []) σ')
  refine item_27 (zA_of hI rfl) rfl (by omega) (fun _ => ?_)
  refine zq (σ := σ) hV hI rfl 1 ?_
  show K (some (.int (σ.1 27 k))) σ
  exact hK
set_option maxRecDepth 8000 in
set_option maxHeartbeats 4000000 in
theorem slength_ok {d : Nat} {σ : zSt} {K : Option Value → zSt → Prop} {s : Int32} {k : Nat} (hI : zQI (kR 26 30) σ.2.2) (e : s = nI k) (hk : k < 4) (hK : K (some (.int (σ.1 28 k))) σ) : zSp zx (d + 2) mX5_length [.ref 26, .int s] σ K := by
  refine ⟨⟨by decide, Nat.le_of_ble_eq_true rfl⟩, fun V hV => ?_⟩
  subst e
  refine zq (σ := σ) hV hI rfl 4 ?_
  show zSp _ _ 79 [.ref 28, .int (nI k)] σ (fun r σ' => σ'.2.2.2 = σ.2.2.2 + zAl 79 → V 8 [(0, .ref 26), (1, .int (nI k))] (r.toList ++ []) σ')
  refine item_28 (zA_of hI rfl) rfl (by omega) (fun _ => ?_)
  refine zq (σ := σ) hV hI rfl 1 ?_
  show K (some (.int (σ.1 28 k))) σ
  exact hK
set_option maxRecDepth 8000 in
set_option maxHeartbeats 4000000 in
theorem isLost_ok {d : Nat} {σ : zSt} {K : Option Value → zSt → Prop} {s : Int32} {k : Nat} (hI : zQI (kR 26 30) σ.2.2) (e : s = nI k) (hk : k < 4) (h1 : σ.1 27 k = -1 → K (some (.int 1)) σ) (h0 : ¬ σ.1 27 k = -1 → K (some (.int 0)) σ) : zSp zx (d + 3) mX5_isLost [.ref 26, .int s] σ K := by
  refine ⟨⟨by decide, Nat.le_of_ble_eq_true rfl⟩, fun V hV => ?_⟩
  subst e
  refine zq (σ := σ) hV hI rfl 3 ?_
  show zSp _ _ 28 [.ref 26, .int (nI k)] σ (fun r σ' => σ'.2.2.2 = σ.2.2.2 + zAl 28 → V 5 [(0, .ref 26), (1, .int (nI k))] (r.toList ++ []) σ')
  refine sform_ok (zR_of hI rfl rfl) rfl (by omega) (fun _ => ?_)
  refine zq (σ := σ) hV hI rfl 2 ?_
  show (¬ (σ.1 27 k) = (-1) → V 13 [(0, .ref 26), (1, .int (nI k))] [] σ) ∧ (¬ (¬ (σ.1 27 k) = (-1)) → V 9 [(0, .ref 26), (1, .int (nI k))] [] σ)
  refine ⟨fun h_6 => ?_, fun h_6 => ?_⟩
  · skip
    refine zq (σ := σ) hV hI rfl 2 ?_
    show ((0 : Int32) = 0 ∨ (0 : Int32) = 1) ∧ K (some (.int 0)) σ
    refine ⟨by decide, ?_⟩
    exact h0 h_6
  · skip
    have h_6 := Classical.not_not.mp h_6
    refine zq (σ := σ) hV hI rfl 3 ?_
    show ((1 : Int32) = 0 ∨ (1 : Int32) = 1) ∧ K (some (.int 1)) σ
    refine ⟨by decide, ?_⟩
    exact h1 h_6
set_option maxRecDepth 8000 in
set_option maxHeartbeats 4000000 in
theorem forget_ok {d : Nat} {σ : zSt} {K : Option Value → zSt → Prop} {s : Int32} {k : Nat} (hI : zQI (kR 26 30) σ.2.2) (e : s = nI k) (hk : k < 4) (hK : K none (zuI (zuI σ 27 k (-1)) 28 k 0)) : zSp zx (d + 2) mX5_forget [.ref 26, .int s] σ K := by
  refine ⟨⟨by decide, Nat.le_of_ble_eq_true rfl⟩, fun V hV => ?_⟩
  subst e
  refine zq (σ := σ) hV hI rfl 5 ?_
  show zSp _ _ 80 [.ref 27, .int (nI k), .int (-1)] σ (fun r σ' => σ'.2.2.2 = σ.2.2.2 + zAl 80 → V 9 [(0, .ref 26), (1, .int (nI k))] (r.toList ++ []) σ')
  refine setItem_27 (zA_of hI rfl) rfl (by omega) (fun _ => ?_)
  refine zq (σ := (zuI σ 27 k (-1))) hV hI rfl 5 ?_
  show zSp _ _ 80 [.ref 28, .int (nI k), .int 0] (zuI σ 27 k (-1)) (fun r σ' => σ'.2.2.2 = (zuI σ 27 k (-1)).2.2.2 + zAl 80 → V 18 [(0, .ref 26), (1, .int (nI k))] (r.toList ++ []) σ')
  refine setItem_28 (zA_of hI rfl) rfl (by omega) (fun _ => ?_)
  refine zq (σ := (zuI (zuI σ 27 k (-1)) 28 k 0)) hV hI rfl 1 ?_
  show K none (zuI (zuI σ 27 k (-1)) 28 k 0)
  exact hK
set_option maxRecDepth 8000 in
set_option maxHeartbeats 4000000 in
theorem svalue_ok {d : Nat} {σ : zSt} {K : Option Value → zSt → Prop} {s i : Int32} {k j : Nat} (hI : zQI (kR 26 30) σ.2.2) (e : s = nI k) (hk : k < 4) (ei : i = nI j) (hj : j < 60) (hK : K (some (.int (σ.1 29 (k * 60 + j)))) σ) : zSp zx (d + 2) mX5_value [.ref 26, .int s, .int i] σ K := by
  refine ⟨⟨by decide, Nat.le_of_ble_eq_true rfl⟩, fun V hV => ?_⟩
  subst e
  subst ei
  refine zq (σ := σ) hV hI rfl 8 ?_
  show zSp _ _ 79 [.ref 29, .int (((nI k) * 60) + (nI j))] σ (fun r σ' => σ'.2.2.2 = σ.2.2.2 + zAl 79 → V 13 [(0, .ref 26), (1, .int (nI k)), (2, .int (nI j))] (r.toList ++ []) σ')
  refine item_29 (zA_of hI rfl) zix60 (by omega) (fun _ => ?_)
  refine zq (σ := σ) hV hI rfl 1 ?_
  show K (some (.int (σ.1 29 (k * 60 + j)))) σ
  exact hK
set_option maxRecDepth 8000 in
set_option maxHeartbeats 4000000 in
theorem write_ok {d : Nat} {σ : zSt} {K : Option Value → zSt → Prop} {s i v : Int32} {k j : Nat} (hI : zQI (kR 26 30) σ.2.2) (e : s = nI k) (hk : k < 4) (ei : i = nI j) (hj : j < 60) (hK : K none (zuI σ 29 (k * 60 + j) (zKp (σ.1 27 k) v))) : zSp zx (d + 3) mX5_write [.ref 26, .int s, .int i, .int v] σ K := by
  refine ⟨⟨by decide, Nat.le_of_ble_eq_true rfl⟩, fun V hV => ?_⟩
  subst e
  subst ei
  refine zq (σ := σ) hV hI rfl 3 ?_
  show zSp _ _ 28 [.ref 26, .int (nI k)] σ (fun r σ' => σ'.2.2.2 = σ.2.2.2 + zAl 28 → V 5 [(0, .ref 26), (1, .int (nI k)), (2, .int (nI j)), (3, .int v)] (r.toList ++ []) σ')
  refine sform_ok (zR_of hI rfl rfl) rfl (by omega) (fun _ => ?_)
  refine zq (σ := σ) hV hI rfl 1 ?_
  show (¬ (σ.1 27 k) = 0 → V 13 [(0, .ref 26), (1, .int (nI k)), (2, .int (nI j)), (3, .int v)] [] σ) ∧ (¬ (¬ (σ.1 27 k) = 0) → V 8 [(0, .ref 26), (1, .int (nI k)), (2, .int (nI j)), (3, .int v)] [] σ)
  refine ⟨fun h_5 => ?_, fun h_5 => ?_⟩
  · skip
    refine zq (σ := σ) hV hI rfl 3 ?_
    show zSp _ _ 28 [.ref 26, .int (nI k)] σ (fun r σ' => σ'.2.2.2 = σ.2.2.2 + zAl 28 → V 18 [(0, .ref 26), (1, .int (nI k)), (2, .int (nI j)), (3, .int v)] (r.toList ++ []) σ')
    refine sform_ok (zR_of hI rfl rfl) rfl (by omega) (fun _ => ?_)
    refine zq (σ := σ) hV hI rfl 2 ?_
    show (¬ (σ.1 27 k) = 1 → V 27 [(0, .ref 26), (1, .int (nI k)), (2, .int (nI j)), (3, .int v)] [] σ) ∧ (¬ (¬ (σ.1 27 k) = 1) → V 22 [(0, .ref 26), (1, .int (nI k)), (2, .int (nI j)), (3, .int v)] [] σ)
    refine ⟨fun h_19 => ?_, fun h_19 => ?_⟩
    · skip
      refine zq (σ := σ) hV hI rfl 11 ?_
      show zSp _ _ 80 [.ref 29, .int (((nI k) * 60) + (nI j)), .int v] σ (fun r σ' => σ'.2.2.2 = σ.2.2.2 + zAl 80 → V 45 [(4, .int v), (0, .ref 26), (1, .int (nI k)), (2, .int (nI j)), (3, .int v)] (r.toList ++ []) σ')
      refine setItem_29 (zA_of hI rfl) zix60 (by omega) (fun _ => ?_)
      refine zq (σ := (zuI σ 29 (k * 60 + j) v)) hV hI rfl 1 ?_
      show K none (zuI σ 29 (k * 60 + j) v)
      unfold zKp at hK
      first | (rw [if_pos h_5] at hK; exact hK) | (rw [if_neg h_5, if_pos h_19] at hK; exact hK) | (rw [if_neg h_5, if_neg h_19] at hK; exact hK)
    · skip
      have h_19 := Classical.not_not.mp h_19
      refine zq (σ := σ) hV hI rfl 13 ?_
      show zSp _ _ 80 [.ref 29, .int (((nI k) * 60) + (nI j)), .int ((Int32.toInt16 v).toInt32)] σ (fun r σ' => σ'.2.2.2 = σ.2.2.2 + zAl 80 → V 45 [(4, .int ((Int32.toInt16 v).toInt32)), (0, .ref 26), (1, .int (nI k)), (2, .int (nI j)), (3, .int v)] (r.toList ++ []) σ')
      refine setItem_29 (zA_of hI rfl) zix60 (by omega) (fun _ => ?_)
      refine zq (σ := (zuI σ 29 (k * 60 + j) ((Int32.toInt16 v).toInt32))) hV hI rfl 1 ?_
      show K none (zuI σ 29 (k * 60 + j) ((Int32.toInt16 v).toInt32))
      unfold zKp at hK
      first | (rw [if_pos h_5] at hK; exact hK) | (rw [if_neg h_5, if_pos h_19] at hK; exact hK) | (rw [if_neg h_5, if_neg h_19] at hK; exact hK)
  · skip
    have h_5 := Classical.not_not.mp h_5
    refine zq (σ := σ) hV hI rfl 13 ?_
    show zSp _ _ 80 [.ref 29, .int (((nI k) * 60) + (nI j)), .int ((Int32.toInt8 v).toInt32)] σ (fun r σ' => σ'.2.2.2 = σ.2.2.2 + zAl 80 → V 45 [(4, .int ((Int32.toInt8 v).toInt32)), (0, .ref 26), (1, .int (nI k)), (2, .int (nI j)), (3, .int v)] (r.toList ++ []) σ')
    refine setItem_29 (zA_of hI rfl) zix60 (by omega) (fun _ => ?_)
    refine zq (σ := (zuI σ 29 (k * 60 + j) ((Int32.toInt8 v).toInt32))) hV hI rfl 1 ?_
    show K none (zuI σ 29 (k * 60 + j) ((Int32.toInt8 v).toInt32))
    unfold zKp at hK
    first | (rw [if_pos h_5] at hK; exact hK) | (rw [if_neg h_5, if_pos h_19] at hK; exact hK) | (rw [if_neg h_5, if_neg h_19] at hK; exact hK)
set_option maxRecDepth 8000 in
set_option maxHeartbeats 4000000 in
theorem faultAt_ok {d : Nat} {σ : zSt} {K : Option Value → zSt → Prop} {s f i : Int32} {k l : Nat} (hI : zQI (kR 26 30) σ.2.2) (e : s = nI k) (hk : k < 4) (hl : σ.1 28 k = nI l) (hl60 : l ≤ 60) (c1 : σ.1 27 k = -1 → K (some (.int 1)) σ) (c3 : ¬ σ.1 27 k = -1 → ¬ σ.1 27 k = f → K (some (.int 3)) σ) (c2 : ¬ σ.1 27 k = -1 → σ.1 27 k = f → ¬ zBt 0 (l - 1) i → K (some (.int 2)) σ) (c0 : ¬ σ.1 27 k = -1 → σ.1 27 k = f → zBt 0 (l - 1) i → K (some (.int 0)) σ) : zSp zx (d + 4) mX5_faultAt [.ref 26, .int s, .int f, .int i] σ K := by
  refine ⟨⟨by decide, Nat.le_of_ble_eq_true rfl⟩, fun V hV => ?_⟩
  subst e
  have hli := nI_toInt (show l < 2 ^ 31 by omega)
  refine zq (σ := σ) hV hI rfl 3 ?_
  show zSp _ _ 30 [.ref 26, .int (nI k)] σ (fun r σ' => σ'.2.2.2 = σ.2.2.2 + zAl 30 → V 5 [(0, .ref 26), (1, .int (nI k)), (2, .int f), (3, .int i)] (r.toList ++ []) σ')
  refine isLost_ok (zR_of hI rfl rfl) rfl (by omega) (fun hb1 _ => ?_) (fun hb1 _ => ?_)
  · skip
    refine zq (σ := σ) hV hI rfl 1 ?_
    show ((1 : Int32) = 0 → V 10 [(0, .ref 26), (1, .int (nI k)), (2, .int f), (3, .int i)] [] σ) ∧ (¬ (1 : Int32) = 0 → V 8 [(0, .ref 26), (1, .int (nI k)), (2, .int f), (3, .int i)] [] σ)
    refine ⟨fun hc => absurd hc (by decide), fun _ => ?_⟩
    refine zq (σ := σ) hV hI rfl 2 ?_
    show K (some (.int 1)) σ
    exact c1 hb1
  · skip
    refine zq (σ := σ) hV hI rfl 1 ?_
    show ((0 : Int32) = 0 → V 10 [(0, .ref 26), (1, .int (nI k)), (2, .int f), (3, .int i)] [] σ) ∧ (¬ (0 : Int32) = 0 → V 8 [(0, .ref 26), (1, .int (nI k)), (2, .int f), (3, .int i)] [] σ)
    refine ⟨fun _ => ?_, fun hc => absurd (by decide) hc⟩
    refine zq (σ := σ) hV hI rfl 3 ?_
    show zSp _ _ 28 [.ref 26, .int (nI k)] σ (fun r σ' => σ'.2.2.2 = σ.2.2.2 + zAl 28 → V 15 [(0, .ref 26), (1, .int (nI k)), (2, .int f), (3, .int i)] (r.toList ++ []) σ')
    refine sform_ok (zR_of hI rfl rfl) rfl (by omega) (fun _ => ?_)
    refine zq (σ := σ) hV hI rfl 2 ?_
    show ((σ.1 27 k) = f → V 21 [(0, .ref 26), (1, .int (nI k)), (2, .int f), (3, .int i)] [] σ) ∧ (¬ (σ.1 27 k) = f → V 19 [(0, .ref 26), (1, .int (nI k)), (2, .int f), (3, .int i)] [] σ)
    refine ⟨fun h_16 => ?_, fun h_16 => ?_⟩
    · skip
      refine zq (σ := σ) hV hI rfl 2 ?_
      show (i < 0 → V 34 [(0, .ref 26), (1, .int (nI k)), (2, .int f), (3, .int i)] [] σ) ∧ (¬ i < 0 → V 25 [(0, .ref 26), (1, .int (nI k)), (2, .int f), (3, .int i)] [] σ)
      refine ⟨fun h_22 => ?_, fun h_22 => ?_⟩
      · skip
        refine zq (σ := σ) hV hI rfl 3 ?_
        show K (some (.int 2)) σ
        refine c2 hb1 h_16 (by
          simp only [zlt, hl, hli] at h_22
          unfold zBt
          simp at h_22 ⊢
          omega)
      · skip
        refine zq (σ := σ) hV hI rfl 4 ?_
        show zSp _ _ 29 [.ref 26, .int (nI k)] σ (fun r σ' => σ'.2.2.2 = σ.2.2.2 + zAl 29 → V 31 [(0, .ref 26), (1, .int (nI k)), (2, .int f), (3, .int i)] (r.toList ++ [.int i]) σ')
        refine slength_ok (zR_of hI rfl rfl) rfl (by omega) (fun _ => ?_)
        refine zq (σ := σ) hV hI rfl 1 ?_
        show (i < (σ.1 28 k) → V 38 [(0, .ref 26), (1, .int (nI k)), (2, .int f), (3, .int i)] [] σ) ∧ (¬ i < (σ.1 28 k) → V 34 [(0, .ref 26), (1, .int (nI k)), (2, .int f), (3, .int i)] [] σ)
        refine ⟨fun h_31 => ?_, fun h_31 => ?_⟩
        · skip
          refine zq (σ := σ) hV hI rfl 2 ?_
          show K (some (.int 0)) σ
          refine c0 hb1 h_16 (by
            simp only [zlt, hl, hli] at h_22 h_31
            unfold zBt
            simp at h_22 h_31 ⊢
            omega)
        · skip
          refine zq (σ := σ) hV hI rfl 3 ?_
          show K (some (.int 2)) σ
          refine c2 hb1 h_16 (by
            simp only [zlt, hl, hli] at h_22 h_31
            unfold zBt
            simp at h_22 h_31 ⊢
            omega)
    · skip
      refine zq (σ := σ) hV hI rfl 2 ?_
      show K (some (.int 3)) σ
      exact c3 hb1 h_16
def zfRn (k : Nat) (a j : Nat) : Bool := (Nat.beq a 27 && Nat.beq j k) || (Nat.beq a 28 && Nat.beq j k) || (Nat.beq a 29 && (Nat.ble (k * 60) j && Nat.blt j (k * 60 + 60)))
set_option maxRecDepth 8000 in
set_option maxHeartbeats 4000000 in
theorem renew_ok {d : Nat} {σ : zSt} {K : Option Value → zSt → Prop} {s f c : Int32} {k : Nat} (hI : zQI (kR 26 30) σ.2.2) (e : s = nI k) (hk : k < 4) (hK : ∀ τ, zOnly (zfRn k) σ τ → τ.1 27 k = f → τ.1 28 k = c → (∀ j, j < 60 → τ.1 29 (k * 60 + j) = 0) → K none τ) : zSp zx (d + 2) mX5_renew [.ref 26, .int s, .int f, .int c] σ K := by
  refine ⟨⟨by decide, Nat.le_of_ble_eq_true rfl⟩, fun V hV => ?_⟩
  subst e
  refine zq (σ := σ) hV hI rfl 5 ?_
  show zSp _ _ 80 [.ref 27, .int (nI k), .int f] σ (fun r σ' => σ'.2.2.2 = σ.2.2.2 + zAl 80 → V 9 [(0, .ref 26), (1, .int (nI k)), (2, .int f), (3, .int c)] (r.toList ++ []) σ')
  refine setItem_27 (zA_of hI rfl) rfl (by omega) (fun _ => ?_)
  refine zq (σ := (zuI σ 27 k f)) hV hI rfl 5 ?_
  show zSp _ _ 80 [.ref 28, .int (nI k), .int c] (zuI σ 27 k f) (fun r σ' => σ'.2.2.2 = (zuI σ 27 k f).2.2.2 + zAl 80 → V 18 [(0, .ref 26), (1, .int (nI k)), (2, .int f), (3, .int c)] (r.toList ++ []) σ')
  refine setItem_28 (zA_of hI rfl) rfl (by omega) (fun _ => ?_)
  refine zq (σ := (zuI (zuI σ 27 k f) 28 k c)) hV hI rfl 2 ?_
  show V 21 [(4, .int 0), (0, .ref 26), (1, .int (nI k)), (2, .int f), (3, .int c)] [] (zuI (zuI σ 27 k f) 28 k c)
  refine zwk hV [1, 2, 3, 4, 0] rfl ?_
  have H : ∀ (r i : Nat) (τ : zSt), i + r = 60 → zOnly (zfRn k) σ τ → τ.1 27 k = f → τ.1 28 k = c → (∀ j, j < i → τ.1 29 (k * 60 + j) = 0) → V 21 [(0, .ref 26), (1, .int (nI k)), (2, .int f), (3, .int c), (4, .int (nI i))] [] τ := by
    intro r
    induction r with
    | zero =>
      intro i τ hir ht h7 h8 h9
      have hIt := zQI_eq hI ht.2.2
      have hnt : τ.2.2.2 = σ.2.2.2 := congrArg Prod.snd ht.2.2
      refine zq (σ := τ) hV hIt hnt 3 ?_
      show (60 ≤ (nI i) → V 49 [(0, .ref 26), (1, .int (nI k)), (2, .int f), (3, .int c), (4, .int (nI i))] [] τ) ∧ (¬ 60 ≤ (nI i) → V 28 [(0, .ref 26), (1, .int (nI k)), (2, .int f), (3, .int c), (4, .int (nI i))] [] τ)
      refine ⟨fun _ => ?_, fun hc => absurd (show (60 : Int32) ≤ nI i by rw [show i = 60 by omega]; decide) hc⟩
      refine zq (σ := τ) hV hIt hnt 1 ?_
      show K none τ
      obtain rfl : i = 60 := by omega
      exact hK τ ht h7 h8 h9
    | succ r ih =>
      intro i τ hir ht h7 h8 h9
      have hIt := zQI_eq hI ht.2.2
      have hnt : τ.2.2.2 = σ.2.2.2 := congrArg Prod.snd ht.2.2
      refine zq (σ := τ) hV hIt hnt 3 ?_
      show (60 ≤ (nI i) → V 49 [(0, .ref 26), (1, .int (nI k)), (2, .int f), (3, .int c), (4, .int (nI i))] [] τ) ∧ (¬ 60 ≤ (nI i) → V 28 [(0, .ref 26), (1, .int (nI k)), (2, .int f), (3, .int c), (4, .int (nI i))] [] τ)
      refine ⟨fun hc => absurd hc (show ¬ nI 60 ≤ nI i from nI_ge (by omega) (by decide)), fun _ => ?_⟩
      refine zq (σ := τ) hV hIt hnt 9 ?_
      show zSp _ _ 80 [.ref 29, .int (((nI k) * 60) + (nI i)), .int 0] τ (fun r σ' => σ'.2.2.2 = τ.2.2.2 + zAl 80 → V 43 [(0, .ref 26), (1, .int (nI k)), (2, .int f), (3, .int c), (4, .int (nI i))] (r.toList ++ []) σ')
      refine setItem_29 (zA_of hIt rfl) zix60 (by omega) (fun _ => ?_)
      refine zq (σ := (zuI τ 29 (k * 60 + i) 0)) hV hIt hnt 2 ?_
      show V 21 [(4, .int ((nI i) + 1)), (0, .ref 26), (1, .int (nI k)), (2, .int f), (3, .int c)] [] (zuI τ 29 (k * 60 + i) 0)
      refine zwk hV [1, 2, 3, 4, 0] rfl ?_
      rw [nI_1]
      refine ih (i + 1) _ (by omega) (ht.uI (by simp [zfRn]; omega)) ?_ ?_ (fun j q => ?_)
      · simp [zuI_get, h7]
      · simp [zuI_get, h8]
      · rw [zuI_get]
        by_cases hji : j = i
        · subst hji; simp
        · rw [if_neg (by omega)]; exact h9 j (by omega)
  refine H 60 0 _ rfl ?_ ?_ ?_ (fun j q => absurd q (Nat.not_lt_zero j))
  · exact (zOnly.rf.uI (by simp [zfRn])).uI (by simp [zfRn])
  · simp [zuI_get]
  · simp [zuI_get]
set_option maxRecDepth 8000 in
set_option maxHeartbeats 4000000 in
theorem sheet_C {d : Nat} {σ : zSt} {K : Option Value → zSt → Prop} {s f c : Int32} (hI : zQI (kR 0 30) σ.2.2) (hBad : ¬ (zBt 0 3 s ∧ zBt 0 2 f ∧ c.toInt ≤ 60) → K (some (.int (-2))) σ) (hSz : (zBt 0 3 s ∧ zBt 0 2 f ∧ c.toInt ≤ 60) → ¬ 0 ≤ c.toInt → K (some (.int (-10 - 5))) (zuI σ 26 3 5)) (hOk : ∀ τ k, (zBt 0 3 s ∧ zBt 0 2 f ∧ c.toInt ≤ 60) → 0 ≤ c.toInt → s = nI k → k < 4 → zOnly (zfRn k) σ τ → τ.1 27 k = f → τ.1 28 k = c → (∀ j, j < 60 → τ.1 29 (k * 60 + j) = 0) → K (some (.int c)) τ) : zSp zx (d + 3) mX8_sheet [.ref 0, .int s, .int f, .int c] σ K := by
  refine ⟨⟨by decide, Nat.le_of_ble_eq_true rfl⟩, fun V hV => ?_⟩
  refine zq (σ := σ) hV hI rfl 2 ?_
  show zSp _ _ 75 [.int s] σ (fun r σ' => σ'.2.2.2 = σ.2.2.2 + zAl 75 → V 4 [(0, .ref 0), (1, .int s), (2, .int f), (3, .int c)] (r.toList ++ []) σ')
  refine isSheet_ok (fun hb1 _ => ?_) (fun hb1 _ => ?_)
  · skip
    refine zq (σ := σ) hV hI rfl 1 ?_
    show ((1 : Int32) = 0 → V 20 [(0, .ref 0), (1, .int s), (2, .int f), (3, .int c)] [] σ) ∧ (¬ (1 : Int32) = 0 → V 7 [(0, .ref 0), (1, .int s), (2, .int f), (3, .int c)] [] σ)
    refine ⟨fun hc => absurd hc (by decide), fun _ => ?_⟩
    refine zq (σ := σ) hV hI rfl 2 ?_
    show zSp _ _ 76 [.int f] σ (fun r σ' => σ'.2.2.2 = σ.2.2.2 + zAl 76 → V 11 [(0, .ref 0), (1, .int s), (2, .int f), (3, .int c)] (r.toList ++ []) σ')
    refine isForm_ok (fun hb2 _ => ?_) (fun hb2 _ => ?_)
    · skip
      refine zq (σ := σ) hV hI rfl 1 ?_
      show ((1 : Int32) = 0 → V 20 [(0, .ref 0), (1, .int s), (2, .int f), (3, .int c)] [] σ) ∧ (¬ (1 : Int32) = 0 → V 14 [(0, .ref 0), (1, .int s), (2, .int f), (3, .int c)] [] σ)
      refine ⟨fun hc => absurd hc (by decide), fun _ => ?_⟩
      refine zq (σ := σ) hV hI rfl 3 ?_
      show (c ≤ 60 → V 23 [(0, .ref 0), (1, .int s), (2, .int f), (3, .int c)] [] σ) ∧ (¬ c ≤ 60 → V 20 [(0, .ref 0), (1, .int s), (2, .int f), (3, .int c)] [] σ)
      refine ⟨fun h_17 => ?_, fun h_17 => ?_⟩
      · skip
        refine zq (σ := σ) hV hI rfl 2 ?_
        show (0 ≤ c → V 36 [(0, .ref 0), (1, .int s), (2, .int f), (3, .int c)] [] σ) ∧ (¬ 0 ≤ c → V 27 [(0, .ref 0), (1, .int s), (2, .int f), (3, .int c)] [] σ)
        refine ⟨fun h_24 => ?_, fun h_24 => ?_⟩
        · skip
          refine zq (σ := σ) hV hI rfl 6 ?_
          show zSp _ _ 32 [.ref 26, .int s, .int f, .int c] σ (fun r σ' => σ'.2.2.2 = σ.2.2.2 + zAl 32 → V 46 [(0, .ref 0), (1, .int s), (2, .int f), (3, .int c)] (r.toList ++ []) σ')
          obtain ⟨k, hk, hk2, _⟩ := zNat (x := s) (by unfold zBt at hb1; omega)
          have hk4 : k < 4 := by unfold zBt at hb1; omega
          refine renew_ok (zR_of hI rfl rfl) hk (by omega) (fun τ ht h7 h8 h9 _ => ?_)
          have hIt := zQI_eq hI ht.2.2
          have hnt : τ.2.2.2 = σ.2.2.2 := congrArg Prod.snd ht.2.2
          refine zq (σ := τ) hV hIt hnt 2 ?_
          show K (some (.int c)) τ
          have hv : (zBt 0 3 s ∧ zBt 0 2 f ∧ c.toInt ≤ 60) := ⟨hb1, hb2, by simp only [zle] at h_17; simp at h_17; omega⟩
          have h24 : 0 ≤ c.toInt ↔ (0 : Int32) ≤ c := by rw [zle]; exact Iff.rfl
          exact hOk τ k hv (h24.mpr h_24) hk hk4 ht h7 h8 h9
        · skip
          refine zq (σ := σ) hV hI rfl 4 ?_
          show zSp _ _ 27 [.ref 26, .int 5] σ (fun r σ' => σ'.2.2.2 = σ.2.2.2 + zAl 27 → V 35 [(0, .ref 0), (1, .int s), (2, .int f), (3, .int c)] (r.toList ++ []) σ')
          refine find_ok (zR_of hI rfl rfl) (fun _ => ?_)
          refine zq (σ := (zuI σ 26 3 5)) hV hI rfl 1 ?_
          show K (some (.int ((-10) - 5))) (zuI σ 26 3 5)
          have hv : (zBt 0 3 s ∧ zBt 0 2 f ∧ c.toInt ≤ 60) := ⟨hb1, hb2, by simp only [zle] at h_17; simp at h_17; omega⟩
          have h24 : 0 ≤ c.toInt ↔ (0 : Int32) ≤ c := by rw [zle]; exact Iff.rfl
          exact hSz hv (fun q => h_24 (h24.mp q))
      · skip
        refine zq (σ := σ) hV hI rfl 2 ?_
        show K (some (.int (-2))) σ
        refine hBad (fun q => ?_)
        have q3 := q.2.2
        simp only [zle] at h_17
        simp at h_17
        omega
    · skip
      refine zq (σ := σ) hV hI rfl 1 ?_
      show ((0 : Int32) = 0 → V 20 [(0, .ref 0), (1, .int s), (2, .int f), (3, .int c)] [] σ) ∧ (¬ (0 : Int32) = 0 → V 14 [(0, .ref 0), (1, .int s), (2, .int f), (3, .int c)] [] σ)
      refine ⟨fun _ => ?_, fun hc => absurd (by decide) hc⟩
      refine zq (σ := σ) hV hI rfl 2 ?_
      show K (some (.int (-2))) σ
      exact hBad (fun q => hb2 q.2.1)
  · skip
    refine zq (σ := σ) hV hI rfl 1 ?_
    show ((0 : Int32) = 0 → V 20 [(0, .ref 0), (1, .int s), (2, .int f), (3, .int c)] [] σ) ∧ (¬ (0 : Int32) = 0 → V 7 [(0, .ref 0), (1, .int s), (2, .int f), (3, .int c)] [] σ)
    refine ⟨fun _ => ?_, fun hc => absurd (by decide) hc⟩
    refine zq (σ := σ) hV hI rfl 2 ?_
    show K (some (.int (-2))) σ
    exact hBad (fun q => hb1 q.1)
set_option maxRecDepth 8000 in
set_option maxHeartbeats 4000000 in
theorem put_C {d : Nat} {σ : zSt} {K : Option Value → zSt → Prop} {s f i v : Int32} (hI : zQI (kR 0 30) σ.2.2) (hL : ∀ k, k < 4 → ∃ l, σ.1 28 k = nI l ∧ l ≤ 60) (hBad : ¬ (zBt 0 3 s ∧ zBt 0 2 f) → K (some (.int (-2))) σ) (hNull : ∀ k, (zBt 0 3 s ∧ zBt 0 2 f) → s = nI k → k < 4 → σ.1 27 k = -1 → K (some (.int (-10 - 1))) (zuI σ 26 3 1)) (hCast : ∀ k, (zBt 0 3 s ∧ zBt 0 2 f) → s = nI k → k < 4 → ¬ σ.1 27 k = -1 → ¬ σ.1 27 k = f → K (some (.int (-10 - 3))) (zuI σ 26 3 3))
    (hIndex : ∀ k l, (zBt 0 3 s ∧ zBt 0 2 f) → s = nI k → k < 4 → ¬ σ.1 27 k = -1 → σ.1 27 k = f → σ.1 28 k = nI l → ¬ zBt 0 (l - 1) i → K (some (.int (-10 - 2))) (zuI σ 26 3 2)) (hOk : ∀ k l j, (zBt 0 3 s ∧ zBt 0 2 f) → s = nI k → k < 4 → ¬ σ.1 27 k = -1 → σ.1 27 k = f → σ.1 28 k = nI l → l ≤ 60 → i = nI j → j < l → K (some (.int 1)) (zuI σ 29 (k * 60 + j) (zKp (σ.1 27 k) v))) : zSp zx (d + 5) mX8_put [.ref 0, .int s, .int f, .int i, .int v] σ K := by
  refine ⟨⟨by decide, Nat.le_of_ble_eq_true rfl⟩, fun V hV => ?_⟩
  refine zq (σ := σ) hV hI rfl 2 ?_
  show zSp _ _ 75 [.int s] σ (fun r σ' => σ'.2.2.2 = σ.2.2.2 + zAl 75 → V 4 [(0, .ref 0), (1, .int s), (2, .int f), (3, .int i), (4, .int v)] (r.toList ++ []) σ')
  refine isSheet_ok (fun hb1 _ => ?_) (fun hb1 _ => ?_)
  · skip
    refine zq (σ := σ) hV hI rfl 1 ?_
    show ((1 : Int32) = 0 → V 14 [(0, .ref 0), (1, .int s), (2, .int f), (3, .int i), (4, .int v)] [] σ) ∧ (¬ (1 : Int32) = 0 → V 7 [(0, .ref 0), (1, .int s), (2, .int f), (3, .int i), (4, .int v)] [] σ)
    refine ⟨fun hc => absurd hc (by decide), fun _ => ?_⟩
    refine zq (σ := σ) hV hI rfl 2 ?_
    show zSp _ _ 76 [.int f] σ (fun r σ' => σ'.2.2.2 = σ.2.2.2 + zAl 76 → V 11 [(0, .ref 0), (1, .int s), (2, .int f), (3, .int i), (4, .int v)] (r.toList ++ []) σ')
    refine isForm_ok (fun hb2 _ => ?_) (fun hb2 _ => ?_)
    · skip
      refine zq (σ := σ) hV hI rfl 1 ?_
      show (¬ (1 : Int32) = 0 → V 17 [(0, .ref 0), (1, .int s), (2, .int f), (3, .int i), (4, .int v)] [] σ) ∧ (¬ (¬ (1 : Int32) = 0) → V 14 [(0, .ref 0), (1, .int s), (2, .int f), (3, .int i), (4, .int v)] [] σ)
      refine ⟨fun _ => ?_, fun hc => absurd (by decide) hc⟩
      obtain ⟨k, hk, hk2, _⟩ := zNat (x := s) (by unfold zBt at hb1; omega)
      have hk4 : k < 4 := by unfold zBt at hb1; omega
      refine zq (σ := σ) hV hI rfl 6 ?_
      show zSp _ _ 35 [.ref 26, .int s, .int f, .int i] σ (fun r σ' => σ'.2.2.2 = σ.2.2.2 + zAl 35 → V 27 [(0, .ref 0), (1, .int s), (2, .int f), (3, .int i), (4, .int v)] (r.toList ++ []) σ')
      obtain ⟨l, hl, hl60⟩ := hL k hk4
      refine faultAt_ok (zR_of hI rfl rfl) hk (by omega) hl hl60 (fun f1 _ => ?_) (fun f1 f2 _ => ?_) (fun f1 f2 f3 _ => ?_) (fun f1 f2 f3 _ => ?_)
      · skip
        refine zq (σ := σ) hV hI rfl 3 ?_
        show ((1 : Int32) = 0 → V 44 [(5, .int 1), (0, .ref 0), (1, .int s), (2, .int f), (3, .int i), (4, .int v)] [] σ) ∧ (¬ (1 : Int32) = 0 → V 34 [(5, .int 1), (0, .ref 0), (1, .int s), (2, .int f), (3, .int i), (4, .int v)] [] σ)
        refine ⟨fun hc => absurd hc (by decide), fun _ => ?_⟩
        refine zq (σ := σ) hV hI rfl 4 ?_
        show zSp _ _ 27 [.ref 26, .int 1] σ (fun r σ' => σ'.2.2.2 = σ.2.2.2 + zAl 27 → V 43 [(5, .int 1), (0, .ref 0), (1, .int s), (2, .int f), (3, .int i), (4, .int v)] (r.toList ++ []) σ')
        refine find_ok (zR_of hI rfl rfl) (fun _ => ?_)
        refine zq (σ := (zuI σ 26 3 1)) hV hI rfl 1 ?_
        show K (some (.int ((-10) - 1))) (zuI σ 26 3 1)
        exact hNull k ⟨hb1, hb2⟩ hk hk4 f1
      · skip
        refine zq (σ := σ) hV hI rfl 3 ?_
        show ((3 : Int32) = 0 → V 44 [(5, .int 3), (0, .ref 0), (1, .int s), (2, .int f), (3, .int i), (4, .int v)] [] σ) ∧ (¬ (3 : Int32) = 0 → V 34 [(5, .int 3), (0, .ref 0), (1, .int s), (2, .int f), (3, .int i), (4, .int v)] [] σ)
        refine ⟨fun hc => absurd hc (by decide), fun _ => ?_⟩
        refine zq (σ := σ) hV hI rfl 4 ?_
        show zSp _ _ 27 [.ref 26, .int 3] σ (fun r σ' => σ'.2.2.2 = σ.2.2.2 + zAl 27 → V 43 [(5, .int 3), (0, .ref 0), (1, .int s), (2, .int f), (3, .int i), (4, .int v)] (r.toList ++ []) σ')
        refine find_ok (zR_of hI rfl rfl) (fun _ => ?_)
        refine zq (σ := (zuI σ 26 3 3)) hV hI rfl 1 ?_
        show K (some (.int ((-10) - 3))) (zuI σ 26 3 3)
        exact hCast k ⟨hb1, hb2⟩ hk hk4 f1 f2
      · skip
        refine zq (σ := σ) hV hI rfl 3 ?_
        show ((2 : Int32) = 0 → V 44 [(5, .int 2), (0, .ref 0), (1, .int s), (2, .int f), (3, .int i), (4, .int v)] [] σ) ∧ (¬ (2 : Int32) = 0 → V 34 [(5, .int 2), (0, .ref 0), (1, .int s), (2, .int f), (3, .int i), (4, .int v)] [] σ)
        refine ⟨fun hc => absurd hc (by decide), fun _ => ?_⟩
        refine zq (σ := σ) hV hI rfl 4 ?_
        show zSp _ _ 27 [.ref 26, .int 2] σ (fun r σ' => σ'.2.2.2 = σ.2.2.2 + zAl 27 → V 43 [(5, .int 2), (0, .ref 0), (1, .int s), (2, .int f), (3, .int i), (4, .int v)] (r.toList ++ []) σ')
        refine find_ok (zR_of hI rfl rfl) (fun _ => ?_)
        refine zq (σ := (zuI σ 26 3 2)) hV hI rfl 1 ?_
        show K (some (.int ((-10) - 2))) (zuI σ 26 3 2)
        exact hIndex k l ⟨hb1, hb2⟩ hk hk4 f1 f2 hl f3
      · skip
        obtain ⟨j, hj, hj2, _⟩ := zNat (x := i) (by unfold zBt at f3; omega)
        have hjl : j < l := by unfold zBt at f3; omega
        refine zq (σ := σ) hV hI rfl 3 ?_
        show ((0 : Int32) = 0 → V 44 [(5, .int 0), (0, .ref 0), (1, .int s), (2, .int f), (3, .int i), (4, .int v)] [] σ) ∧ (¬ (0 : Int32) = 0 → V 34 [(5, .int 0), (0, .ref 0), (1, .int s), (2, .int f), (3, .int i), (4, .int v)] [] σ)
        refine ⟨fun _ => ?_, fun hc => absurd (by decide) hc⟩
        refine zq (σ := σ) hV hI rfl 6 ?_
        show zSp _ _ 34 [.ref 26, .int s, .int i, .int v] σ (fun r σ' => σ'.2.2.2 = σ.2.2.2 + zAl 34 → V 55 [(5, .int 0), (0, .ref 0), (1, .int s), (2, .int f), (3, .int i), (4, .int v)] (r.toList ++ []) σ')
        refine write_ok (zR_of hI rfl rfl) hk (by omega) hj (by omega) (fun _ => ?_)
        refine zq (σ := (zuI σ 29 (k * 60 + j) (zKp (σ.1 27 k) v))) hV hI rfl 2 ?_
        show K (some (.int 1)) (zuI σ 29 (k * 60 + j) (zKp (σ.1 27 k) v))
        exact hOk k l j ⟨hb1, hb2⟩ hk hk4 f1 f2 hl hl60 hj hjl
    · skip
      refine zq (σ := σ) hV hI rfl 1 ?_
      show (¬ (0 : Int32) = 0 → V 17 [(0, .ref 0), (1, .int s), (2, .int f), (3, .int i), (4, .int v)] [] σ) ∧ (¬ (¬ (0 : Int32) = 0) → V 14 [(0, .ref 0), (1, .int s), (2, .int f), (3, .int i), (4, .int v)] [] σ)
      refine ⟨fun hc => absurd hc (by decide), fun _ => ?_⟩
      refine zq (σ := σ) hV hI rfl 2 ?_
      show K (some (.int (-2))) σ
      exact hBad (fun q => hb2 q.2)
  · skip
    refine zq (σ := σ) hV hI rfl 1 ?_
    show ((0 : Int32) = 0 → V 14 [(0, .ref 0), (1, .int s), (2, .int f), (3, .int i), (4, .int v)] [] σ) ∧ (¬ (0 : Int32) = 0 → V 7 [(0, .ref 0), (1, .int s), (2, .int f), (3, .int i), (4, .int v)] [] σ)
    refine ⟨fun _ => ?_, fun hc => absurd (by decide) hc⟩
    refine zq (σ := σ) hV hI rfl 2 ?_
    show K (some (.int (-2))) σ
    exact hBad (fun q => hb1 q.1)
