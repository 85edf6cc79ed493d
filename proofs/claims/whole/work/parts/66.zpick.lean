set_option maxRecDepth 8000 in
set_option maxHeartbeats 4000000 in
theorem pick_C2 {d : Nat} {σ : zSt} {K : Option Value → zSt → Prop} {a : Int32} {m : Nat} (hI : zQI (kR 0 30) σ.2.2) (hs : σ.1 24 2 = nI m) (hm : m ≤ 12) (hBad : ¬ zBt 0 (m - 1) a → K (some (.int (-2))) σ) (hNot : zBt 0 (m - 1) a → ¬ (zBit (σ.1 24 1) a ∧ ∀ j, a = nI j → j < m → (σ.1 25 j &&& σ.1 24 1) = 0) → K (some (.int (-3))) σ) (hOk : ∀ j, a = nI j → j < m → zBt 0 (m - 1) a → zBit (σ.1 24 1) a → (σ.1 25 j &&& σ.1 24 1) = 0 → K (some (.int 1)) (zuI σ 24 1 (σ.1 24 1 &&& ((1 <<< (a &&& 31)) ^^^ (-1))))) : zSp (d + 3) mX8_pick [.ref 0, .int a] σ K := by
  refine ⟨⟨by decide, Nat.le_of_ble_eq_true rfl⟩, fun V hV => ?_⟩
  refine zq (σ := σ) hV hI rfl 3 ?_
  show zSp _ 127 [.ref 0, .int a] σ (fun r_z σ' => σ'.2.2.2 = σ.2.2.2 + zAl 127 → V 5 [(0, .ref 0), (1, .int a)] (r_z.toList ++ []) σ')
  refine isDropped_ok (zR_of hI rfl rfl) (by assumption) (by omega) (fun hb1 _ => ?_) (fun hb1 _ => ?_)
  · skip
    refine zq (σ := σ) hV hI rfl 1 ?_
    show (¬ (1 : Int32) = 0 → V 11 [(0, .ref 0), (1, .int a)] [] σ) ∧ (¬ (¬ (1 : Int32) = 0) → V 8 [(0, .ref 0), (1, .int a)] [] σ)
    refine ⟨fun _ => ?_, fun hc_z => absurd (by decide) hc_z⟩
    refine zq (σ := σ) hV hI rfl 4 ?_
    show zSp _ 5 [.ref 24, .int a] σ (fun r_z σ' => σ'.2.2.2 = σ.2.2.2 + zAl 5 → V 19 [(0, .ref 0), (1, .int a)] (r_z.toList ++ []) σ')
    refine isInside_ok (zR_of hI rfl rfl)  (fun hb2 _ => ?_) (fun hb2 _ => ?_)
    · skip
      refine zq (σ := σ) hV hI rfl 1 ?_
      show ((1 : Int32) = 0 → V 33 [(0, .ref 0), (1, .int a)] [] σ) ∧ (¬ (1 : Int32) = 0 → V 22 [(0, .ref 0), (1, .int a)] [] σ)
      refine ⟨fun hc_z => absurd hc_z (by decide), fun _ => ?_⟩
      refine zq (σ := σ) hV hI rfl 4 ?_
      show zSp _ 6 [.ref 24, .int a] σ (fun r_z σ' => σ'.2.2.2 = σ.2.2.2 + zAl 6 → V 30 [(0, .ref 0), (1, .int a)] (r_z.toList ++ []) σ')
      obtain ⟨j_z, hj, hj2, _⟩ := zNat (x := a) (by unfold zBt at hb1; omega)
      have hjm : j_z < m := by unfold zBt at hb1; omega
      refine isCovered_ok (zR_of hI rfl rfl) hj (by omega) (fun hb3 _ => ?_) (fun hb3 _ => ?_)
      · skip
        refine zq (σ := σ) hV hI rfl 1 ?_
        show ((1 : Int32) = 0 → V 36 [(0, .ref 0), (1, .int a)] [] σ) ∧ (¬ (1 : Int32) = 0 → V 33 [(0, .ref 0), (1, .int a)] [] σ)
        refine ⟨fun hc_z => absurd hc_z (by decide), fun _ => ?_⟩
        refine zq (σ := σ) hV hI rfl 2 ?_
        show K (some (.int (-3))) σ
        refine hNot hb1 (fun q_z => ?_)
        have q2_z := q_z.2 j_z hj hjm
        exact hb3 q2_z
      · skip
        refine zq (σ := σ) hV hI rfl 1 ?_
        show ((0 : Int32) = 0 → V 36 [(0, .ref 0), (1, .int a)] [] σ) ∧ (¬ (0 : Int32) = 0 → V 33 [(0, .ref 0), (1, .int a)] [] σ)
        refine ⟨fun _ => ?_, fun hc_z => absurd (by decide) hc_z⟩
        refine zq (σ := σ) hV hI rfl 4 ?_
        show zSp _ 7 [.ref 24, .int a] σ (fun r_z σ' => σ'.2.2.2 = σ.2.2.2 + zAl 7 → V 44 [(0, .ref 0), (1, .int a)] (r_z.toList ++ []) σ')
        refine bremove_ok (zR_of hI rfl rfl) (fun _ => ?_)
        refine zq (σ := (zuI σ 24 1 (σ.1 24 1 &&& ((1 <<< (a &&& 31)) ^^^ (-1))))) hV hI rfl 2 ?_
        show K (some (.int 1)) (zuI σ 24 1 (σ.1 24 1 &&& ((1 <<< (a &&& 31)) ^^^ (-1))))
        exact hOk j_z hj hjm hb1 hb2 (Classical.not_not.mp hb3)
    · skip
      refine zq (σ := σ) hV hI rfl 1 ?_
      show ((0 : Int32) = 0 → V 33 [(0, .ref 0), (1, .int a)] [] σ) ∧ (¬ (0 : Int32) = 0 → V 22 [(0, .ref 0), (1, .int a)] [] σ)
      refine ⟨fun _ => ?_, fun hc_z => absurd (by decide) hc_z⟩
      refine zq (σ := σ) hV hI rfl 2 ?_
      show K (some (.int (-3))) σ
      exact hNot hb1 (fun q_z => hb2 q_z.1)
  · skip
    refine zq (σ := σ) hV hI rfl 1 ?_
    show (¬ (0 : Int32) = 0 → V 11 [(0, .ref 0), (1, .int a)] [] σ) ∧ (¬ (¬ (0 : Int32) = 0) → V 8 [(0, .ref 0), (1, .int a)] [] σ)
    refine ⟨fun hc_z => absurd hc_z (by decide), fun _ => ?_⟩
    refine zq (σ := σ) hV hI rfl 2 ?_
    show K (some (.int (-2))) σ
    exact hBad hb1
set_option maxRecDepth 8000 in
set_option maxHeartbeats 4000000 in
theorem pick_M2 {d : Nat} {σ : zSt} {K : Option Value → zSt → Prop} {a : Int32} {m : Nat} (hI : zQI (kR 30 52) σ.2.2) (hs : σ.1 30 28 = nI m) (hm : m ≤ 12) (hBad : ¬ zBt 0 (m - 1) a → K (some (.int (-2))) σ) (hNot : zBt 0 (m - 1) a → ¬ (zBit (σ.1 30 29) a ∧ ∀ j, a = nI j → j < m → (σ.1 47 j &&& σ.1 30 29) = 0) → K (some (.int (-3))) σ) (hOk : ∀ j, a = nI j → j < m → zBt 0 (m - 1) a → zBit (σ.1 30 29) a → (σ.1 47 j &&& σ.1 30 29) = 0 → K (some (.int 1)) (zuI σ 30 29 (σ.1 30 29 &&& ((1 <<< (a &&& 31)) ^^^ (-1))))) : zSp (d + 3) mX9_pick [.ref 30, .int a] σ K := by
  refine ⟨⟨by decide, Nat.le_of_ble_eq_true rfl⟩, fun V hV => ?_⟩
  refine zq (σ := σ) hV hI rfl 3 ?_
  show zSp _ 179 [.ref 30, .int a] σ (fun r_z σ' => σ'.2.2.2 = σ.2.2.2 + zAl 179 → V 5 [(0, .ref 30), (1, .int a)] (r_z.toList ++ []) σ')
  refine isDropped_M hI hs (by omega) (fun hb1 _ => ?_) (fun hb1 _ => ?_)
  · skip
    refine zq (σ := σ) hV hI rfl 1 ?_
    show (¬ (1 : Int32) = 0 → V 11 [(0, .ref 30), (1, .int a)] [] σ) ∧ (¬ (¬ (1 : Int32) = 0) → V 8 [(0, .ref 30), (1, .int a)] [] σ)
    refine ⟨fun _ => ?_, fun hc_z => absurd (by decide) hc_z⟩
    refine zq (σ := σ) hV hI rfl 7 ?_
    show ((((σ.1 30 29) >>> (a &&& 31)) &&& 1) = 0 → V 36 [(0, .ref 30), (1, .int a)] [] σ) ∧ (¬ (((σ.1 30 29) >>> (a &&& 31)) &&& 1) = 0 → V 22 [(0, .ref 30), (1, .int a)] [] σ)
    refine ⟨fun h_19 => ?_, fun h_19 => ?_⟩
    · skip
      refine zq (σ := σ) hV hI rfl 2 ?_
      show K (some (.int (-3))) σ
      exact hNot hb1 (fun q_z => q_z.1 h_19)
    · skip
      obtain ⟨j_z, hj, hj2, _⟩ := zNat (x := a) (by unfold zBt at hb1; omega)
      have hjm : j_z < m := by unfold zBt at hb1; omega
      refine zq (σ := σ) hV hI rfl 4 ?_
      show vp_in a 12 ∧ V 28 [(0, .ref 30), (1, .int a)] [.int (σ.1 47 (Int32.toNatClampNeg a))] σ
      refine ⟨zix (k := j_z) hj (by omega) (by decide), ?_⟩
      rw [zcl_k (i := a) (k := j_z) hj (by omega)]
      refine zq (σ := σ) hV hI rfl 4 ?_
      show (((σ.1 47 j_z) &&& (σ.1 30 29)) = 0 → V 39 [(0, .ref 30), (1, .int a)] [] σ) ∧ (¬ ((σ.1 47 j_z) &&& (σ.1 30 29)) = 0 → V 36 [(0, .ref 30), (1, .int a)] [] σ)
      refine ⟨fun h_33 => ?_, fun h_33 => ?_⟩
      · skip
        refine zq (σ := σ) hV hI rfl 12 ?_
        show K (some (.int 1)) (zuI σ 30 29 ((σ.1 30 29) &&& ((1 <<< (a &&& 31)) ^^^ (-1))))
        exact hOk j_z hj hjm hb1 h_19 h_33
      · skip
        refine zq (σ := σ) hV hI rfl 2 ?_
        show K (some (.int (-3))) σ
        exact hNot hb1 (fun q_z => h_33 (q_z.2 j_z hj hjm))
  · skip
    refine zq (σ := σ) hV hI rfl 1 ?_
    show (¬ (0 : Int32) = 0 → V 11 [(0, .ref 30), (1, .int a)] [] σ) ∧ (¬ (¬ (0 : Int32) = 0) → V 8 [(0, .ref 30), (1, .int a)] [] σ)
    refine ⟨fun hc_z => absurd hc_z (by decide), fun _ => ?_⟩
    refine zq (σ := σ) hV hI rfl 2 ?_
    show K (some (.int (-2))) σ
    exact hBad hb1
