variable {zx : Nat × (Nat → Int32)} {n k s F j M : Nat} {X Y E S su sv sw : Nat → Int32} {g f0 wv : Int32} {V : Nat → zLo → List Value → zSt → Prop}
theorem zLy_b {a : Int32} {P : Nat → Int32} : ∀ {k : Nat}, (∀ j, j < k → zBt 0 8 (P j)) → ∀ q, q < zcn a k → zBt 0 8 (zLy a P k q)
  | 0, _, q, hq => absurd hq (Nat.not_lt_zero q)
  | k + 1, h, q, hq => by
    unfold zcn at hq; unfold zLy
    by_cases c : zbt a k = 0
    · rw [if_pos c] at hq ⊢; exact zLy_b (fun j hj => h j (by omega)) q hq
    · rw [if_neg c] at hq ⊢
      unfold upd
      by_cases e : q = zcn a k
      · rw [if_pos e]; exact h k (by omega)
      · rw [if_neg e]; exact zLy_b (fun j hj => h j (by omega)) q (by omega)
set_option maxRecDepth 8000 in
set_option maxHeartbeats 4000000 in
theorem zlE (hV : zOk (zSp zx 7) zx mL_law 31 V (fun (r : Option Value) (_ : zSt) => r = some (.int 1))) (hn10 : n ≤ 10) (hB : zHB n X Y) (hL : zx.1 ≤ 260) (hn4 : 4 ≤ n) (hF : F ≤ 7) {τ : zSt} (hs : zLS n X Y E S F g 0 su sv sw τ) : V 446 [(0, .ref zsc), (1, .ref 0), (3, .int (nI n)), (4, .int (nI F))] [] τ := by
  refine zq (σ := τ) hV hs.1.1 hs.1.2 3 ?_
  show zSp _ _ 82 [.ref zsc, .int 20] τ (fun r σ' => σ'.2.2.2 = τ.2.2.2 + zAl 82 → V 452 [(0, .ref zsc), (1, .ref 0), (3, .int (nI n)), (4, .int (nI F))] (r.toList ++ []) σ')
  refine cell_ok hL (k := 20) rfl (by omega) (fun _ => ?_)
  refine zq (σ := τ) hV hs.1.1 hs.1.2 2 ?_
  show zSp _ _ 83 [.int (zCe zx 20), .int 7] τ (fun r σ' => σ'.2.2.2 = τ.2.2.2 + zAl 83 → V 457 [(0, .ref zsc), (1, .ref 0), (3, .int (nI n)), (4, .int (nI F))] (r.toList ++ []) σ')
  refine up_ok (n := 7) rfl (by omega) (by omega) (fun _ => ?_)
  refine zq (σ := τ) hV hs.1.1 hs.1.2 1 ?_
  show V 459 [(6, .int (nI (zUp (zCe zx 20) 7))), (0, .ref zsc), (1, .ref 0), (3, .int (nI n)), (4, .int (nI F))] [] τ
  have hM : zUp (zCe zx 20) 7 ≤ 6 := by have := zUp_lt (x := zCe zx 20) (n := 7) (by decide); omega
  generalize zUp (zCe zx 20) 7 = M at hM ⊢
  refine zq (σ := τ) hV hs.1.1 hs.1.2 2 ?_
  show V 462 [(7, .int 0), (6, .int (nI M)), (0, .ref zsc), (1, .ref 0), (3, .int (nI n)), (4, .int (nI F))] [] τ
  refine zwk hV [2, 3, 4, 5, 1, 0] rfl ?_
  refine zlS hV hn10 hB hL hn4 hM (fun su sv sw τ hEs hP hs => ?_) M 0 su sv sw _ (by omega) ⟨fun i hi => absurd hi (Nat.not_lt_zero i), fun i hi => absurd hi (Nat.not_lt_zero i)⟩ (fun i hi => absurd hi (Nat.not_lt_zero i)) hs
  refine zq (σ := τ) hV hs.1.1 hs.1.2 2 ?_
  show zSp _ _ 67 [.ref 0] τ (fun r σ' => σ'.2.2.2 = τ.2.2.2 + zAl 67 → V 538 [(0, .ref zsc), (1, .ref 0), (3, .int (nI n)), (4, .int (nI F)), (6, .int (nI M))] (r.toList ++ []) σ')
  refine cheapest_L hs hn10 (by omega) hEs (fun τ1 hs1 _ => ?_)
  refine zq (σ := τ1) hV hs1.1.1 hs1.1.2 3 ?_
  show zSp _ _ 68 [.ref 0] τ1 (fun r σ' => σ'.2.2.2 = τ1.2.2.2 + zAl 68 → V 544 [(7, .int (zChe n X Y g su sv sw M)), (0, .ref zsc), (1, .ref 0), (3, .int (nI n)), (4, .int (nI F)), (6, .int (nI M))] (r.toList ++ []) σ')
  refine take_L hs1 hn10 (by omega) hEs (fun τ2 hs2 he _ => ?_) (fun τ2 E2 S2 be he hne hE2 hs2 _ => ?_)
  · skip
    rw [he]
    refine zq (σ := τ2) hV hs2.1.1 hs2.1.2 3 ?_
    show (0 ≤ ((-1) : Int32) → V 580 [(8, .int (-3)), (7, .int (-1)), (0, .ref zsc), (1, .ref 0), (3, .int (nI n)), (4, .int (nI F)), (6, .int (nI M))] [] τ2) ∧ (¬ 0 ≤ ((-1) : Int32) → V 551 [(8, .int (-3)), (7, .int (-1)), (0, .ref zsc), (1, .ref 0), (3, .int (nI n)), (4, .int (nI F)), (6, .int (nI M))] [] τ2)
    refine ⟨fun hc => absurd hc (by decide), fun _ => ?_⟩
    refine zq (σ := τ2) hV hs2.1.1 hs2.1.2 3 ?_
    show (¬ ((-1) : Int32) = (-1) → V 578 [(8, .int (-3)), (7, .int (-1)), (0, .ref zsc), (1, .ref 0), (3, .int (nI n)), (4, .int (nI F)), (6, .int (nI M))] [] τ2) ∧ (¬ (¬ ((-1) : Int32) = (-1)) → V 557 [(8, .int (-3)), (7, .int (-1)), (0, .ref zsc), (1, .ref 0), (3, .int (nI n)), (4, .int (nI F)), (6, .int (nI M))] [] τ2)
    refine ⟨fun hc => absurd hc (by decide), fun _ => ?_⟩
    refine zq (σ := τ2) hV hs2.1.1 hs2.1.2 3 ?_
    show (¬ ((-3) : Int32) = (-3) → V 578 [(8, .int (-3)), (7, .int (-1)), (0, .ref zsc), (1, .ref 0), (3, .int (nI n)), (4, .int (nI F)), (6, .int (nI M))] [] τ2) ∧ (¬ (¬ ((-3) : Int32) = (-3)) → V 564 [(8, .int (-3)), (7, .int (-1)), (0, .ref zsc), (1, .ref 0), (3, .int (nI n)), (4, .int (nI F)), (6, .int (nI M))] [] τ2)
    refine ⟨fun hc => absurd hc (by decide), fun _ => ?_⟩
    refine zq (σ := τ2) hV hs2.1.1 hs2.1.2 3 ?_
    show zSp _ _ 71 [.ref 0, .int 1] τ2 (fun r σ' => σ'.2.2.2 = τ2.2.2.2 + zAl 71 → V 569 [(8, .int (-3)), (7, .int (-1)), (0, .ref zsc), (1, .ref 0), (3, .int (nI n)), (4, .int (nI F)), (6, .int (nI M))] (r.toList ++ []) σ')
    refine count_L1 hs2 (fun _ => ?_)
    refine zq (σ := τ2) hV hs2.1.1 hs2.1.2 2 ?_
    show (¬ (nI F) = (nI F) → V 578 [(8, .int (-3)), (7, .int (-1)), (0, .ref zsc), (1, .ref 0), (3, .int (nI n)), (4, .int (nI F)), (6, .int (nI M))] [] τ2) ∧ (¬ (¬ (nI F) = (nI F)) → V 574 [(8, .int (-3)), (7, .int (-1)), (0, .ref zsc), (1, .ref 0), (3, .int (nI n)), (4, .int (nI F)), (6, .int (nI M))] [] τ2)
    refine ⟨fun hc => absurd hc (fun y => y rfl), fun _ => ?_⟩
    refine zq (σ := τ2) hV hs2.1.1 hs2.1.2 3 ?_
    show ((1 : Int32) = 0 ∨ (1 : Int32) = 1) ∧ (fun (r : Option Value) (_ : zSt) => r = some (.int 1)) (some (.int 1)) τ2
    refine ⟨by decide, ?_⟩
    exact rfl
  · skip
    rw [he]
    have hc7 := zcn_le be M
    obtain ⟨hb0, hH⟩ : 0 ≤ be ∧ zHo n X Y g (zLy be su M) (zLy be sv M) (zcn be M) := by
      rcases zChe_in (n := n) (k := M) (X := X) (Y := Y) (E := su) (S := sv) (P := sw) (f := g) with q | ⟨jj, q1, q2, q3, q4⟩
      · exact absurd (he.symm.trans q) hne
      · have e9 : be = nI jj := he.symm.trans q3
        have h64 : 2 ^ M ≤ 64 := Nat.pow_le_pow_right (n := 2) (i := M) (j := 6) (by decide) hM
        rw [← e9] at q4
        exact ⟨by rw [e9]; exact nI_pos' (by omega), q4⟩
    have hH2 : zHo n X Y g E2 S2 (zcn be M) := (zHo_congr (fun i hi => hE2 i hi)).mpr hH
    have hEs2 : zEs n E2 S2 (zcn be M) := by
      refine ⟨fun i hi => ?_, fun i hi => ?_⟩
      · rw [(hE2 i hi).1]; exact zLy_in hEs.1 i hi
      · rw [(hE2 i hi).2]; exact zLy_b hEs.2 i hi
    refine zq (σ := τ2) hV hs2.1.1 hs2.1.2 3 ?_
    show (0 ≤ be → V 580 [(8, .int (zPx be sw M)), (7, .int be), (0, .ref zsc), (1, .ref 0), (3, .int (nI n)), (4, .int (nI F)), (6, .int (nI M))] [] τ2) ∧ (¬ 0 ≤ be → V 551 [(8, .int (zPx be sw M)), (7, .int be), (0, .ref zsc), (1, .ref 0), (3, .int (nI n)), (4, .int (nI F)), (6, .int (nI M))] [] τ2)
    refine ⟨fun _ => ?_, fun hc => absurd hb0 hc⟩
    refine zq (σ := τ2) hV hs2.1.1 hs2.1.2 4 ?_
    show V 586 [(10, .int 0), (9, .int 0), (8, .int (zPx be sw M)), (7, .int be), (0, .ref zsc), (1, .ref 0), (3, .int (nI n)), (4, .int (nI F)), (6, .int (nI M))] [] τ2
    refine zwk hV [4, 5, 6, 7, 8, 3, 2, 1, 0] rfl ?_
    refine zlPr hV hn10 hB hL hM (fun τ8 hs8 => ?_) M 0 _ (by omega) hs2
    rw [← zPx_congr be M hP]
    refine zq (σ := τ8) hV hs8.1.1 hs8.1.2 3 ?_
    show (¬ (zPx be sw M) = (zPx be sw M) → V 692 [(0, .ref zsc), (1, .ref 0), (3, .int (nI n)), (4, .int (nI F)), (6, .int (nI M)), (7, .int be), (8, .int (zPx be sw M)), (9, .int (zPx be sw M))] [] τ8) ∧ (¬ (¬ (zPx be sw M) = (zPx be sw M)) → V 643 [(0, .ref zsc), (1, .ref 0), (3, .int (nI n)), (4, .int (nI F)), (6, .int (nI M)), (7, .int be), (8, .int (zPx be sw M)), (9, .int (zPx be sw M))] [] τ8)
    refine ⟨fun hc => absurd hc (fun y => y rfl), fun _ => ?_⟩
    refine zq (σ := τ8) hV hs8.1.1 hs8.1.2 2 ?_
    show zSp _ _ 59 [.ref 0] τ8 (fun r σ' => σ'.2.2.2 = τ8.2.2.2 + zAl 59 → V 647 [(0, .ref zsc), (1, .ref 0), (3, .int (nI n)), (4, .int (nI F)), (6, .int (nI M)), (7, .int be), (8, .int (zPx be sw M)), (9, .int (zPx be sw M))] (r.toList ++ []) σ')
    refine holds_L hs8 hn10 (by omega) hEs2 (fun τ3 hs3 _ => ?_)
    refine zq (σ := τ3) hV hs3.1.1 hs3.1.2 2 ?_
    show (¬ (zWh n X Y E2 S2 g (zcn be M)) = 1 → V 692 [(0, .ref zsc), (1, .ref 0), (3, .int (nI n)), (4, .int (nI F)), (6, .int (nI M)), (7, .int be), (8, .int (zPx be sw M)), (9, .int (zPx be sw M))] [] τ3) ∧ (¬ (¬ (zWh n X Y E2 S2 g (zcn be M)) = 1) → V 651 [(0, .ref zsc), (1, .ref 0), (3, .int (nI n)), (4, .int (nI F)), (6, .int (nI M)), (7, .int be), (8, .int (zPx be sw M)), (9, .int (zPx be sw M))] [] τ3)
    refine ⟨fun hc => absurd hc (fun y => y (zWh_t hH2)), fun _ => ?_⟩
    refine zq (σ := τ3) hV hs3.1.1 hs3.1.2 2 ?_
    show zSp _ _ 67 [.ref 0] τ3 (fun r σ' => σ'.2.2.2 = τ3.2.2.2 + zAl 67 → V 655 [(0, .ref zsc), (1, .ref 0), (3, .int (nI n)), (4, .int (nI F)), (6, .int (nI M)), (7, .int be), (8, .int (zPx be sw M)), (9, .int (zPx be sw M))] (r.toList ++ []) σ')
    refine cheapest_L hs3 hn10 (by omega) hEs (fun τ4 hs4 _ => ?_)
    rw [he]
    refine zq (σ := τ4) hV hs4.1.1 hs4.1.2 2 ?_
    show (¬ be = be → V 692 [(0, .ref zsc), (1, .ref 0), (3, .int (nI n)), (4, .int (nI F)), (6, .int (nI M)), (7, .int be), (8, .int (zPx be sw M)), (9, .int (zPx be sw M))] [] τ4) ∧ (¬ (¬ be = be) → V 660 [(0, .ref zsc), (1, .ref 0), (3, .int (nI n)), (4, .int (nI F)), (6, .int (nI M)), (7, .int be), (8, .int (zPx be sw M)), (9, .int (zPx be sw M))] [] τ4)
    refine ⟨fun hc => absurd hc (fun y => y rfl), fun _ => ?_⟩
    refine zq (σ := τ4) hV hs4.1.1 hs4.1.2 3 ?_
    show zSp _ _ 71 [.ref 0, .int 1] τ4 (fun r σ' => σ'.2.2.2 = τ4.2.2.2 + zAl 71 → V 665 [(0, .ref zsc), (1, .ref 0), (3, .int (nI n)), (4, .int (nI F)), (6, .int (nI M)), (7, .int be), (8, .int (zPx be sw M)), (9, .int (zPx be sw M))] (r.toList ++ []) σ')
    refine count_L1 hs4 (fun _ => ?_)
    refine zq (σ := τ4) hV hs4.1.1 hs4.1.2 2 ?_
    show ((nI (zcn be M)) ≤ 4 → V 681 [(0, .ref zsc), (1, .ref 0), (3, .int (nI n)), (4, .int (nI F)), (6, .int (nI M)), (7, .int be), (8, .int (zPx be sw M)), (9, .int (zPx be sw M))] [] τ4) ∧ (¬ (nI (zcn be M)) ≤ 4 → V 669 [(0, .ref zsc), (1, .ref 0), (3, .int (nI n)), (4, .int (nI F)), (6, .int (nI M)), (7, .int be), (8, .int (zPx be sw M)), (9, .int (zPx be sw M))] [] τ4)
    refine ⟨fun h_666 => ?_, fun h_666 => ?_⟩
    · skip
      have h4 : zcn be M ≤ 4 := (nI_leI (a := zcn be M) (b := 4) (by omega) (by decide)).mp h_666
      refine zq (σ := τ4) hV hs4.1.1 hs4.1.2 2 ?_
      show zSp _ _ 62 [.ref 0] τ4 (fun r σ' => σ'.2.2.2 = τ4.2.2.2 + zAl 62 → V 685 [(0, .ref zsc), (1, .ref 0), (3, .int (nI n)), (4, .int (nI F)), (6, .int (nI M)), (7, .int be), (8, .int (zPx be sw M)), (9, .int (zPx be sw M))] (r.toList ++ []) σ')
      refine slip_L hs4 hn10 (by omega) hEs2 (fun q9 _ => ?_) hH2 (fun q9 τ5 r9 hr9 hs5 _ => ?_)
      · skip
        exact absurd h4 q9
      · skip
        refine zq (σ := τ5) hV hs5.1.1 hs5.1.2 1 ?_
        show ((nI r9) < 0 → V 692 [(0, .ref zsc), (1, .ref 0), (3, .int (nI n)), (4, .int (nI F)), (6, .int (nI M)), (7, .int be), (8, .int (zPx be sw M)), (9, .int (zPx be sw M))] [] τ5) ∧ (¬ (nI r9) < 0 → V 688 [(0, .ref zsc), (1, .ref 0), (3, .int (nI n)), (4, .int (nI F)), (6, .int (nI M)), (7, .int be), (8, .int (zPx be sw M)), (9, .int (zPx be sw M))] [] τ5)
        refine ⟨fun hc => absurd hc (nI_pos (by omega)), fun _ => ?_⟩
        refine zq (σ := τ5) hV hs5.1.1 hs5.1.2 3 ?_
        show ((1 : Int32) = 0 ∨ (1 : Int32) = 1) ∧ (fun (r : Option Value) (_ : zSt) => r = some (.int 1)) (some (.int 1)) τ5
        refine ⟨by decide, ?_⟩
        exact rfl
    · skip
      have h4 : ¬ zcn be M ≤ 4 := fun q => h_666 (nI_le (a := zcn be M) (b := 4) q (by decide))
      refine zq (σ := τ4) hV hs4.1.1 hs4.1.2 2 ?_
      show zSp _ _ 62 [.ref 0] τ4 (fun r σ' => σ'.2.2.2 = τ4.2.2.2 + zAl 62 → V 673 [(0, .ref zsc), (1, .ref 0), (3, .int (nI n)), (4, .int (nI F)), (6, .int (nI M)), (7, .int be), (8, .int (zPx be sw M)), (9, .int (zPx be sw M))] (r.toList ++ []) σ')
      refine slip_L hs4 hn10 (by omega) hEs2 (fun q9 _ => ?_) hH2 (fun q9 τ6 r9 hr9 hs6 _ => ?_)
      · skip
        refine zq (σ := τ4) hV hs4.1.1 hs4.1.2 2 ?_
        show (¬ ((-3) : Int32) = (-3) → V 692 [(0, .ref zsc), (1, .ref 0), (3, .int (nI n)), (4, .int (nI F)), (6, .int (nI M)), (7, .int be), (8, .int (zPx be sw M)), (9, .int (zPx be sw M))] [] τ4) ∧ (¬ (¬ ((-3) : Int32) = (-3)) → V 678 [(0, .ref zsc), (1, .ref 0), (3, .int (nI n)), (4, .int (nI F)), (6, .int (nI M)), (7, .int be), (8, .int (zPx be sw M)), (9, .int (zPx be sw M))] [] τ4)
        refine ⟨fun hc => absurd hc (by decide), fun _ => ?_⟩
        refine zq (σ := τ4) hV hs4.1.1 hs4.1.2 4 ?_
        show ((1 : Int32) = 0 ∨ (1 : Int32) = 1) ∧ (fun (r : Option Value) (_ : zSt) => r = some (.int 1)) (some (.int 1)) τ4
        refine ⟨by decide, ?_⟩
        exact rfl
      · skip
        exact absurd q9 h4
