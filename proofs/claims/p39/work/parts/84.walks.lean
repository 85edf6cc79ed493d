variable {zx : Nat × (Nat → Int32)} {n k s F j M : Nat} {X Y E S su sv sw : Nat → Int32} {g f0 wv : Int32} {V : Nat → zLo → List Value → zSt → Prop}
set_option maxRecDepth 8000 in
set_option maxHeartbeats 4000000 in
theorem zlD (hV : zOk (zSp zx 7) zx mL_law 31 V (fun (r : Option Value) (_ : zSt) => r = some (.int 1))) (hn10 : n ≤ 10) (hB : zHB n X Y) (hL : zx.1 ≤ 260) (hj : j < 8) (hE : zEs n E S (j + 1)) (hf0 : zBt 0 16 f0) (hSq : S j = nI (zUp (zCe zx (10 + j) >>> (4 &&& 31)) 9)) (hwv : wv ≤ zWh n X Y E S f0 (j + 1)) (hnx : ∀ (g : Int32) (τ : zSt) (w1 : Int32), zBt 0 16 g → w1 = zWh n X Y E S f0 (j + 1) → zLS n X Y E S (j + 1) g s su sv sw τ → V 440 [(0, .ref zsc), (1, .ref 0), (3, .int (nI n)), (4, .int (nI F)), (5, .int w1), (6, .int (nI j))] [] τ) {τ : zSt} (hs : zLS n X Y E S (j + 1) f0 s su sv sw τ) : V 121 [(0, .ref zsc), (1, .ref 0), (3, .int (nI n)), (4, .int (nI F)), (5, .int wv), (6, .int (nI j))] [] τ := by
  have hm16 := @zMl_le f0 (j + 1) (by omega)
  have H395 : ∀ (w1 : Int32) (τ : zSt), w1 = zWh n X Y E S f0 (j + 1) → zLS n X Y E S (j + 1) f0 s su sv sw τ → V 395 [(0, .ref zsc), (1, .ref 0), (3, .int (nI n)), (4, .int (nI F)), (5, .int w1), (6, .int (nI j))] [] τ := by
    intro w1 τ hw1 hs
    refine zq (σ := τ) hV hs.1.1 hs.1.2 4 ?_
    show V 401 [(12, .int 0), (11, .int (-1)), (0, .ref zsc), (1, .ref 0), (3, .int (nI n)), (4, .int (nI F)), (5, .int w1), (6, .int (nI j))] [] τ
    refine zwk hV [2, 3, 4, 5, 6, 7, 1, 0] rfl ?_
    exact zlA hV hn10 hB (by omega) hE (fun g τ hg hs => hnx g τ w1 hg hw1 hs) 5 0 f0 _ (-1) rfl hf0 hs (Or.inl ⟨rfl, rfl⟩)
  have H210 : ∀ τ : zSt, zLS n X Y E S (j + 1) f0 s su sv sw τ → V 210 [(0, .ref zsc), (1, .ref 0), (3, .int (nI n)), (4, .int (nI F)), (5, .int (zWh n X Y E S f0 (j + 1))), (6, .int (nI j)), (7, .int (zWh n X Y E S f0 (j + 1))), (8, .int (nI (zMl f0 (j + 1))))] [] τ := by
    intro τ hs
    by_cases hh : zHo n X Y f0 E S (j + 1)
    · skip
      rw [zWh_t hh]
      refine zq (σ := τ) hV hs.1.1 hs.1.2 3 ?_
      show zSp _ _ 60 [.ref 0, .int 0] τ (fun r σ' => σ'.2.2.2 = τ.2.2.2 + zAl 60 → V 215 [(0, .ref zsc), (1, .ref 0), (3, .int (nI n)), (4, .int (nI F)), (5, .int 1), (6, .int (nI j)), (7, .int 1), (8, .int (nI (zMl f0 (j + 1))))] (r.toList ++ []) σ')
      refine witness_L hs hn10 (by omega) hE ⟨by decide, by decide⟩ (fun τ1 u0 v0 hs1 hw0 _ => ?_) (fun τ1 hs1 hno _ => ?_)
      · skip
        exact (zWt_no hh hw0).elim
      · skip
        refine zq (σ := τ1) hV hs1.1.1 hs1.1.2 4 ?_
        show (¬ (1 : Int32) = 1 → V 263 [(9, .long (-9223372036854775805)), (0, .ref zsc), (1, .ref 0), (3, .int (nI n)), (4, .int (nI F)), (5, .int 1), (6, .int (nI j)), (7, .int 1), (8, .int (nI (zMl f0 (j + 1))))] [] τ1) ∧ (¬ (¬ (1 : Int32) = 1) → V 223 [(9, .long (-9223372036854775805)), (0, .ref zsc), (1, .ref 0), (3, .int (nI n)), (4, .int (nI F)), (5, .int 1), (6, .int (nI j)), (7, .int 1), (8, .int (nI (zMl f0 (j + 1))))] [] τ1)
        refine ⟨fun hc => absurd hc (by decide), fun _ => ?_⟩
        refine zq (σ := τ1) hV hs1.1.1 hs1.1.2 4 ?_
        show (¬ (lg_cmp (-9223372036854775805) (-9223372036854775805)) = 0 → V 261 [(9, .long (-9223372036854775805)), (0, .ref zsc), (1, .ref 0), (3, .int (nI n)), (4, .int (nI F)), (5, .int 1), (6, .int (nI j)), (7, .int 1), (8, .int (nI (zMl f0 (j + 1))))] [] τ1) ∧ (¬ (¬ (lg_cmp (-9223372036854775805) (-9223372036854775805)) = 0) → V 232 [(9, .long (-9223372036854775805)), (0, .ref zsc), (1, .ref 0), (3, .int (nI n)), (4, .int (nI F)), (5, .int 1), (6, .int (nI j)), (7, .int 1), (8, .int (nI (zMl f0 (j + 1))))] [] τ1)
        refine ⟨fun hc => absurd hc (fun y => y (zcmp_eq.mpr rfl)), fun _ => ?_⟩
        refine zq (σ := τ1) hV hs1.1.1 hs1.1.2 3 ?_
        show zSp _ _ 61 [.ref 0, .int (nI j)] τ1 (fun r σ' => σ'.2.2.2 = τ1.2.2.2 + zAl 61 → V 238 [(9, .long (-9223372036854775805)), (0, .ref zsc), (1, .ref 0), (3, .int (nI n)), (4, .int (nI F)), (5, .int 1), (6, .int (nI j)), (7, .int 1), (8, .int (nI (zMl f0 (j + 1))))] (r.toList ++ []) σ')
        refine free_L hs1 hn10 (by omega) hE (j := j) rfl (by omega) (fun τ2 hs2 _ => ?_)
        refine zq (σ := τ2) hV hs2.1.1 hs2.1.2 5 ?_
        show zSp _ _ 82 [.ref zsc, .int (10 + (nI j))] τ2 (fun r σ' => σ'.2.2.2 = τ2.2.2.2 + zAl 82 → V 247 [(9, .long (-9223372036854775805)), (0, .ref zsc), (1, .ref 0), (3, .int (nI n)), (4, .int (nI F)), (5, .int 1), (6, .int (nI j)), (7, .int 1), (8, .int (nI (zMl f0 (j + 1))))] (r.toList ++ [.int (zFree n X Y f0 E S (j + 1) j)]) σ')
        refine cell_ok hL (k := (10 + j)) (zn_a (a := 10) (b := j) rfl rfl) (by omega) (fun _ => ?_)
        refine zq (σ := τ2) hV hs2.1.1 hs2.1.2 4 ?_
        show zSp _ _ 83 [.int ((zCe zx (10 + j)) >>> (4 &&& 31)), .int 9] τ2 (fun r σ' => σ'.2.2.2 = τ2.2.2.2 + zAl 83 → V 254 [(9, .long (-9223372036854775805)), (0, .ref zsc), (1, .ref 0), (3, .int (nI n)), (4, .int (nI F)), (5, .int 1), (6, .int (nI j)), (7, .int 1), (8, .int (nI (zMl f0 (j + 1))))] (r.toList ++ [.int (zFree n X Y f0 E S (j + 1) j)]) σ')
        refine up_ok (n := 9) rfl (by omega) (by omega) (fun _ => ?_)
        refine zq (σ := τ2) hV hs2.1.1 hs2.1.2 5 ?_
        show ((((zFree n X Y f0 E S (j + 1) j) >>> ((nI (zUp ((zCe zx (10 + j)) >>> (4 &&& 31)) 9)) &&& 31)) &&& 1) = 1 → V 395 [(9, .long (-9223372036854775805)), (0, .ref zsc), (1, .ref 0), (3, .int (nI n)), (4, .int (nI F)), (5, .int 1), (6, .int (nI j)), (7, .int 1), (8, .int (nI (zMl f0 (j + 1))))] [] τ2) ∧ (¬ (((zFree n X Y f0 E S (j + 1) j) >>> ((nI (zUp ((zCe zx (10 + j)) >>> (4 &&& 31)) 9)) &&& 31)) &&& 1) = 1 → V 261 [(9, .long (-9223372036854775805)), (0, .ref zsc), (1, .ref 0), (3, .int (nI n)), (4, .int (nI F)), (5, .int 1), (6, .int (nI j)), (7, .int 1), (8, .int (nI (zMl f0 (j + 1))))] [] τ2)
        refine ⟨fun _ => ?_, fun hc => absurd (zfree_bit hh (zUp_lt (by decide)) hSq) hc⟩
        refine zwk hV [1, 2, 3, 4, 5, 6] rfl ?_
        exact H395 _ _ (zWh_t hh).symm hs2
    · skip
      rw [zWh_f hh]
      refine zq (σ := τ) hV hs.1.1 hs.1.2 3 ?_
      show zSp _ _ 60 [.ref 0, .int 0] τ (fun r σ' => σ'.2.2.2 = τ.2.2.2 + zAl 60 → V 215 [(0, .ref zsc), (1, .ref 0), (3, .int (nI n)), (4, .int (nI F)), (5, .int 0), (6, .int (nI j)), (7, .int 0), (8, .int (nI (zMl f0 (j + 1))))] (r.toList ++ []) σ')
      refine witness_L hs hn10 (by omega) hE ⟨by decide, by decide⟩ (fun τ3 u0 v0 hs3 hw0 _ => ?_) (fun τ3 hs3 hno _ => ?_)
      · skip
        rw [if_pos rfl]
        refine zq (σ := τ3) hV hs3.1.1 hs3.1.2 4 ?_
        show (¬ (0 : Int32) = 1 → V 263 [(9, .long (zW1 n X Y E S f0 (j + 1) u0 v0)), (0, .ref zsc), (1, .ref 0), (3, .int (nI n)), (4, .int (nI F)), (5, .int 0), (6, .int (nI j)), (7, .int 0), (8, .int (nI (zMl f0 (j + 1))))] [] τ3) ∧ (¬ (¬ (0 : Int32) = 1) → V 223 [(9, .long (zW1 n X Y E S f0 (j + 1) u0 v0)), (0, .ref zsc), (1, .ref 0), (3, .int (nI n)), (4, .int (nI F)), (5, .int 0), (6, .int (nI j)), (7, .int 0), (8, .int (nI (zMl f0 (j + 1))))] [] τ3)
        refine ⟨fun _ => ?_, fun hc => absurd (by decide) hc⟩
        refine zq (σ := τ3) hV hs3.1.1 hs3.1.2 4 ?_
        show ((lg_cmp (zW1 n X Y E S f0 (j + 1) u0 v0) (-9223372036854775805)) = 0 → V 395 [(9, .long (zW1 n X Y E S f0 (j + 1) u0 v0)), (0, .ref zsc), (1, .ref 0), (3, .int (nI n)), (4, .int (nI F)), (5, .int 0), (6, .int (nI j)), (7, .int 0), (8, .int (nI (zMl f0 (j + 1))))] [] τ3) ∧ (¬ (lg_cmp (zW1 n X Y E S f0 (j + 1) u0 v0) (-9223372036854775805)) = 0 → V 272 [(9, .long (zW1 n X Y E S f0 (j + 1) u0 v0)), (0, .ref zsc), (1, .ref 0), (3, .int (nI n)), (4, .int (nI F)), (5, .int 0), (6, .int (nI j)), (7, .int 0), (8, .int (nI (zMl f0 (j + 1))))] [] τ3)
        refine ⟨fun h_269 => ?_, fun h_269 => ?_⟩
        · skip
          refine zwk hV [1, 2, 3, 4, 5, 6] rfl ?_
          exact H395 _ _ (zWh_f hh).symm hs3
        · skip
          refine zq (σ := τ3) hV hs3.1.1 hs3.1.2 3 ?_
          show zSp _ _ 60 [.ref 0, .int 1] τ3 (fun r σ' => σ'.2.2.2 = τ3.2.2.2 + zAl 60 → V 277 [(9, .long (zW1 n X Y E S f0 (j + 1) u0 v0)), (0, .ref zsc), (1, .ref 0), (3, .int (nI n)), (4, .int (nI F)), (5, .int 0), (6, .int (nI j)), (7, .int 0), (8, .int (nI (zMl f0 (j + 1))))] (r.toList ++ []) σ')
          refine witness_L hs3 hn10 (by omega) hE ⟨by decide, by decide⟩ (fun τ4 u1 v1 hs4 hw1 _ => ?_) (fun τ4 hs4 hno _ => ?_)
          · skip
            rw [if_neg (by decide), if_pos rfl]
            rw [← (zWt_one hw0 hw1).1, ← (zWt_one hw0 hw1).2]
            refine zq (σ := τ4) hV hs4.1.1 hs4.1.2 4 ?_
            show zSp _ _ 60 [.ref 0, .int 2] τ4 (fun r σ' => σ'.2.2.2 = τ4.2.2.2 + zAl 60 → V 284 [(11, .long (zW2 n X Y E S f0 (j + 1) u0 v0)), (9, .long (zW1 n X Y E S f0 (j + 1) u0 v0)), (0, .ref zsc), (1, .ref 0), (3, .int (nI n)), (4, .int (nI F)), (5, .int 0), (6, .int (nI j)), (7, .int 0), (8, .int (nI (zMl f0 (j + 1))))] (r.toList ++ []) σ')
            refine witness_L hs4 hn10 (by omega) hE ⟨by decide, by decide⟩ (fun τ5 u2 v2 hs5 hw2 _ => ?_) (fun τ5 hs5 hno _ => ?_)
            · skip
              rw [if_neg (by decide), if_neg (by decide)]
              rw [← (zWt_one hw0 hw2).1, ← (zWt_one hw0 hw2).2]
              refine zq (σ := τ5) hV hs5.1.1 hs5.1.2 5 ?_
              show V 292 [(16, .int 0), (15, .int 0), (13, .long (zW3 n X Y E S f0 (j + 1) u0 v0)), (11, .long (zW2 n X Y E S f0 (j + 1) u0 v0)), (9, .long (zW1 n X Y E S f0 (j + 1) u0 v0)), (0, .ref zsc), (1, .ref 0), (3, .int (nI n)), (4, .int (nI F)), (5, .int 0), (6, .int (nI j)), (7, .int 0), (8, .int (nI (zMl f0 (j + 1))))] [] τ5
              refine zwk hV [5, 6, 7, 8, 9, 10, 12, 4, 3, 2, 1, 0] rfl ?_
              have hwi := zWit (zTB_T hB hf0 hE.1 hn10 hE.2) hw0.1.1.1 hw0.1.1.2.1 hw0.1.1.2.2.1 hw0.1.1.2.2.2 hw0.2
              refine zlB hV hn10 (by omega) hE hwi.1 hwi.2.1 (fun τ9 hs9 => ?_) (zMl f0 (j + 1)) 0 _ 0 (by omega) hs5 (Or.inr ⟨rfl, fun i hi => absurd hi (Nat.not_lt_zero i)⟩)
              refine zq (σ := τ9) hV hs9.1.1 hs9.1.2 2 ?_
              show ((1 : Int32) = 0 → V 393 [(0, .ref zsc), (1, .ref 0), (3, .int (nI n)), (4, .int (nI F)), (5, .int 0), (6, .int (nI j)), (8, .int (nI (zMl f0 (j + 1)))), (9, .long (zW1 n X Y E S f0 (j + 1) u0 v0)), (11, .long (zW2 n X Y E S f0 (j + 1) u0 v0)), (13, .long (zW3 n X Y E S f0 (j + 1) u0 v0)), (15, .int 1)] [] τ9) ∧ (¬ (1 : Int32) = 0 → V 372 [(0, .ref zsc), (1, .ref 0), (3, .int (nI n)), (4, .int (nI F)), (5, .int 0), (6, .int (nI j)), (8, .int (nI (zMl f0 (j + 1)))), (9, .long (zW1 n X Y E S f0 (j + 1) u0 v0)), (11, .long (zW2 n X Y E S f0 (j + 1) u0 v0)), (13, .long (zW3 n X Y E S f0 (j + 1) u0 v0)), (15, .int 1)] [] τ9)
              refine ⟨fun hc => absurd hc (by decide), fun _ => ?_⟩
              refine zq (σ := τ9) hV hs9.1.1 hs9.1.2 4 ?_
              show (¬ (lg_cmp (zW1 n X Y E S f0 (j + 1) u0 v0) 0) = 0 → V 395 [(0, .ref zsc), (1, .ref 0), (3, .int (nI n)), (4, .int (nI F)), (5, .int 0), (6, .int (nI j)), (8, .int (nI (zMl f0 (j + 1)))), (9, .long (zW1 n X Y E S f0 (j + 1) u0 v0)), (11, .long (zW2 n X Y E S f0 (j + 1) u0 v0)), (13, .long (zW3 n X Y E S f0 (j + 1) u0 v0)), (15, .int 1)] [] τ9) ∧ (¬ (¬ (lg_cmp (zW1 n X Y E S f0 (j + 1) u0 v0) 0) = 0) → V 379 [(0, .ref zsc), (1, .ref 0), (3, .int (nI n)), (4, .int (nI F)), (5, .int 0), (6, .int (nI j)), (8, .int (nI (zMl f0 (j + 1)))), (9, .long (zW1 n X Y E S f0 (j + 1) u0 v0)), (11, .long (zW2 n X Y E S f0 (j + 1) u0 v0)), (13, .long (zW3 n X Y E S f0 (j + 1) u0 v0)), (15, .int 1)] [] τ9)
              refine ⟨fun h_376 => ?_, fun h_376 => ?_⟩
              · skip
                refine zwk hV [0, 1, 2, 3, 4, 5] rfl ?_
                exact H395 _ _ (zWh_f hh).symm hs9
              · skip
                have h_376 := Classical.not_not.mp h_376
                refine zq (σ := τ9) hV hs9.1.1 hs9.1.2 4 ?_
                show (¬ (lg_cmp (zW2 n X Y E S f0 (j + 1) u0 v0) 0) = 0 → V 395 [(0, .ref zsc), (1, .ref 0), (3, .int (nI n)), (4, .int (nI F)), (5, .int 0), (6, .int (nI j)), (8, .int (nI (zMl f0 (j + 1)))), (9, .long (zW1 n X Y E S f0 (j + 1) u0 v0)), (11, .long (zW2 n X Y E S f0 (j + 1) u0 v0)), (13, .long (zW3 n X Y E S f0 (j + 1) u0 v0)), (15, .int 1)] [] τ9) ∧ (¬ (¬ (lg_cmp (zW2 n X Y E S f0 (j + 1) u0 v0) 0) = 0) → V 386 [(0, .ref zsc), (1, .ref 0), (3, .int (nI n)), (4, .int (nI F)), (5, .int 0), (6, .int (nI j)), (8, .int (nI (zMl f0 (j + 1)))), (9, .long (zW1 n X Y E S f0 (j + 1) u0 v0)), (11, .long (zW2 n X Y E S f0 (j + 1) u0 v0)), (13, .long (zW3 n X Y E S f0 (j + 1) u0 v0)), (15, .int 1)] [] τ9)
                refine ⟨fun h_383 => ?_, fun h_383 => ?_⟩
                · skip
                  refine zwk hV [0, 1, 2, 3, 4, 5] rfl ?_
                  exact H395 _ _ (zWh_f hh).symm hs9
                · skip
                  have h_383 := Classical.not_not.mp h_383
                  refine zq (σ := τ9) hV hs9.1.1 hs9.1.2 4 ?_
                  show (¬ (lg_cmp (zW3 n X Y E S f0 (j + 1) u0 v0) 0) = 0 → V 395 [(0, .ref zsc), (1, .ref 0), (3, .int (nI n)), (4, .int (nI F)), (5, .int 0), (6, .int (nI j)), (8, .int (nI (zMl f0 (j + 1)))), (9, .long (zW1 n X Y E S f0 (j + 1) u0 v0)), (11, .long (zW2 n X Y E S f0 (j + 1) u0 v0)), (13, .long (zW3 n X Y E S f0 (j + 1) u0 v0)), (15, .int 1)] [] τ9) ∧ (¬ (¬ (lg_cmp (zW3 n X Y E S f0 (j + 1) u0 v0) 0) = 0) → V 393 [(0, .ref zsc), (1, .ref 0), (3, .int (nI n)), (4, .int (nI F)), (5, .int 0), (6, .int (nI j)), (8, .int (nI (zMl f0 (j + 1)))), (9, .long (zW1 n X Y E S f0 (j + 1) u0 v0)), (11, .long (zW2 n X Y E S f0 (j + 1) u0 v0)), (13, .long (zW3 n X Y E S f0 (j + 1) u0 v0)), (15, .int 1)] [] τ9)
                  refine ⟨fun h_390 => ?_, fun h_390 => ?_⟩
                  · skip
                    refine zwk hV [0, 1, 2, 3, 4, 5] rfl ?_
                    exact H395 _ _ (zWh_f hh).symm hs9
                  · skip
                    have h_390 := Classical.not_not.mp h_390
                    exact absurd ⟨zcmp_eq.mp h_376, zcmp_eq.mp h_383, zcmp_eq.mp h_390⟩ hwi.2.2
            · skip
              exact absurd hw0 (hno u0 v0)
          · skip
            exact absurd hw0 (hno u0 v0)
      · skip
        refine zq (σ := τ3) hV hs3.1.1 hs3.1.2 4 ?_
        show (¬ (0 : Int32) = 1 → V 263 [(9, .long (-9223372036854775805)), (0, .ref zsc), (1, .ref 0), (3, .int (nI n)), (4, .int (nI F)), (5, .int 0), (6, .int (nI j)), (7, .int 0), (8, .int (nI (zMl f0 (j + 1))))] [] τ3) ∧ (¬ (¬ (0 : Int32) = 1) → V 223 [(9, .long (-9223372036854775805)), (0, .ref zsc), (1, .ref 0), (3, .int (nI n)), (4, .int (nI F)), (5, .int 0), (6, .int (nI j)), (7, .int 0), (8, .int (nI (zMl f0 (j + 1))))] [] τ3)
        refine ⟨fun _ => ?_, fun hc => absurd (by decide) hc⟩
        refine zq (σ := τ3) hV hs3.1.1 hs3.1.2 4 ?_
        show ((lg_cmp (-9223372036854775805) (-9223372036854775805)) = 0 → V 395 [(9, .long (-9223372036854775805)), (0, .ref zsc), (1, .ref 0), (3, .int (nI n)), (4, .int (nI F)), (5, .int 0), (6, .int (nI j)), (7, .int 0), (8, .int (nI (zMl f0 (j + 1))))] [] τ3) ∧ (¬ (lg_cmp (-9223372036854775805) (-9223372036854775805)) = 0 → V 272 [(9, .long (-9223372036854775805)), (0, .ref zsc), (1, .ref 0), (3, .int (nI n)), (4, .int (nI F)), (5, .int 0), (6, .int (nI j)), (7, .int 0), (8, .int (nI (zMl f0 (j + 1))))] [] τ3)
        refine ⟨fun _ => ?_, fun hc => absurd (zcmp_eq.mpr rfl) hc⟩
        refine zwk hV [1, 2, 3, 4, 5, 6] rfl ?_
        exact H395 _ _ (zWh_f hh).symm hs3
  have H170 : ∀ τ : zSt, zLS n X Y E S (j + 1) f0 s su sv sw τ → V 170 [(0, .ref zsc), (1, .ref 0), (3, .int (nI n)), (4, .int (nI F)), (5, .int (zWh n X Y E S f0 (j + 1))), (6, .int (nI j)), (7, .int (zWh n X Y E S f0 (j + 1))), (8, .int (nI (zMl f0 (j + 1))))] [] τ := by
    intro τ hs
    have hm4 : ¬ 4 ≤ nI (zMl f0 (j + 1)) → zMl f0 (j + 1) < 4 := fun y => Nat.not_le.mp (fun q => y (nI_le (a := 4) (b := zMl f0 (j + 1)) q (by omega)))
    refine zq (σ := τ) hV hs.1.1 hs.1.2 4 ?_
    show zSp _ _ 71 [.ref 0, .int 2] τ (fun r σ' => σ'.2.2.2 = τ.2.2.2 + zAl 71 → V 177 [(0, .ref zsc), (1, .ref 0), (3, .int (nI n)), (4, .int (nI F)), (5, .int (zWh n X Y E S f0 (j + 1))), (6, .int (nI j)), (7, .int (zWh n X Y E S f0 (j + 1))), (8, .int (nI (zMl f0 (j + 1))))] (r.toList ++ [.int (nI (zMl f0 (j + 1)))]) σ')
    refine count_L2 hs (fun _ => ?_)
    refine zq (σ := τ) hV hs.1.1 hs.1.2 1 ?_
    show (¬ f0 = 0 → V 187 [(0, .ref zsc), (1, .ref 0), (3, .int (nI n)), (4, .int (nI F)), (5, .int (zWh n X Y E S f0 (j + 1))), (6, .int (nI j)), (7, .int (zWh n X Y E S f0 (j + 1))), (8, .int (nI (zMl f0 (j + 1))))] [.int (nI (zMl f0 (j + 1)))] τ) ∧ (¬ (¬ f0 = 0) → V 180 [(0, .ref zsc), (1, .ref 0), (3, .int (nI n)), (4, .int (nI F)), (5, .int (zWh n X Y E S f0 (j + 1))), (6, .int (nI j)), (7, .int (zWh n X Y E S f0 (j + 1))), (8, .int (nI (zMl f0 (j + 1))))] [.int (nI (zMl f0 (j + 1)))] τ)
    refine ⟨fun h_177 => ?_, fun h_177 => ?_⟩
    · skip
      have hml1 : zMl f0 (j + 1) = 2 * j + 2 := by rw [zMl_1 h_177]; omega
      refine zq (σ := τ) hV hs.1.1 hs.1.2 6 ?_
      show (¬ (nI (zMl f0 (j + 1))) = ((2 * (nI j)) + 2) → V 208 [(0, .ref zsc), (1, .ref 0), (3, .int (nI n)), (4, .int (nI F)), (5, .int (zWh n X Y E S f0 (j + 1))), (6, .int (nI j)), (7, .int (zWh n X Y E S f0 (j + 1))), (8, .int (nI (zMl f0 (j + 1))))] [] τ) ∧ (¬ (¬ (nI (zMl f0 (j + 1))) = ((2 * (nI j)) + 2)) → V 196 [(0, .ref zsc), (1, .ref 0), (3, .int (nI n)), (4, .int (nI F)), (5, .int (zWh n X Y E S f0 (j + 1))), (6, .int (nI j)), (7, .int (zWh n X Y E S f0 (j + 1))), (8, .int (nI (zMl f0 (j + 1))))] [] τ)
      refine ⟨fun hc => absurd hc (fun y => y (by rw [hml1]; exact (zn_a (a := 2 * j) (b := 2) (zn_m (a := 2) (b := j) rfl rfl) rfl).symm)), fun _ => ?_⟩
      refine zq (σ := τ) hV hs.1.1 hs.1.2 3 ?_
      show (4 ≤ (nI (zMl f0 (j + 1))) → V 210 [(0, .ref zsc), (1, .ref 0), (3, .int (nI n)), (4, .int (nI F)), (5, .int (zWh n X Y E S f0 (j + 1))), (6, .int (nI j)), (7, .int (zWh n X Y E S f0 (j + 1))), (8, .int (nI (zMl f0 (j + 1))))] [] τ) ∧ (¬ 4 ≤ (nI (zMl f0 (j + 1))) → V 202 [(0, .ref zsc), (1, .ref 0), (3, .int (nI n)), (4, .int (nI F)), (5, .int (zWh n X Y E S f0 (j + 1))), (6, .int (nI j)), (7, .int (zWh n X Y E S f0 (j + 1))), (8, .int (nI (zMl f0 (j + 1))))] [] τ)
      refine ⟨fun h_199 => ?_, fun h_199 => ?_⟩
      · skip
        refine zwk hV [0, 1, 2, 3, 4, 5, 6, 7] rfl ?_
        exact H210 _ hs
      · skip
        refine zq (σ := τ) hV hs.1.1 hs.1.2 3 ?_
        show (¬ (zWh n X Y E S f0 (j + 1)) = 1 → V 210 [(0, .ref zsc), (1, .ref 0), (3, .int (nI n)), (4, .int (nI F)), (5, .int (zWh n X Y E S f0 (j + 1))), (6, .int (nI j)), (7, .int (zWh n X Y E S f0 (j + 1))), (8, .int (nI (zMl f0 (j + 1))))] [] τ) ∧ (¬ (¬ (zWh n X Y E S f0 (j + 1)) = 1) → V 208 [(0, .ref zsc), (1, .ref 0), (3, .int (nI n)), (4, .int (nI F)), (5, .int (zWh n X Y E S f0 (j + 1))), (6, .int (nI j)), (7, .int (zWh n X Y E S f0 (j + 1))), (8, .int (nI (zMl f0 (j + 1))))] [] τ)
        refine ⟨fun _ => ?_, fun hc => absurd (by rw [zWh_f (zHo_few hB hf0 hn10 hE.1 hE.2 (hm4 h_199))]; decide) hc⟩
        refine zwk hV [0, 1, 2, 3, 4, 5, 6, 7] rfl ?_
        exact H210 _ hs
    · skip
      have h_177 := Classical.not_not.mp h_177
      have hml0 : zMl f0 (j + 1) = j + 1 := zMl_0 h_177 _
      refine zq (σ := τ) hV hs.1.1 hs.1.2 5 ?_
      show (¬ (nI (zMl f0 (j + 1))) = ((nI j) + 1) → V 208 [(0, .ref zsc), (1, .ref 0), (3, .int (nI n)), (4, .int (nI F)), (5, .int (zWh n X Y E S f0 (j + 1))), (6, .int (nI j)), (7, .int (zWh n X Y E S f0 (j + 1))), (8, .int (nI (zMl f0 (j + 1))))] [] τ) ∧ (¬ (¬ (nI (zMl f0 (j + 1))) = ((nI j) + 1)) → V 196 [(0, .ref zsc), (1, .ref 0), (3, .int (nI n)), (4, .int (nI F)), (5, .int (zWh n X Y E S f0 (j + 1))), (6, .int (nI j)), (7, .int (zWh n X Y E S f0 (j + 1))), (8, .int (nI (zMl f0 (j + 1))))] [] τ)
      refine ⟨fun hc => absurd hc (fun y => y (by rw [hml0, nI_1])), fun _ => ?_⟩
      refine zq (σ := τ) hV hs.1.1 hs.1.2 3 ?_
      show (4 ≤ (nI (zMl f0 (j + 1))) → V 210 [(0, .ref zsc), (1, .ref 0), (3, .int (nI n)), (4, .int (nI F)), (5, .int (zWh n X Y E S f0 (j + 1))), (6, .int (nI j)), (7, .int (zWh n X Y E S f0 (j + 1))), (8, .int (nI (zMl f0 (j + 1))))] [] τ) ∧ (¬ 4 ≤ (nI (zMl f0 (j + 1))) → V 202 [(0, .ref zsc), (1, .ref 0), (3, .int (nI n)), (4, .int (nI F)), (5, .int (zWh n X Y E S f0 (j + 1))), (6, .int (nI j)), (7, .int (zWh n X Y E S f0 (j + 1))), (8, .int (nI (zMl f0 (j + 1))))] [] τ)
      refine ⟨fun h_199 => ?_, fun h_199 => ?_⟩
      · skip
        refine zwk hV [0, 1, 2, 3, 4, 5, 6, 7] rfl ?_
        exact H210 _ hs
      · skip
        refine zq (σ := τ) hV hs.1.1 hs.1.2 3 ?_
        show (¬ (zWh n X Y E S f0 (j + 1)) = 1 → V 210 [(0, .ref zsc), (1, .ref 0), (3, .int (nI n)), (4, .int (nI F)), (5, .int (zWh n X Y E S f0 (j + 1))), (6, .int (nI j)), (7, .int (zWh n X Y E S f0 (j + 1))), (8, .int (nI (zMl f0 (j + 1))))] [] τ) ∧ (¬ (¬ (zWh n X Y E S f0 (j + 1)) = 1) → V 208 [(0, .ref zsc), (1, .ref 0), (3, .int (nI n)), (4, .int (nI F)), (5, .int (zWh n X Y E S f0 (j + 1))), (6, .int (nI j)), (7, .int (zWh n X Y E S f0 (j + 1))), (8, .int (nI (zMl f0 (j + 1))))] [] τ)
        refine ⟨fun _ => ?_, fun hc => absurd (by rw [zWh_f (zHo_few hB hf0 hn10 hE.1 hE.2 (hm4 h_199))]; decide) hc⟩
        refine zwk hV [0, 1, 2, 3, 4, 5, 6, 7] rfl ?_
        exact H210 _ hs
  refine zq (σ := τ) hV hs.1.1 hs.1.2 2 ?_
  show zSp _ _ 59 [.ref 0] τ (fun r σ' => σ'.2.2.2 = τ.2.2.2 + zAl 59 → V 125 [(0, .ref zsc), (1, .ref 0), (3, .int (nI n)), (4, .int (nI F)), (5, .int wv), (6, .int (nI j))] (r.toList ++ []) σ')
  refine holds_L hs hn10 (by omega) hE (fun τ6 hs6 _ => ?_)
  refine zq (σ := τ6) hV hs6.1.1 hs6.1.2 4 ?_
  show (wv ≤ (zWh n X Y E S f0 (j + 1)) → V 136 [(7, .int (zWh n X Y E S f0 (j + 1))), (0, .ref zsc), (1, .ref 0), (3, .int (nI n)), (4, .int (nI F)), (5, .int wv), (6, .int (nI j))] [] τ6) ∧ (¬ wv ≤ (zWh n X Y E S f0 (j + 1)) → V 134 [(7, .int (zWh n X Y E S f0 (j + 1))), (0, .ref zsc), (1, .ref 0), (3, .int (nI n)), (4, .int (nI F)), (5, .int wv), (6, .int (nI j))] [] τ6)
  refine ⟨fun _ => ?_, fun hc => absurd hwv hc⟩
  refine zq (σ := τ6) hV hs6.1.1 hs6.1.2 4 ?_
  show V 143 [(8, .int 0), (5, .int (zWh n X Y E S f0 (j + 1))), (7, .int (zWh n X Y E S f0 (j + 1))), (0, .ref zsc), (1, .ref 0), (3, .int (nI n)), (4, .int (nI F)), (6, .int (nI j))] [] τ6
  refine zwk hV [3, 4, 5, 6, 1, 7, 2, 0] rfl ?_
  exact zlC hV hn10 (by omega) hE (fun τ hs => H170 τ hs) (zMl f0 (j + 1)) 0 τ6 (by omega) hs6
set_option maxRecDepth 8000 in
set_option maxHeartbeats 4000000 in
theorem zlK (hV : zOk (zSp zx 7) zx mL_law 31 V (fun (r : Option Value) (_ : zSt) => r = some (.int 1))) (hn10 : n ≤ 10) (hB : zHB n X Y) (hL : zx.1 ≤ 260) (hn4 : 4 ≤ n) (hF : F ≤ 7) (hf0 : zBt 0 16 (nI (zUp (zCe zx 8) 17))) (hnx : ∀ (E S : Nat → Int32) (g : Int32) (τ : zSt), zBt 0 16 g → zEs n E S F → zLS n X Y E S F g s su sv sw τ → V 446 [(0, .ref zsc), (1, .ref 0), (3, .int (nI n)), (4, .int (nI F))] [] τ) : ∀ (r j : Nat) (wv : Int32) (E S : Nat → Int32) (g : Int32) (τ : zSt), j + r = F → zBt 0 16 g → zEs n E S j → zLS n X Y E S j g s su sv sw τ → ((j = 0 ∧ wv = 0) ∨ wv = zWh n X Y E S (nI (zUp (zCe zx 8) 17)) j) → V 56 [(0, .ref zsc), (1, .ref 0), (3, .int (nI n)), (4, .int (nI F)), (5, .int wv), (6, .int (nI j))] [] τ := by
  intro r
  induction r with
  | zero =>
    intro j wv E S g τ hjr hg hE hs hwv
    refine zq (σ := τ) hV hs.1.1 hs.1.2 3 ?_
    show ((nI F) ≤ (nI j) → V 446 [(0, .ref zsc), (1, .ref 0), (3, .int (nI n)), (4, .int (nI F)), (5, .int wv), (6, .int (nI j))] [] τ) ∧ (¬ (nI F) ≤ (nI j) → V 63 [(0, .ref zsc), (1, .ref 0), (3, .int (nI n)), (4, .int (nI F)), (5, .int wv), (6, .int (nI j))] [] τ)
    refine ⟨fun _ => ?_, fun hc => absurd (nI_le (a := F) (b := j) (by omega) (by omega)) hc⟩
    refine zwk hV [0, 1, 2, 3] rfl ?_
    have e9 : j = F := by omega
    rw [e9] at hE hs
    exact hnx _ _ _ _ hg hE hs
  | succ r ihK =>
    intro j wv E S g τ hjr hg hE hs hwv
    refine zq (σ := τ) hV hs.1.1 hs.1.2 3 ?_
    show ((nI F) ≤ (nI j) → V 446 [(0, .ref zsc), (1, .ref 0), (3, .int (nI n)), (4, .int (nI F)), (5, .int wv), (6, .int (nI j))] [] τ) ∧ (¬ (nI F) ≤ (nI j) → V 63 [(0, .ref zsc), (1, .ref 0), (3, .int (nI n)), (4, .int (nI F)), (5, .int wv), (6, .int (nI j))] [] τ)
    refine ⟨fun hc => absurd hc (nI_ge (a := j) (b := F) (by omega) (by omega)), fun _ => ?_⟩
    refine zq (σ := τ) hV hs.1.1 hs.1.2 4 ?_
    show zSp _ _ 82 [.ref zsc, .int 8] τ (fun r σ' => σ'.2.2.2 = τ.2.2.2 + zAl 82 → V 70 [(0, .ref zsc), (1, .ref 0), (3, .int (nI n)), (4, .int (nI F)), (5, .int wv), (6, .int (nI j))] (r.toList ++ [.ref 0]) σ')
    refine cell_ok hL (k := 8) rfl (by omega) (fun _ => ?_)
    refine zq (σ := τ) hV hs.1.1 hs.1.2 2 ?_
    show zSp _ _ 83 [.int (zCe zx 8), .int 17] τ (fun r σ' => σ'.2.2.2 = τ.2.2.2 + zAl 83 → V 75 [(0, .ref zsc), (1, .ref 0), (3, .int (nI n)), (4, .int (nI F)), (5, .int wv), (6, .int (nI j))] (r.toList ++ [.ref 0]) σ')
    refine up_ok (n := 17) rfl (by omega) (by omega) (fun _ => ?_)
    refine zq (σ := τ) hV hs.1.1 hs.1.2 1 ?_
    show zSp _ _ 57 [.ref 0, .int (nI (zUp (zCe zx 8) 17))] τ (fun r σ' => σ'.2.2.2 = τ.2.2.2 + zAl 57 → V 78 [(0, .ref zsc), (1, .ref 0), (3, .int (nI n)), (4, .int (nI F)), (5, .int wv), (6, .int (nI j))] (r.toList ++ []) σ')
    refine friction_L hs hf0 (fun τ1 hs1 _ => ?_)
    refine zq (σ := τ1) hV hs1.1.1 hs1.1.2 1 ?_
    show (g < 0 → V 119 [(0, .ref zsc), (1, .ref 0), (3, .int (nI n)), (4, .int (nI F)), (5, .int wv), (6, .int (nI j))] [] τ1) ∧ (¬ g < 0 → V 81 [(0, .ref zsc), (1, .ref 0), (3, .int (nI n)), (4, .int (nI F)), (5, .int wv), (6, .int (nI j))] [] τ1)
    refine ⟨fun hc => absurd hc (zg_nn hg), fun _ => ?_⟩
    refine zq (σ := τ1) hV hs1.1.1 hs1.1.2 6 ?_
    show zSp _ _ 82 [.ref zsc, .int (10 + (nI j))] τ1 (fun r σ' => σ'.2.2.2 = τ1.2.2.2 + zAl 82 → V 91 [(0, .ref zsc), (1, .ref 0), (3, .int (nI n)), (4, .int (nI F)), (5, .int wv), (6, .int (nI j))] (r.toList ++ [.ref 0]) σ')
    refine cell_ok hL (k := (10 + j)) (zn_a (a := 10) (b := j) rfl rfl) (by omega) (fun _ => ?_)
    refine zq (σ := τ1) hV hs1.1.1 hs1.1.2 2 ?_
    show zSp _ _ 83 [.int (zCe zx (10 + j)), .int (nI n)] τ1 (fun r σ' => σ'.2.2.2 = τ1.2.2.2 + zAl 83 → V 95 [(0, .ref zsc), (1, .ref 0), (3, .int (nI n)), (4, .int (nI F)), (5, .int wv), (6, .int (nI j))] (r.toList ++ [.ref 0]) σ')
    refine up_ok (n := n) rfl (by omega) (by omega) (fun _ => ?_)
    refine zq (σ := τ1) hV hs1.1.1 hs1.1.2 5 ?_
    show zSp _ _ 82 [.ref zsc, .int (10 + (nI j))] τ1 (fun r σ' => σ'.2.2.2 = τ1.2.2.2 + zAl 82 → V 104 [(0, .ref zsc), (1, .ref 0), (3, .int (nI n)), (4, .int (nI F)), (5, .int wv), (6, .int (nI j))] (r.toList ++ [.int (nI (zUp (zCe zx (10 + j)) n)), .ref 0]) σ')
    refine cell_ok hL (k := (10 + j)) (zn_a (a := 10) (b := j) rfl rfl) (by omega) (fun _ => ?_)
    refine zq (σ := τ1) hV hs1.1.1 hs1.1.2 4 ?_
    show zSp _ _ 83 [.int ((zCe zx (10 + j)) >>> (4 &&& 31)), .int 9] τ1 (fun r σ' => σ'.2.2.2 = τ1.2.2.2 + zAl 83 → V 111 [(0, .ref zsc), (1, .ref 0), (3, .int (nI n)), (4, .int (nI F)), (5, .int wv), (6, .int (nI j))] (r.toList ++ [.int (nI (zUp (zCe zx (10 + j)) n)), .ref 0]) σ')
    refine up_ok (n := 9) rfl (by omega) (by omega) (fun _ => ?_)
    refine zq (σ := τ1) hV hs1.1.1 hs1.1.2 1 ?_
    show zSp _ _ 56 [.ref 0, .int (nI (zUp (zCe zx (10 + j)) n)), .int (nI (zUp ((zCe zx (10 + j)) >>> (4 &&& 31)) 9))] τ1 (fun r σ' => σ'.2.2.2 = τ1.2.2.2 + zAl 56 → V 114 [(0, .ref zsc), (1, .ref 0), (3, .int (nI n)), (4, .int (nI F)), (5, .int wv), (6, .int (nI j))] (r.toList ++ []) σ')
    refine finger_L hs1 hn10 (by omega) rfl (zUp_lt (by omega)) (zUp_b (by decide) (by decide) (by decide)) (fun τ2 hs2 _ => ?_)
    refine zq (σ := τ2) hV hs2.1.1 hs2.1.2 2 ?_
    show ((nI j) = (nI j) → V 121 [(0, .ref zsc), (1, .ref 0), (3, .int (nI n)), (4, .int (nI F)), (5, .int wv), (6, .int (nI j))] [] τ2) ∧ (¬ (nI j) = (nI j) → V 119 [(0, .ref zsc), (1, .ref 0), (3, .int (nI n)), (4, .int (nI F)), (5, .int wv), (6, .int (nI j))] [] τ2)
    refine ⟨fun _ => ?_, fun hc => absurd rfl hc⟩
    refine zwk hV [0, 1, 2, 3, 4, 5] rfl ?_
    have hE2 : zEs n (upd E j (nI (zUp (zCe zx (10 + j)) n))) (upd S j (nI (zUp (zCe zx (10 + j) >>> (4 &&& 31)) 9))) (j + 1) := zEs_up hE rfl (zUp_lt (by omega)) (zUp_b (by decide) (by decide) (by decide))
    refine zlD hV hn10 hB hL (by omega) hE2 hf0 pk_us ?_ (fun g τ w1 hg hw1 hs => ?_) hs2
    · rcases hwv with ⟨_, h⟩ | h
      · exact zWh_nn _ (Or.inr h)
      · rw [h]
        refine zWh_imp (fun y => zHo_more hB hf0 hn10 hE2.1 hE2.2 ((zHo_congr (fun i hi => ?_)).mp y))
        exact ⟨(pk_un (by omega)).symm, (pk_un (by omega)).symm⟩
    · skip
      refine zq (σ := τ) hV hs.1.1 hs.1.2 2 ?_
      show V 56 [(6, .int ((nI j) + 1)), (0, .ref zsc), (1, .ref 0), (3, .int (nI n)), (4, .int (nI F)), (5, .int w1)] [] τ
      refine zwk hV [1, 2, 3, 4, 5, 0] rfl ?_
      rw [nI_1 j]
      exact ihK (j + 1) _ _ _ _ _ (by omega) hg hE2 hs (Or.inr hw1)
set_option maxRecDepth 8000 in
set_option maxHeartbeats 4000000 in
theorem zlS (hV : zOk (zSp zx 7) zx mL_law 31 V (fun (r : Option Value) (_ : zSt) => r = some (.int 1))) (hn10 : n ≤ 10) (hB : zHB n X Y) (hL : zx.1 ≤ 260) (hn4 : 4 ≤ n) (hM : M ≤ 6) (hnx : ∀ (su sv sw : Nat → Int32) (τ : zSt), zEs n su sv M → (∀ i, i < M → sw i = nI (zUp (zCe zx (21 + i) >>> (8 &&& 31)) 40)) → zLS n X Y E S k g M su sv sw τ → V 534 [(0, .ref zsc), (1, .ref 0), (3, .int (nI n)), (4, .int (nI F)), (6, .int (nI M))] [] τ) : ∀ (r j : Nat) (su sv sw : Nat → Int32) (τ : zSt), j + r = M → zEs n su sv j → (∀ i, i < j → sw i = nI (zUp (zCe zx (21 + i) >>> (8 &&& 31)) 40)) → zLS n X Y E S k g j su sv sw τ → V 462 [(0, .ref zsc), (1, .ref 0), (3, .int (nI n)), (4, .int (nI F)), (6, .int (nI M)), (7, .int (nI j))] [] τ := by
  intro r
  induction r with
  | zero =>
    intro j su sv sw τ hjr hEs hP hs
    refine zq (σ := τ) hV hs.1.1 hs.1.2 3 ?_
    show ((nI M) ≤ (nI j) → V 534 [(0, .ref zsc), (1, .ref 0), (3, .int (nI n)), (4, .int (nI F)), (6, .int (nI M)), (7, .int (nI j))] [] τ) ∧ (¬ (nI M) ≤ (nI j) → V 469 [(0, .ref zsc), (1, .ref 0), (3, .int (nI n)), (4, .int (nI F)), (6, .int (nI M)), (7, .int (nI j))] [] τ)
    refine ⟨fun _ => ?_, fun hc => absurd (nI_le (a := M) (b := j) (by omega) (by omega)) hc⟩
    refine zwk hV [0, 1, 2, 3, 4] rfl ?_
    have e9 : j = M := by omega
    rw [e9] at hEs hP hs
    exact hnx _ _ _ _ hEs hP hs
  | succ r ihS =>
    intro j su sv sw τ hjr hEs hP hs
    refine zq (σ := τ) hV hs.1.1 hs.1.2 3 ?_
    show ((nI M) ≤ (nI j) → V 534 [(0, .ref zsc), (1, .ref 0), (3, .int (nI n)), (4, .int (nI F)), (6, .int (nI M)), (7, .int (nI j))] [] τ) ∧ (¬ (nI M) ≤ (nI j) → V 469 [(0, .ref zsc), (1, .ref 0), (3, .int (nI n)), (4, .int (nI F)), (6, .int (nI M)), (7, .int (nI j))] [] τ)
    refine ⟨fun hc => absurd hc (nI_ge (a := j) (b := M) (by omega) (by omega)), fun _ => ?_⟩
    refine zq (σ := τ) hV hs.1.1 hs.1.2 6 ?_
    show zSp _ _ 82 [.ref zsc, .int (21 + (nI j))] τ (fun r σ' => σ'.2.2.2 = τ.2.2.2 + zAl 82 → V 479 [(0, .ref zsc), (1, .ref 0), (3, .int (nI n)), (4, .int (nI F)), (6, .int (nI M)), (7, .int (nI j))] (r.toList ++ [.ref 0]) σ')
    refine cell_ok hL (k := (21 + j)) (zn_a (a := 21) (b := j) rfl rfl) (by omega) (fun _ => ?_)
    refine zq (σ := τ) hV hs.1.1 hs.1.2 2 ?_
    show zSp _ _ 83 [.int (zCe zx (21 + j)), .int (nI n)] τ (fun r σ' => σ'.2.2.2 = τ.2.2.2 + zAl 83 → V 483 [(0, .ref zsc), (1, .ref 0), (3, .int (nI n)), (4, .int (nI F)), (6, .int (nI M)), (7, .int (nI j))] (r.toList ++ [.ref 0]) σ')
    refine up_ok (n := n) rfl (by omega) (by omega) (fun _ => ?_)
    refine zq (σ := τ) hV hs.1.1 hs.1.2 5 ?_
    show zSp _ _ 82 [.ref zsc, .int (21 + (nI j))] τ (fun r σ' => σ'.2.2.2 = τ.2.2.2 + zAl 82 → V 492 [(0, .ref zsc), (1, .ref 0), (3, .int (nI n)), (4, .int (nI F)), (6, .int (nI M)), (7, .int (nI j))] (r.toList ++ [.int (nI (zUp (zCe zx (21 + j)) n)), .ref 0]) σ')
    refine cell_ok hL (k := (21 + j)) (zn_a (a := 21) (b := j) rfl rfl) (by omega) (fun _ => ?_)
    refine zq (σ := τ) hV hs.1.1 hs.1.2 4 ?_
    show zSp _ _ 83 [.int ((zCe zx (21 + j)) >>> (4 &&& 31)), .int 9] τ (fun r σ' => σ'.2.2.2 = τ.2.2.2 + zAl 83 → V 499 [(0, .ref zsc), (1, .ref 0), (3, .int (nI n)), (4, .int (nI F)), (6, .int (nI M)), (7, .int (nI j))] (r.toList ++ [.int (nI (zUp (zCe zx (21 + j)) n)), .ref 0]) σ')
    refine up_ok (n := 9) rfl (by omega) (by omega) (fun _ => ?_)
    refine zq (σ := τ) hV hs.1.1 hs.1.2 5 ?_
    show zSp _ _ 82 [.ref zsc, .int (21 + (nI j))] τ (fun r σ' => σ'.2.2.2 = τ.2.2.2 + zAl 82 → V 508 [(0, .ref zsc), (1, .ref 0), (3, .int (nI n)), (4, .int (nI F)), (6, .int (nI M)), (7, .int (nI j))] (r.toList ++ [.int (nI (zUp ((zCe zx (21 + j)) >>> (4 &&& 31)) 9)), .int (nI (zUp (zCe zx (21 + j)) n)), .ref 0]) σ')
    refine cell_ok hL (k := (21 + j)) (zn_a (a := 21) (b := j) rfl rfl) (by omega) (fun _ => ?_)
    refine zq (σ := τ) hV hs.1.1 hs.1.2 4 ?_
    show zSp _ _ 83 [.int ((zCe zx (21 + j)) >>> (8 &&& 31)), .int 40] τ (fun r σ' => σ'.2.2.2 = τ.2.2.2 + zAl 83 → V 516 [(0, .ref zsc), (1, .ref 0), (3, .int (nI n)), (4, .int (nI F)), (6, .int (nI M)), (7, .int (nI j))] (r.toList ++ [.int (nI (zUp ((zCe zx (21 + j)) >>> (4 &&& 31)) 9)), .int (nI (zUp (zCe zx (21 + j)) n)), .ref 0]) σ')
    refine up_ok (n := 40) rfl (by omega) (by omega) (fun _ => ?_)
    refine zq (σ := τ) hV hs.1.1 hs.1.2 1 ?_
    show zSp _ _ 66 [.ref 0, .int (nI (zUp (zCe zx (21 + j)) n)), .int (nI (zUp ((zCe zx (21 + j)) >>> (4 &&& 31)) 9)), .int (nI (zUp ((zCe zx (21 + j)) >>> (8 &&& 31)) 40))] τ (fun r σ' => σ'.2.2.2 = τ.2.2.2 + zAl 66 → V 519 [(0, .ref zsc), (1, .ref 0), (3, .int (nI n)), (4, .int (nI F)), (6, .int (nI M)), (7, .int (nI j))] (r.toList ++ []) σ')
    refine spot_L hs hn10 (by omega) rfl (zUp_lt (by omega)) (zUp_b (by decide) (by decide) (by decide)) (zUp_b (by decide) (by decide) (by decide)) (fun τ1 hs1 _ => ?_)
    refine zq (σ := τ1) hV hs1.1.1 hs1.1.2 4 ?_
    show ((nI (j + 1)) = ((nI j) + 1) → V 528 [(0, .ref zsc), (1, .ref 0), (3, .int (nI n)), (4, .int (nI F)), (6, .int (nI M)), (7, .int (nI j))] [] τ1) ∧ (¬ (nI (j + 1)) = ((nI j) + 1) → V 526 [(0, .ref zsc), (1, .ref 0), (3, .int (nI n)), (4, .int (nI F)), (6, .int (nI M)), (7, .int (nI j))] [] τ1)
    refine ⟨fun _ => ?_, fun hc => absurd (nI_1 j).symm hc⟩
    refine zq (σ := τ1) hV hs1.1.1 hs1.1.2 2 ?_
    show V 462 [(7, .int ((nI j) + 1)), (0, .ref zsc), (1, .ref 0), (3, .int (nI n)), (4, .int (nI F)), (6, .int (nI M))] [] τ1
    refine zwk hV [1, 2, 3, 4, 5, 0] rfl ?_
    rw [nI_1 j]
    refine ihS (j + 1) _ _ _ _ (by omega) (zEs_up hEs rfl (zUp_lt (by omega)) (zUp_b (by decide) (by decide) (by decide))) (fun i hi => ?_) hs1
    by_cases e9 : i = j
    · rw [e9, pk_us]
    · rw [pk_un e9]; exact hP i (by omega)
set_option maxRecDepth 8000 in
set_option maxHeartbeats 4000000 in
theorem zlPr (hV : zOk (zSp zx 7) zx mL_law 31 V (fun (r : Option Value) (_ : zSt) => r = some (.int 1))) (hn10 : n ≤ 10) (hB : zHB n X Y) (hL : zx.1 ≤ 260) (hM : M ≤ 6) {be pr : Int32} (hnx : ∀ τ : zSt, zLS n X Y E S k g s su sv sw τ → V 636 [(0, .ref zsc), (1, .ref 0), (3, .int (nI n)), (4, .int (nI F)), (6, .int (nI M)), (7, .int be), (8, .int pr), (9, .int (zPx be (fun i => nI (zUp (zCe zx (21 + i) >>> (8 &&& 31)) 40)) M))] [] τ) : ∀ (r j : Nat) (τ : zSt), j + r = M → zLS n X Y E S k g s su sv sw τ → V 586 [(0, .ref zsc), (1, .ref 0), (3, .int (nI n)), (4, .int (nI F)), (6, .int (nI M)), (7, .int be), (8, .int pr), (9, .int (zPx be (fun i => nI (zUp (zCe zx (21 + i) >>> (8 &&& 31)) 40)) j)), (10, .int (nI j))] [] τ := by
  intro r
  induction r with
  | zero =>
    intro j τ hjr hs
    refine zq (σ := τ) hV hs.1.1 hs.1.2 3 ?_
    show ((nI M) ≤ (nI j) → V 636 [(0, .ref zsc), (1, .ref 0), (3, .int (nI n)), (4, .int (nI F)), (6, .int (nI M)), (7, .int be), (8, .int pr), (9, .int (zPx be (fun i => nI (zUp (zCe zx (21 + i) >>> (8 &&& 31)) 40)) j)), (10, .int (nI j))] [] τ) ∧ (¬ (nI M) ≤ (nI j) → V 593 [(0, .ref zsc), (1, .ref 0), (3, .int (nI n)), (4, .int (nI F)), (6, .int (nI M)), (7, .int be), (8, .int pr), (9, .int (zPx be (fun i => nI (zUp (zCe zx (21 + i) >>> (8 &&& 31)) 40)) j)), (10, .int (nI j))] [] τ)
    refine ⟨fun _ => ?_, fun hc => absurd (nI_le (a := M) (b := j) (by omega) (by omega)) hc⟩
    refine zwk hV [0, 1, 2, 3, 4, 5, 6, 7] rfl ?_
    rw [show j = M by omega]
    exact hnx τ hs
  | succ r ihP =>
    intro j τ hjr hs
    refine zq (σ := τ) hV hs.1.1 hs.1.2 3 ?_
    show ((nI M) ≤ (nI j) → V 636 [(0, .ref zsc), (1, .ref 0), (3, .int (nI n)), (4, .int (nI F)), (6, .int (nI M)), (7, .int be), (8, .int pr), (9, .int (zPx be (fun i => nI (zUp (zCe zx (21 + i) >>> (8 &&& 31)) 40)) j)), (10, .int (nI j))] [] τ) ∧ (¬ (nI M) ≤ (nI j) → V 593 [(0, .ref zsc), (1, .ref 0), (3, .int (nI n)), (4, .int (nI F)), (6, .int (nI M)), (7, .int be), (8, .int pr), (9, .int (zPx be (fun i => nI (zUp (zCe zx (21 + i) >>> (8 &&& 31)) 40)) j)), (10, .int (nI j))] [] τ)
    refine ⟨fun hc => absurd hc (nI_ge (a := j) (b := M) (by omega) (by omega)), fun _ => ?_⟩
    refine zq (σ := τ) hV hs.1.1 hs.1.2 8 ?_
    show (¬ ((be >>> ((nI j) &&& 31)) &&& 1) = 1 → V 626 [(0, .ref zsc), (1, .ref 0), (3, .int (nI n)), (4, .int (nI F)), (6, .int (nI M)), (7, .int be), (8, .int pr), (9, .int (zPx be (fun i => nI (zUp (zCe zx (21 + i) >>> (8 &&& 31)) 40)) j)), (10, .int (nI j))] [.int (zPx be (fun i => nI (zUp (zCe zx (21 + i) >>> (8 &&& 31)) 40)) j)] τ) ∧ (¬ (¬ ((be >>> ((nI j) &&& 31)) &&& 1) = 1) → V 606 [(0, .ref zsc), (1, .ref 0), (3, .int (nI n)), (4, .int (nI F)), (6, .int (nI M)), (7, .int be), (8, .int pr), (9, .int (zPx be (fun i => nI (zUp (zCe zx (21 + i) >>> (8 &&& 31)) 40)) j)), (10, .int (nI j))] [.int (zPx be (fun i => nI (zUp (zCe zx (21 + i) >>> (8 &&& 31)) 40)) j)] τ)
    refine ⟨fun h_603 => ?_, fun h_603 => ?_⟩
    · skip
      refine zq (σ := τ) hV hs.1.1 hs.1.2 5 ?_
      show V 586 [(10, .int ((nI j) + 1)), (9, .int ((zPx be (fun i => nI (zUp (zCe zx (21 + i) >>> (8 &&& 31)) 40)) j) + 0)), (0, .ref zsc), (1, .ref 0), (3, .int (nI n)), (4, .int (nI F)), (6, .int (nI M)), (7, .int be), (8, .int pr)] [] τ
      refine zwk hV [2, 3, 4, 5, 6, 7, 8, 1, 0] rfl ?_
      rw [nI_1 j]
      have e9 := ihP (j + 1) τ (by omega) hs
      have e8 : zPx be (fun i => nI (zUp (zCe zx (21 + i) >>> (8 &&& 31)) 40)) (j + 1) = ((zPx be (fun i => nI (zUp (zCe zx (21 + i) >>> (8 &&& 31)) 40)) j) + 0) := by
        show (if zbt be j = 0 then zPx be (fun i => nI (zUp (zCe zx (21 + i) >>> (8 &&& 31)) 40)) j else _) = _
        rw [if_pos ((zbt01 be j).resolve_right h_603), Int32.add_zero]
      rw [e8] at e9
      exact e9
    · skip
      have h_603 := Classical.not_not.mp h_603
      refine zq (σ := τ) hV hs.1.1 hs.1.2 5 ?_
      show zSp _ _ 82 [.ref zsc, .int (21 + (nI j))] τ (fun r σ' => σ'.2.2.2 = τ.2.2.2 + zAl 82 → V 615 [(0, .ref zsc), (1, .ref 0), (3, .int (nI n)), (4, .int (nI F)), (6, .int (nI M)), (7, .int be), (8, .int pr), (9, .int (zPx be (fun i => nI (zUp (zCe zx (21 + i) >>> (8 &&& 31)) 40)) j)), (10, .int (nI j))] (r.toList ++ [.int (zPx be (fun i => nI (zUp (zCe zx (21 + i) >>> (8 &&& 31)) 40)) j)]) σ')
      refine cell_ok hL (k := (21 + j)) (zn_a (a := 21) (b := j) rfl rfl) (by omega) (fun _ => ?_)
      refine zq (σ := τ) hV hs.1.1 hs.1.2 4 ?_
      show zSp _ _ 83 [.int ((zCe zx (21 + j)) >>> (8 &&& 31)), .int 40] τ (fun r σ' => σ'.2.2.2 = τ.2.2.2 + zAl 83 → V 623 [(0, .ref zsc), (1, .ref 0), (3, .int (nI n)), (4, .int (nI F)), (6, .int (nI M)), (7, .int be), (8, .int pr), (9, .int (zPx be (fun i => nI (zUp (zCe zx (21 + i) >>> (8 &&& 31)) 40)) j)), (10, .int (nI j))] (r.toList ++ [.int (zPx be (fun i => nI (zUp (zCe zx (21 + i) >>> (8 &&& 31)) 40)) j)]) σ')
      refine up_ok (n := 40) rfl (by omega) (by omega) (fun _ => ?_)
      refine zq (σ := τ) hV hs.1.1 hs.1.2 5 ?_
      show V 586 [(10, .int ((nI j) + 1)), (9, .int ((zPx be (fun i => nI (zUp (zCe zx (21 + i) >>> (8 &&& 31)) 40)) j) + (nI (zUp ((zCe zx (21 + j)) >>> (8 &&& 31)) 40)))), (0, .ref zsc), (1, .ref 0), (3, .int (nI n)), (4, .int (nI F)), (6, .int (nI M)), (7, .int be), (8, .int pr)] [] τ
      refine zwk hV [2, 3, 4, 5, 6, 7, 8, 1, 0] rfl ?_
      rw [nI_1 j]
      have e9 := ihP (j + 1) τ (by omega) hs
      have e8 : zPx be (fun i => nI (zUp (zCe zx (21 + i) >>> (8 &&& 31)) 40)) (j + 1) = ((zPx be (fun i => nI (zUp (zCe zx (21 + i) >>> (8 &&& 31)) 40)) j) + (nI (zUp ((zCe zx (21 + j)) >>> (8 &&& 31)) 40))) := by
        show (if zbt be j = 0 then _ else zPx be (fun i => nI (zUp (zCe zx (21 + i) >>> (8 &&& 31)) 40)) j + _) = _
        rw [if_neg (fun y => absurd ((show zbt be j = 1 from h_603).symm.trans y) (by decide))]
      rw [e8] at e9
      exact e9
