variable {zx : Nat × (Nat → Int32)}
set_option maxRecDepth 8000 in
set_option maxHeartbeats 4000000 in
theorem signs_ok {d : Nat} {σ : zSt} {K : Option Value → zSt → Prop} {m : Nat} (hI : zQI (kR 10 14) σ.2.2) (hs : σ.1 10 3 = nI m) (hm : m ≤ 16) (hK : K (some (.int (zsg (zBl (zA11 σ) (zA12 σ) (zA13 σ) (σ.2.1 10 4) (σ.2.1 10 5) (σ.2.1 10 6) m) (zAb (zA11 σ) (zA12 σ) (zA13 σ) (σ.2.1 10 4) (σ.2.1 10 5) (σ.2.1 10 6) m)))) σ) : zSp zx (d + 2) mX7_signs [.ref 10] σ K := by
  refine ⟨⟨by decide, Nat.le_of_ble_eq_true rfl⟩, fun V hV => ?_⟩
  refine zq (σ := σ) hV hI rfl 4 ?_
  show V 4 [(2, .int 0), (1, .int 0), (0, .ref 10)] [] σ
  refine zwk hV [2, 1, 0] rfl ?_
  have H : ∀ (r t : Nat) (x : Int32), t + r = m → x = zsg (zBl (zA11 σ) (zA12 σ) (zA13 σ) (σ.2.1 10 4) (σ.2.1 10 5) (σ.2.1 10 6) t) (zAb (zA11 σ) (zA12 σ) (zA13 σ) (σ.2.1 10 4) (σ.2.1 10 5) (σ.2.1 10 6) t) → V 4 [(0, .ref 10), (1, .int x), (2, .int (nI t))] [] σ := by
    intro r
    induction r with
    | zero =>
      intro t x htm hx
      obtain rfl : t = m := by omega
      refine zq (σ := σ) hV hI rfl 4 ?_
      show ((σ.1 10 3) ≤ (nI t) → V 91 [(0, .ref 10), (1, .int x), (2, .int (nI t))] [] σ) ∧ (¬ (σ.1 10 3) ≤ (nI t) → V 12 [(0, .ref 10), (1, .int x), (2, .int (nI t))] [] σ)
      refine ⟨fun _ => ?_, fun hc => absurd (show σ.1 10 3 ≤ nI t by rw [hs]; exact Int32.le_refl _) hc⟩
      refine zq (σ := σ) hV hI rfl 2 ?_
      show K (some (.int x)) σ
      subst hx
      exact hK
    | succ r ih =>
      intro t x htm hx
      cases hb : zBl (zA11 σ) (zA12 σ) (zA13 σ) (σ.2.1 10 4) (σ.2.1 10 5) (σ.2.1 10 6) t <;> cases ha : zAb (zA11 σ) (zA12 σ) (zA13 σ) (σ.2.1 10 4) (σ.2.1 10 5) (σ.2.1 10 6) t
      · skip
        rw [hb, ha] at hx
        replace hx : x = 0 := hx
        subst hx
        refine zq (σ := σ) hV hI rfl 4 ?_
        show ((σ.1 10 3) ≤ (nI t) → V 91 [(0, .ref 10), (1, .int 0), (2, .int (nI t))] [] σ) ∧ (¬ (σ.1 10 3) ≤ (nI t) → V 12 [(0, .ref 10), (1, .int 0), (2, .int (nI t))] [] σ)
        refine ⟨fun hc => absurd hc (show ¬ σ.1 10 3 ≤ nI t by rw [hs]; exact nI_ge (by omega) (by omega)), fun _ => ?_⟩
        refine zq (σ := σ) hV hI rfl 3 ?_
        show ((0 : Int32) = 3 → V 91 [(0, .ref 10), (1, .int 0), (2, .int (nI t))] [] σ) ∧ (¬ (0 : Int32) = 3 → V 17 [(0, .ref 10), (1, .int 0), (2, .int (nI t))] [] σ)
        refine ⟨fun hc => absurd hc (by decide), fun _ => ?_⟩
        refine zq (σ := σ) hV hI rfl 6 ?_
        show zSp _ _ 79 [.ref 11, .int (nI t)] σ (fun r σ' => σ'.2.2.2 = σ.2.2.2 + zAl 79 → V 29 [(0, .ref 10), (1, .int 0), (2, .int (nI t))] (r.toList ++ [.long (σ.2.1 10 4)]) σ')
        refine item_11 (zA_of hI rfl) rfl (by omega) (fun _ => ?_)
        refine zq (σ := σ) hV hI rfl 8 ?_
        show zSp _ _ 79 [.ref 12, .int (nI t)] σ (fun r σ' => σ'.2.2.2 = σ.2.2.2 + zAl 79 → V 43 [(0, .ref 10), (1, .int 0), (2, .int (nI t))] (r.toList ++ [.long (σ.2.1 10 5), .long ((σ.2.1 10 4) * (Int32.toInt64 (σ.1 11 t)))]) σ')
        refine item_12 (zA_of hI rfl) rfl (by omega) (fun _ => ?_)
        refine zq (σ := σ) hV hI rfl 9 ?_
        show zSp _ _ 79 [.ref 13, .int (nI t)] σ (fun r σ' => σ'.2.2.2 = σ.2.2.2 + zAl 79 → V 58 [(0, .ref 10), (1, .int 0), (2, .int (nI t))] (r.toList ++ [.long (σ.2.1 10 6), .long (((σ.2.1 10 4) * (Int32.toInt64 (σ.1 11 t))) + ((σ.2.1 10 5) * (Int32.toInt64 (σ.1 12 t))))]) σ')
        refine item_13 (zA_of hI rfl) rfl (by omega) (fun _ => ?_)
        refine zq (σ := σ) hV hI rfl 8 ?_
        show (0 ≤ (lg_cmp ((((σ.2.1 10 4) * (Int32.toInt64 (σ.1 11 t))) + ((σ.2.1 10 5) * (Int32.toInt64 (σ.1 12 t)))) + ((σ.2.1 10 6) * (Int32.toInt64 (σ.1 13 t)))) 0) → V 75 [(3, .long ((((σ.2.1 10 4) * (Int32.toInt64 (σ.1 11 t))) + ((σ.2.1 10 5) * (Int32.toInt64 (σ.1 12 t)))) + ((σ.2.1 10 6) * (Int32.toInt64 (σ.1 13 t))))), (0, .ref 10), (1, .int 0), (2, .int (nI t))] [] σ) ∧ (¬ 0 ≤ (lg_cmp ((((σ.2.1 10 4) * (Int32.toInt64 (σ.1 11 t))) + ((σ.2.1 10 5) * (Int32.toInt64 (σ.1 12 t)))) + ((σ.2.1 10 6) * (Int32.toInt64 (σ.1 13 t)))) 0) → V 68 [(3, .long ((((σ.2.1 10 4) * (Int32.toInt64 (σ.1 11 t))) + ((σ.2.1 10 5) * (Int32.toInt64 (σ.1 12 t)))) + ((σ.2.1 10 6) * (Int32.toInt64 (σ.1 13 t))))), (0, .ref 10), (1, .int 0), (2, .int (nI t))] [] σ)
        refine ⟨fun h_65 => ?_, fun h_65 => ?_⟩
        · skip
          refine zq (σ := σ) hV hI rfl 4 ?_
          show ((lg_cmp ((((σ.2.1 10 4) * (Int32.toInt64 (σ.1 11 t))) + ((σ.2.1 10 5) * (Int32.toInt64 (σ.1 12 t)))) + ((σ.2.1 10 6) * (Int32.toInt64 (σ.1 13 t)))) 0) ≤ 0 → V 85 [(3, .long ((((σ.2.1 10 4) * (Int32.toInt64 (σ.1 11 t))) + ((σ.2.1 10 5) * (Int32.toInt64 (σ.1 12 t)))) + ((σ.2.1 10 6) * (Int32.toInt64 (σ.1 13 t))))), (0, .ref 10), (1, .int 0), (2, .int (nI t))] [] σ) ∧ (¬ (lg_cmp ((((σ.2.1 10 4) * (Int32.toInt64 (σ.1 11 t))) + ((σ.2.1 10 5) * (Int32.toInt64 (σ.1 12 t)))) + ((σ.2.1 10 6) * (Int32.toInt64 (σ.1 13 t)))) 0) ≤ 0 → V 81 [(3, .long ((((σ.2.1 10 4) * (Int32.toInt64 (σ.1 11 t))) + ((σ.2.1 10 5) * (Int32.toInt64 (σ.1 12 t)))) + ((σ.2.1 10 6) * (Int32.toInt64 (σ.1 13 t))))), (0, .ref 10), (1, .int 0), (2, .int (nI t))] [] σ)
          refine ⟨fun h_78 => ?_, fun h_78 => ?_⟩
          · skip
            refine zq (σ := σ) hV hI rfl 2 ?_
            show V 4 [(2, .int ((nI t) + 1)), (3, .long ((((σ.2.1 10 4) * (Int32.toInt64 (σ.1 11 t))) + ((σ.2.1 10 5) * (Int32.toInt64 (σ.1 12 t)))) + ((σ.2.1 10 6) * (Int32.toInt64 (σ.1 13 t))))), (0, .ref 10), (1, .int 0)] [] σ
            refine zwk hV [2, 3, 0] rfl ?_
            rw [nI_1]
            refine ih (t + 1) _ (by omega) ?_
            have hp : 0 ≤ zPr (zA11 σ) (zA12 σ) (zA13 σ) (σ.2.1 10 4) (σ.2.1 10 5) (σ.2.1 10 6) t ∧ zPr (zA11 σ) (zA12 σ) (zA13 σ) (σ.2.1 10 4) (σ.2.1 10 5) (σ.2.1 10 6) t ≤ 0 := ⟨zcmp_ge.mp h_65, zcmp_le.mp h_78⟩
            have d1 : decide (zPr (zA11 σ) (zA12 σ) (zA13 σ) (σ.2.1 10 4) (σ.2.1 10 5) (σ.2.1 10 6) t < 0) = false := by refine decide_eq_false ?_; simp only [zlt64, zle64] at hp ⊢; omega
            have d2 : decide (0 < zPr (zA11 σ) (zA12 σ) (zA13 σ) (σ.2.1 10 4) (σ.2.1 10 5) (σ.2.1 10 6) t) = false := by refine decide_eq_false ?_; simp only [zlt64, zle64] at hp ⊢; omega
            rw [zBl, zAb, hb, ha, d1, d2]
            decide
          · skip
            refine zq (σ := σ) hV hI rfl 6 ?_
            show V 4 [(2, .int ((nI t) + 1)), (1, .int (0 ||| 2)), (3, .long ((((σ.2.1 10 4) * (Int32.toInt64 (σ.1 11 t))) + ((σ.2.1 10 5) * (Int32.toInt64 (σ.1 12 t)))) + ((σ.2.1 10 6) * (Int32.toInt64 (σ.1 13 t))))), (0, .ref 10)] [] σ
            refine zwk hV [3, 1, 0] rfl ?_
            rw [nI_1]
            refine ih (t + 1) _ (by omega) ?_
            have hp : 0 < zPr (zA11 σ) (zA12 σ) (zA13 σ) (σ.2.1 10 4) (σ.2.1 10 5) (σ.2.1 10 6) t := Int64.not_le.mp (fun q => h_78 (zcmp_le.mpr q))
            have d1 : decide (zPr (zA11 σ) (zA12 σ) (zA13 σ) (σ.2.1 10 4) (σ.2.1 10 5) (σ.2.1 10 6) t < 0) = false := by refine decide_eq_false ?_; simp only [zlt64, zle64] at hp ⊢; omega
            have d2 : decide (0 < zPr (zA11 σ) (zA12 σ) (zA13 σ) (σ.2.1 10 4) (σ.2.1 10 5) (σ.2.1 10 6) t) = true := by refine decide_eq_true ?_; simp only [zlt64, zle64] at hp ⊢; omega
            rw [zBl, zAb, hb, ha, d1, d2]
            decide
        · skip
          refine zq (σ := σ) hV hI rfl 7 ?_
          show V 4 [(2, .int ((nI t) + 1)), (1, .int (0 ||| 1)), (3, .long ((((σ.2.1 10 4) * (Int32.toInt64 (σ.1 11 t))) + ((σ.2.1 10 5) * (Int32.toInt64 (σ.1 12 t)))) + ((σ.2.1 10 6) * (Int32.toInt64 (σ.1 13 t))))), (0, .ref 10)] [] σ
          refine zwk hV [3, 1, 0] rfl ?_
          rw [nI_1]
          refine ih (t + 1) _ (by omega) ?_
          have hp : zPr (zA11 σ) (zA12 σ) (zA13 σ) (σ.2.1 10 4) (σ.2.1 10 5) (σ.2.1 10 6) t < 0 := Int64.not_le.mp (fun q => h_65 (zcmp_ge.mpr q))
          have d1 : decide (zPr (zA11 σ) (zA12 σ) (zA13 σ) (σ.2.1 10 4) (σ.2.1 10 5) (σ.2.1 10 6) t < 0) = true := by refine decide_eq_true ?_; simp only [zlt64, zle64] at hp ⊢; omega
          have d2 : decide (0 < zPr (zA11 σ) (zA12 σ) (zA13 σ) (σ.2.1 10 4) (σ.2.1 10 5) (σ.2.1 10 6) t) = false := by refine decide_eq_false ?_; simp only [zlt64, zle64] at hp ⊢; omega
          rw [zBl, zAb, hb, ha, d1, d2]
          decide
      · skip
        rw [hb, ha] at hx
        replace hx : x = 2 := hx
        subst hx
        refine zq (σ := σ) hV hI rfl 4 ?_
        show ((σ.1 10 3) ≤ (nI t) → V 91 [(0, .ref 10), (1, .int 2), (2, .int (nI t))] [] σ) ∧ (¬ (σ.1 10 3) ≤ (nI t) → V 12 [(0, .ref 10), (1, .int 2), (2, .int (nI t))] [] σ)
        refine ⟨fun hc => absurd hc (show ¬ σ.1 10 3 ≤ nI t by rw [hs]; exact nI_ge (by omega) (by omega)), fun _ => ?_⟩
        refine zq (σ := σ) hV hI rfl 3 ?_
        show ((2 : Int32) = 3 → V 91 [(0, .ref 10), (1, .int 2), (2, .int (nI t))] [] σ) ∧ (¬ (2 : Int32) = 3 → V 17 [(0, .ref 10), (1, .int 2), (2, .int (nI t))] [] σ)
        refine ⟨fun hc => absurd hc (by decide), fun _ => ?_⟩
        refine zq (σ := σ) hV hI rfl 6 ?_
        show zSp _ _ 79 [.ref 11, .int (nI t)] σ (fun r σ' => σ'.2.2.2 = σ.2.2.2 + zAl 79 → V 29 [(0, .ref 10), (1, .int 2), (2, .int (nI t))] (r.toList ++ [.long (σ.2.1 10 4)]) σ')
        refine item_11 (zA_of hI rfl) rfl (by omega) (fun _ => ?_)
        refine zq (σ := σ) hV hI rfl 8 ?_
        show zSp _ _ 79 [.ref 12, .int (nI t)] σ (fun r σ' => σ'.2.2.2 = σ.2.2.2 + zAl 79 → V 43 [(0, .ref 10), (1, .int 2), (2, .int (nI t))] (r.toList ++ [.long (σ.2.1 10 5), .long ((σ.2.1 10 4) * (Int32.toInt64 (σ.1 11 t)))]) σ')
        refine item_12 (zA_of hI rfl) rfl (by omega) (fun _ => ?_)
        refine zq (σ := σ) hV hI rfl 9 ?_
        show zSp _ _ 79 [.ref 13, .int (nI t)] σ (fun r σ' => σ'.2.2.2 = σ.2.2.2 + zAl 79 → V 58 [(0, .ref 10), (1, .int 2), (2, .int (nI t))] (r.toList ++ [.long (σ.2.1 10 6), .long (((σ.2.1 10 4) * (Int32.toInt64 (σ.1 11 t))) + ((σ.2.1 10 5) * (Int32.toInt64 (σ.1 12 t))))]) σ')
        refine item_13 (zA_of hI rfl) rfl (by omega) (fun _ => ?_)
        refine zq (σ := σ) hV hI rfl 8 ?_
        show (0 ≤ (lg_cmp ((((σ.2.1 10 4) * (Int32.toInt64 (σ.1 11 t))) + ((σ.2.1 10 5) * (Int32.toInt64 (σ.1 12 t)))) + ((σ.2.1 10 6) * (Int32.toInt64 (σ.1 13 t)))) 0) → V 75 [(3, .long ((((σ.2.1 10 4) * (Int32.toInt64 (σ.1 11 t))) + ((σ.2.1 10 5) * (Int32.toInt64 (σ.1 12 t)))) + ((σ.2.1 10 6) * (Int32.toInt64 (σ.1 13 t))))), (0, .ref 10), (1, .int 2), (2, .int (nI t))] [] σ) ∧ (¬ 0 ≤ (lg_cmp ((((σ.2.1 10 4) * (Int32.toInt64 (σ.1 11 t))) + ((σ.2.1 10 5) * (Int32.toInt64 (σ.1 12 t)))) + ((σ.2.1 10 6) * (Int32.toInt64 (σ.1 13 t)))) 0) → V 68 [(3, .long ((((σ.2.1 10 4) * (Int32.toInt64 (σ.1 11 t))) + ((σ.2.1 10 5) * (Int32.toInt64 (σ.1 12 t)))) + ((σ.2.1 10 6) * (Int32.toInt64 (σ.1 13 t))))), (0, .ref 10), (1, .int 2), (2, .int (nI t))] [] σ)
        refine ⟨fun h_65 => ?_, fun h_65 => ?_⟩
        · skip
          refine zq (σ := σ) hV hI rfl 4 ?_
          show ((lg_cmp ((((σ.2.1 10 4) * (Int32.toInt64 (σ.1 11 t))) + ((σ.2.1 10 5) * (Int32.toInt64 (σ.1 12 t)))) + ((σ.2.1 10 6) * (Int32.toInt64 (σ.1 13 t)))) 0) ≤ 0 → V 85 [(3, .long ((((σ.2.1 10 4) * (Int32.toInt64 (σ.1 11 t))) + ((σ.2.1 10 5) * (Int32.toInt64 (σ.1 12 t)))) + ((σ.2.1 10 6) * (Int32.toInt64 (σ.1 13 t))))), (0, .ref 10), (1, .int 2), (2, .int (nI t))] [] σ) ∧ (¬ (lg_cmp ((((σ.2.1 10 4) * (Int32.toInt64 (σ.1 11 t))) + ((σ.2.1 10 5) * (Int32.toInt64 (σ.1 12 t)))) + ((σ.2.1 10 6) * (Int32.toInt64 (σ.1 13 t)))) 0) ≤ 0 → V 81 [(3, .long ((((σ.2.1 10 4) * (Int32.toInt64 (σ.1 11 t))) + ((σ.2.1 10 5) * (Int32.toInt64 (σ.1 12 t)))) + ((σ.2.1 10 6) * (Int32.toInt64 (σ.1 13 t))))), (0, .ref 10), (1, .int 2), (2, .int (nI t))] [] σ)
          refine ⟨fun h_78 => ?_, fun h_78 => ?_⟩
          · skip
            refine zq (σ := σ) hV hI rfl 2 ?_
            show V 4 [(2, .int ((nI t) + 1)), (3, .long ((((σ.2.1 10 4) * (Int32.toInt64 (σ.1 11 t))) + ((σ.2.1 10 5) * (Int32.toInt64 (σ.1 12 t)))) + ((σ.2.1 10 6) * (Int32.toInt64 (σ.1 13 t))))), (0, .ref 10), (1, .int 2)] [] σ
            refine zwk hV [2, 3, 0] rfl ?_
            rw [nI_1]
            refine ih (t + 1) _ (by omega) ?_
            have hp : 0 ≤ zPr (zA11 σ) (zA12 σ) (zA13 σ) (σ.2.1 10 4) (σ.2.1 10 5) (σ.2.1 10 6) t ∧ zPr (zA11 σ) (zA12 σ) (zA13 σ) (σ.2.1 10 4) (σ.2.1 10 5) (σ.2.1 10 6) t ≤ 0 := ⟨zcmp_ge.mp h_65, zcmp_le.mp h_78⟩
            have d1 : decide (zPr (zA11 σ) (zA12 σ) (zA13 σ) (σ.2.1 10 4) (σ.2.1 10 5) (σ.2.1 10 6) t < 0) = false := by refine decide_eq_false ?_; simp only [zlt64, zle64] at hp ⊢; omega
            have d2 : decide (0 < zPr (zA11 σ) (zA12 σ) (zA13 σ) (σ.2.1 10 4) (σ.2.1 10 5) (σ.2.1 10 6) t) = false := by refine decide_eq_false ?_; simp only [zlt64, zle64] at hp ⊢; omega
            rw [zBl, zAb, hb, ha, d1, d2]
            decide
          · skip
            refine zq (σ := σ) hV hI rfl 6 ?_
            show V 4 [(2, .int ((nI t) + 1)), (1, .int (2 ||| 2)), (3, .long ((((σ.2.1 10 4) * (Int32.toInt64 (σ.1 11 t))) + ((σ.2.1 10 5) * (Int32.toInt64 (σ.1 12 t)))) + ((σ.2.1 10 6) * (Int32.toInt64 (σ.1 13 t))))), (0, .ref 10)] [] σ
            refine zwk hV [3, 1, 0] rfl ?_
            rw [nI_1]
            refine ih (t + 1) _ (by omega) ?_
            have hp : 0 < zPr (zA11 σ) (zA12 σ) (zA13 σ) (σ.2.1 10 4) (σ.2.1 10 5) (σ.2.1 10 6) t := Int64.not_le.mp (fun q => h_78 (zcmp_le.mpr q))
            have d1 : decide (zPr (zA11 σ) (zA12 σ) (zA13 σ) (σ.2.1 10 4) (σ.2.1 10 5) (σ.2.1 10 6) t < 0) = false := by refine decide_eq_false ?_; simp only [zlt64, zle64] at hp ⊢; omega
            have d2 : decide (0 < zPr (zA11 σ) (zA12 σ) (zA13 σ) (σ.2.1 10 4) (σ.2.1 10 5) (σ.2.1 10 6) t) = true := by refine decide_eq_true ?_; simp only [zlt64, zle64] at hp ⊢; omega
            rw [zBl, zAb, hb, ha, d1, d2]
            decide
        · skip
          refine zq (σ := σ) hV hI rfl 7 ?_
          show V 4 [(2, .int ((nI t) + 1)), (1, .int (2 ||| 1)), (3, .long ((((σ.2.1 10 4) * (Int32.toInt64 (σ.1 11 t))) + ((σ.2.1 10 5) * (Int32.toInt64 (σ.1 12 t)))) + ((σ.2.1 10 6) * (Int32.toInt64 (σ.1 13 t))))), (0, .ref 10)] [] σ
          refine zwk hV [3, 1, 0] rfl ?_
          rw [nI_1]
          refine ih (t + 1) _ (by omega) ?_
          have hp : zPr (zA11 σ) (zA12 σ) (zA13 σ) (σ.2.1 10 4) (σ.2.1 10 5) (σ.2.1 10 6) t < 0 := Int64.not_le.mp (fun q => h_65 (zcmp_ge.mpr q))
          have d1 : decide (zPr (zA11 σ) (zA12 σ) (zA13 σ) (σ.2.1 10 4) (σ.2.1 10 5) (σ.2.1 10 6) t < 0) = true := by refine decide_eq_true ?_; simp only [zlt64, zle64] at hp ⊢; omega
          have d2 : decide (0 < zPr (zA11 σ) (zA12 σ) (zA13 σ) (σ.2.1 10 4) (σ.2.1 10 5) (σ.2.1 10 6) t) = false := by refine decide_eq_false ?_; simp only [zlt64, zle64] at hp ⊢; omega
          rw [zBl, zAb, hb, ha, d1, d2]
          decide
      · skip
        rw [hb, ha] at hx
        replace hx : x = 1 := hx
        subst hx
        refine zq (σ := σ) hV hI rfl 4 ?_
        show ((σ.1 10 3) ≤ (nI t) → V 91 [(0, .ref 10), (1, .int 1), (2, .int (nI t))] [] σ) ∧ (¬ (σ.1 10 3) ≤ (nI t) → V 12 [(0, .ref 10), (1, .int 1), (2, .int (nI t))] [] σ)
        refine ⟨fun hc => absurd hc (show ¬ σ.1 10 3 ≤ nI t by rw [hs]; exact nI_ge (by omega) (by omega)), fun _ => ?_⟩
        refine zq (σ := σ) hV hI rfl 3 ?_
        show ((1 : Int32) = 3 → V 91 [(0, .ref 10), (1, .int 1), (2, .int (nI t))] [] σ) ∧ (¬ (1 : Int32) = 3 → V 17 [(0, .ref 10), (1, .int 1), (2, .int (nI t))] [] σ)
        refine ⟨fun hc => absurd hc (by decide), fun _ => ?_⟩
        refine zq (σ := σ) hV hI rfl 6 ?_
        show zSp _ _ 79 [.ref 11, .int (nI t)] σ (fun r σ' => σ'.2.2.2 = σ.2.2.2 + zAl 79 → V 29 [(0, .ref 10), (1, .int 1), (2, .int (nI t))] (r.toList ++ [.long (σ.2.1 10 4)]) σ')
        refine item_11 (zA_of hI rfl) rfl (by omega) (fun _ => ?_)
        refine zq (σ := σ) hV hI rfl 8 ?_
        show zSp _ _ 79 [.ref 12, .int (nI t)] σ (fun r σ' => σ'.2.2.2 = σ.2.2.2 + zAl 79 → V 43 [(0, .ref 10), (1, .int 1), (2, .int (nI t))] (r.toList ++ [.long (σ.2.1 10 5), .long ((σ.2.1 10 4) * (Int32.toInt64 (σ.1 11 t)))]) σ')
        refine item_12 (zA_of hI rfl) rfl (by omega) (fun _ => ?_)
        refine zq (σ := σ) hV hI rfl 9 ?_
        show zSp _ _ 79 [.ref 13, .int (nI t)] σ (fun r σ' => σ'.2.2.2 = σ.2.2.2 + zAl 79 → V 58 [(0, .ref 10), (1, .int 1), (2, .int (nI t))] (r.toList ++ [.long (σ.2.1 10 6), .long (((σ.2.1 10 4) * (Int32.toInt64 (σ.1 11 t))) + ((σ.2.1 10 5) * (Int32.toInt64 (σ.1 12 t))))]) σ')
        refine item_13 (zA_of hI rfl) rfl (by omega) (fun _ => ?_)
        refine zq (σ := σ) hV hI rfl 8 ?_
        show (0 ≤ (lg_cmp ((((σ.2.1 10 4) * (Int32.toInt64 (σ.1 11 t))) + ((σ.2.1 10 5) * (Int32.toInt64 (σ.1 12 t)))) + ((σ.2.1 10 6) * (Int32.toInt64 (σ.1 13 t)))) 0) → V 75 [(3, .long ((((σ.2.1 10 4) * (Int32.toInt64 (σ.1 11 t))) + ((σ.2.1 10 5) * (Int32.toInt64 (σ.1 12 t)))) + ((σ.2.1 10 6) * (Int32.toInt64 (σ.1 13 t))))), (0, .ref 10), (1, .int 1), (2, .int (nI t))] [] σ) ∧ (¬ 0 ≤ (lg_cmp ((((σ.2.1 10 4) * (Int32.toInt64 (σ.1 11 t))) + ((σ.2.1 10 5) * (Int32.toInt64 (σ.1 12 t)))) + ((σ.2.1 10 6) * (Int32.toInt64 (σ.1 13 t)))) 0) → V 68 [(3, .long ((((σ.2.1 10 4) * (Int32.toInt64 (σ.1 11 t))) + ((σ.2.1 10 5) * (Int32.toInt64 (σ.1 12 t)))) + ((σ.2.1 10 6) * (Int32.toInt64 (σ.1 13 t))))), (0, .ref 10), (1, .int 1), (2, .int (nI t))] [] σ)
        refine ⟨fun h_65 => ?_, fun h_65 => ?_⟩
        · skip
          refine zq (σ := σ) hV hI rfl 4 ?_
          show ((lg_cmp ((((σ.2.1 10 4) * (Int32.toInt64 (σ.1 11 t))) + ((σ.2.1 10 5) * (Int32.toInt64 (σ.1 12 t)))) + ((σ.2.1 10 6) * (Int32.toInt64 (σ.1 13 t)))) 0) ≤ 0 → V 85 [(3, .long ((((σ.2.1 10 4) * (Int32.toInt64 (σ.1 11 t))) + ((σ.2.1 10 5) * (Int32.toInt64 (σ.1 12 t)))) + ((σ.2.1 10 6) * (Int32.toInt64 (σ.1 13 t))))), (0, .ref 10), (1, .int 1), (2, .int (nI t))] [] σ) ∧ (¬ (lg_cmp ((((σ.2.1 10 4) * (Int32.toInt64 (σ.1 11 t))) + ((σ.2.1 10 5) * (Int32.toInt64 (σ.1 12 t)))) + ((σ.2.1 10 6) * (Int32.toInt64 (σ.1 13 t)))) 0) ≤ 0 → V 81 [(3, .long ((((σ.2.1 10 4) * (Int32.toInt64 (σ.1 11 t))) + ((σ.2.1 10 5) * (Int32.toInt64 (σ.1 12 t)))) + ((σ.2.1 10 6) * (Int32.toInt64 (σ.1 13 t))))), (0, .ref 10), (1, .int 1), (2, .int (nI t))] [] σ)
          refine ⟨fun h_78 => ?_, fun h_78 => ?_⟩
          · skip
            refine zq (σ := σ) hV hI rfl 2 ?_
            show V 4 [(2, .int ((nI t) + 1)), (3, .long ((((σ.2.1 10 4) * (Int32.toInt64 (σ.1 11 t))) + ((σ.2.1 10 5) * (Int32.toInt64 (σ.1 12 t)))) + ((σ.2.1 10 6) * (Int32.toInt64 (σ.1 13 t))))), (0, .ref 10), (1, .int 1)] [] σ
            refine zwk hV [2, 3, 0] rfl ?_
            rw [nI_1]
            refine ih (t + 1) _ (by omega) ?_
            have hp : 0 ≤ zPr (zA11 σ) (zA12 σ) (zA13 σ) (σ.2.1 10 4) (σ.2.1 10 5) (σ.2.1 10 6) t ∧ zPr (zA11 σ) (zA12 σ) (zA13 σ) (σ.2.1 10 4) (σ.2.1 10 5) (σ.2.1 10 6) t ≤ 0 := ⟨zcmp_ge.mp h_65, zcmp_le.mp h_78⟩
            have d1 : decide (zPr (zA11 σ) (zA12 σ) (zA13 σ) (σ.2.1 10 4) (σ.2.1 10 5) (σ.2.1 10 6) t < 0) = false := by refine decide_eq_false ?_; simp only [zlt64, zle64] at hp ⊢; omega
            have d2 : decide (0 < zPr (zA11 σ) (zA12 σ) (zA13 σ) (σ.2.1 10 4) (σ.2.1 10 5) (σ.2.1 10 6) t) = false := by refine decide_eq_false ?_; simp only [zlt64, zle64] at hp ⊢; omega
            rw [zBl, zAb, hb, ha, d1, d2]
            decide
          · skip
            refine zq (σ := σ) hV hI rfl 6 ?_
            show V 4 [(2, .int ((nI t) + 1)), (1, .int (1 ||| 2)), (3, .long ((((σ.2.1 10 4) * (Int32.toInt64 (σ.1 11 t))) + ((σ.2.1 10 5) * (Int32.toInt64 (σ.1 12 t)))) + ((σ.2.1 10 6) * (Int32.toInt64 (σ.1 13 t))))), (0, .ref 10)] [] σ
            refine zwk hV [3, 1, 0] rfl ?_
            rw [nI_1]
            refine ih (t + 1) _ (by omega) ?_
            have hp : 0 < zPr (zA11 σ) (zA12 σ) (zA13 σ) (σ.2.1 10 4) (σ.2.1 10 5) (σ.2.1 10 6) t := Int64.not_le.mp (fun q => h_78 (zcmp_le.mpr q))
            have d1 : decide (zPr (zA11 σ) (zA12 σ) (zA13 σ) (σ.2.1 10 4) (σ.2.1 10 5) (σ.2.1 10 6) t < 0) = false := by refine decide_eq_false ?_; simp only [zlt64, zle64] at hp ⊢; omega
            have d2 : decide (0 < zPr (zA11 σ) (zA12 σ) (zA13 σ) (σ.2.1 10 4) (σ.2.1 10 5) (σ.2.1 10 6) t) = true := by refine decide_eq_true ?_; simp only [zlt64, zle64] at hp ⊢; omega
            rw [zBl, zAb, hb, ha, d1, d2]
            decide
        · skip
          refine zq (σ := σ) hV hI rfl 7 ?_
          show V 4 [(2, .int ((nI t) + 1)), (1, .int (1 ||| 1)), (3, .long ((((σ.2.1 10 4) * (Int32.toInt64 (σ.1 11 t))) + ((σ.2.1 10 5) * (Int32.toInt64 (σ.1 12 t)))) + ((σ.2.1 10 6) * (Int32.toInt64 (σ.1 13 t))))), (0, .ref 10)] [] σ
          refine zwk hV [3, 1, 0] rfl ?_
          rw [nI_1]
          refine ih (t + 1) _ (by omega) ?_
          have hp : zPr (zA11 σ) (zA12 σ) (zA13 σ) (σ.2.1 10 4) (σ.2.1 10 5) (σ.2.1 10 6) t < 0 := Int64.not_le.mp (fun q => h_65 (zcmp_ge.mpr q))
          have d1 : decide (zPr (zA11 σ) (zA12 σ) (zA13 σ) (σ.2.1 10 4) (σ.2.1 10 5) (σ.2.1 10 6) t < 0) = true := by refine decide_eq_true ?_; simp only [zlt64, zle64] at hp ⊢; omega
          have d2 : decide (0 < zPr (zA11 σ) (zA12 σ) (zA13 σ) (σ.2.1 10 4) (σ.2.1 10 5) (σ.2.1 10 6) t) = false := by refine decide_eq_false ?_; simp only [zlt64, zle64] at hp ⊢; omega
          rw [zBl, zAb, hb, ha, d1, d2]
          decide
      · skip
        rw [hb, ha] at hx
        replace hx : x = 3 := hx
        subst hx
        refine zq (σ := σ) hV hI rfl 4 ?_
        show ((σ.1 10 3) ≤ (nI t) → V 91 [(0, .ref 10), (1, .int 3), (2, .int (nI t))] [] σ) ∧ (¬ (σ.1 10 3) ≤ (nI t) → V 12 [(0, .ref 10), (1, .int 3), (2, .int (nI t))] [] σ)
        refine ⟨fun hc => absurd hc (show ¬ σ.1 10 3 ≤ nI t by rw [hs]; exact nI_ge (by omega) (by omega)), fun _ => ?_⟩
        refine zq (σ := σ) hV hI rfl 3 ?_
        show ((3 : Int32) = 3 → V 91 [(0, .ref 10), (1, .int 3), (2, .int (nI t))] [] σ) ∧ (¬ (3 : Int32) = 3 → V 17 [(0, .ref 10), (1, .int 3), (2, .int (nI t))] [] σ)
        refine ⟨fun _ => ?_, fun hc => absurd (by decide) hc⟩
        refine zq (σ := σ) hV hI rfl 2 ?_
        show K (some (.int 3)) σ
        rw [zBl_mono hb (m := m) (by omega), zAb_mono ha (m := m) (by omega)] at hK
        exact hK
  exact H m 0 0 (by omega) rfl
def zBe (A B C : Nat → Int64) (m u v : Nat) : Bool := zBl A B C (zX1 A B C u v) (zX2 A B C u v) (zX3 A B C u v) m
def zAe (A B C : Nat → Int64) (m u v : Nat) : Bool := zAb A B C (zX1 A B C u v) (zX2 A B C u v) (zX3 A B C u v) m
/-- a pair that has a cross product has triples on both its sides -/
def zGd (A B C : Nat → Int64) (m u v : Nat) : Prop := zNz A B C u v → zBe A B C m u v = true ∧ zAe A B C m u v = true
def zBf (u' v' u v : Nat) : Prop := u' < u ∨ (u' = u ∧ v' < v)
def zHold (A B C : Nat → Int64) (m : Nat) : Prop := (∃ u v, u < v ∧ v < m ∧ zNz A B C u v) ∧ ∀ u v, u < v → v < m → zGd A B C m u v
/-- the first pair whose cross product has not both sides -/
def zFst (A B C : Nat → Int64) (m u v : Nat) : Prop := (u < v ∧ v < m ∧ zNz A B C u v ∧ ¬ (zBe A B C m u v = true ∧ zAe A B C m u v = true)) ∧ ∀ u' v', u' < v' → v' < m → zBf u' v' u v → zGd A B C m u' v'
def zfJ (a j : Nat) : Bool := Nat.beq a 10 && Nat.ble 4 j
def zIv (A B C : Nat → Int64) (m u v : Nat) (x : Int32) : Prop := (∀ u' v', u' < v' → v' < m → zBf u' v' u v → zGd A B C m u' v') ∧
  ((x = 2 ∧ ∃ u' v', u' < v' ∧ v' < m ∧ zNz A B C u' v') ∨ (x = 0 ∧ ∀ u' v', u' < v' → v' < m → zBf u' v' u v → ¬ zNz A B C u' v'))
theorem zIv_next {A B C : Nat → Int64} {m u v : Nat} {x : Int32} (h : zIv A B C m u v x) (hn : ¬ zNz A B C u v) : zIv A B C m u (v + 1) x := by
  refine ⟨fun u' v' h1 h2 h3 => ?_, h.2.imp id (fun q => ⟨q.1, fun u' v' h1 h2 h3 => ?_⟩)⟩
  · by_cases e : u' = u ∧ v' = v
    · rw [e.1, e.2]; exact fun q => absurd q hn
    · exact h.1 u' v' h1 h2 (by unfold zBf at h3 ⊢; omega)
  · by_cases e : u' = u ∧ v' = v
    · rw [e.1, e.2]; exact hn
    · exact q.2 u' v' h1 h2 (by unfold zBf at h3 ⊢; omega)
theorem zIv_both {A B C : Nat → Int64} {m u v : Nat} {x : Int32} (h : zIv A B C m u v x) (hu : u < v) (hv : v < m) (hn : zNz A B C u v) (hb : zBe A B C m u v = true) (ha : zAe A B C m u v = true) : zIv A B C m u (v + 1) 2 := by
  refine ⟨fun u' v' h1 h2 h3 => ?_, Or.inl ⟨rfl, u, v, hu, hv, hn⟩⟩
  by_cases e : u' = u ∧ v' = v
  · rw [e.1, e.2]; exact fun _ => ⟨hb, ha⟩
  · exact h.1 u' v' h1 h2 (by unfold zBf at h3 ⊢; omega)
theorem zIv_row {A B C : Nat → Int64} {m u v : Nat} {x : Int32} (h : zIv A B C m u v x) (hv : m ≤ v) : zIv A B C m (u + 1) (u + 1 + 1) x := by
  refine ⟨fun u' v' h1 h2 h3 => h.1 u' v' h1 h2 (by unfold zBf at h3 ⊢; omega), h.2.imp id (fun q => ⟨q.1, fun u' v' h1 h2 h3 => q.2 u' v' h1 h2 (by unfold zBf at h3 ⊢; omega)⟩)⟩
theorem zIv_end {A B C : Nat → Int64} {m u v : Nat} {x : Int32} (h : zIv A B C m u v x) (hu : m ≤ u) : (x = 2 ∧ zHold A B C m) ∨ (x = 0 ∧ ∀ u' v', u' < v' → v' < m → ¬ zNz A B C u' v') := by
  have h1 : ∀ u' v', u' < v' → v' < m → zGd A B C m u' v' := fun u' v' q1 q2 => h.1 u' v' q1 q2 (Or.inl (by omega))
  rcases h.2 with ⟨q, q2⟩ | ⟨q, q2⟩
  · exact Or.inl ⟨q, q2, h1⟩
  · exact Or.inr ⟨q, fun u' v' q3 q4 => q2 u' v' q3 q4 (Or.inl (by omega))⟩
theorem zBf_0 (A B C : Nat → Int64) (m : Nat) : zIv A B C m 0 (0 + 1) 0 := ⟨fun u' v' h1 _ h3 => by unfold zBf at h3; omega, Or.inr ⟨rfl, fun u' v' h1 _ h3 => by unfold zBf at h3; omega⟩⟩
def zsn (b : Bool) (x : Int64) : Int64 := match b with
  | true => -x
  | false => x
set_option maxRecDepth 8000 in
set_option maxHeartbeats 4000000 in
theorem spread_ok {d : Nat} {σ : zSt} {K : Option Value → zSt → Prop} {m : Nat} (hI : zQI (kR 10 14) σ.2.2) (hs : σ.1 10 3 = nI m) (hm : m ≤ 16) (hW : ∀ τ, zOnly zfJ σ τ → zHold (zA11 σ) (zA12 σ) (zA13 σ) m → K (some (.int 2)) τ) (hF : ∀ τ, zOnly zfJ σ τ → (∀ u v, u < v → v < m → ¬ zNz (zA11 σ) (zA12 σ) (zA13 σ) u v) → K (some (.int 0)) τ)
    (hH : ∀ τ u v, zOnly zfJ σ τ → zFst (zA11 σ) (zA12 σ) (zA13 σ) m u v → τ.2.1 10 4 = zsn (zBe (zA11 σ) (zA12 σ) (zA13 σ) m u v) (zX1 (zA11 σ) (zA12 σ) (zA13 σ) u v) → τ.2.1 10 5 = zsn (zBe (zA11 σ) (zA12 σ) (zA13 σ) m u v) (zX2 (zA11 σ) (zA12 σ) (zA13 σ) u v) → τ.2.1 10 6 = zsn (zBe (zA11 σ) (zA12 σ) (zA13 σ) m u v) (zX3 (zA11 σ) (zA12 σ) (zA13 σ) u v) → K (some (.int (zb (zBe (zA11 σ) (zA12 σ) (zA13 σ) m u v || zAe (zA11 σ) (zA12 σ) (zA13 σ) m u v)))) τ) : zSp zx (d + 3) mX7_spread [.ref 10] σ K := by
  refine ⟨⟨by decide, Nat.le_of_ble_eq_true rfl⟩, fun V hV => ?_⟩
  refine zq (σ := σ) hV hI rfl 4 ?_
  show V 4 [(2, .int 0), (1, .int 0), (0, .ref 10)] [] σ
  refine zwk hV [2, 1, 0] rfl ?_
  have H : ∀ (r u : Nat) (x : Int32) (τ : zSt), u + r = m → zOnly zfJ σ τ → zIv (zA11 σ) (zA12 σ) (zA13 σ) m u (u + 1) x → V 4 [(0, .ref 10), (1, .int x), (2, .int (nI u))] [] τ := by
    intro r
    induction r with
    | zero =>
      intro u x τ hum ht hx
      have hIt := zQI_eq hI ht.2.2
      have hnt : τ.2.2.2 = σ.2.2.2 := congrArg Prod.snd ht.2.2
      have hst : τ.1 10 3 = nI m := (ht.1 10 3 rfl).trans hs
      have e1 : zA11 τ = zA11 σ := funext fun j => congrArg Int32.toInt64 (ht.1 11 j rfl)
      have e2 : zA12 τ = zA12 σ := funext fun j => congrArg Int32.toInt64 (ht.1 12 j rfl)
      have e3 : zA13 τ = zA13 σ := funext fun j => congrArg Int32.toInt64 (ht.1 13 j rfl)
      refine zq (σ := τ) hV hIt hnt 4 ?_
      show ((τ.1 10 3) ≤ (nI u) → V 76 [(0, .ref 10), (1, .int x), (2, .int (nI u))] [] τ) ∧ (¬ (τ.1 10 3) ≤ (nI u) → V 12 [(0, .ref 10), (1, .int x), (2, .int (nI u))] [] τ)
      refine ⟨fun _ => ?_, fun hc => absurd (show τ.1 10 3 ≤ nI u by rw [hst, show u = m by omega]; exact Int32.le_refl _) hc⟩
      refine zq (σ := τ) hV hIt hnt 2 ?_
      show K (some (.int x)) τ
      rcases zIv_end hx (by omega) with ⟨rfl, q⟩ | ⟨rfl, q⟩
      · exact hW τ ht q
      · exact hF τ ht q
    | succ r ih =>
      intro u x τ hum ht hx
      have hIt := zQI_eq hI ht.2.2
      have hnt : τ.2.2.2 = σ.2.2.2 := congrArg Prod.snd ht.2.2
      have hst : τ.1 10 3 = nI m := (ht.1 10 3 rfl).trans hs
      have e1 : zA11 τ = zA11 σ := funext fun j => congrArg Int32.toInt64 (ht.1 11 j rfl)
      have e2 : zA12 τ = zA12 σ := funext fun j => congrArg Int32.toInt64 (ht.1 12 j rfl)
      have e3 : zA13 τ = zA13 σ := funext fun j => congrArg Int32.toInt64 (ht.1 13 j rfl)
      refine zq (σ := τ) hV hIt hnt 4 ?_
      show ((τ.1 10 3) ≤ (nI u) → V 76 [(0, .ref 10), (1, .int x), (2, .int (nI u))] [] τ) ∧ (¬ (τ.1 10 3) ≤ (nI u) → V 12 [(0, .ref 10), (1, .int x), (2, .int (nI u))] [] τ)
      refine ⟨fun hc => absurd hc (show ¬ τ.1 10 3 ≤ nI u by rw [hst]; exact nI_ge (by omega) (by omega)), fun _ => ?_⟩
      refine zq (σ := τ) hV hIt hnt 4 ?_
      show V 16 [(3, .int ((nI u) + 1)), (0, .ref 10), (1, .int x), (2, .int (nI u))] [] τ
      refine zwk hV [1, 2, 3, 0] rfl ?_
      rw [nI_1]
      clear hIt hnt hst e1 e2 e3
      revert x τ
      have H2 : ∀ (k v : Nat) (x : Int32) (τ : zSt), v + k = m → u < v → zOnly zfJ σ τ → zIv (zA11 σ) (zA12 σ) (zA13 σ) m u v x → V 16 [(0, .ref 10), (1, .int x), (2, .int (nI u)), (3, .int (nI v))] [] τ := by
        intro k
        induction k with
        | zero =>
          intro v x τ hvm huv ht hx
          have hIt := zQI_eq hI ht.2.2
          have hnt : τ.2.2.2 = σ.2.2.2 := congrArg Prod.snd ht.2.2
          have hst : τ.1 10 3 = nI m := (ht.1 10 3 rfl).trans hs
          have e1 : zA11 τ = zA11 σ := funext fun j => congrArg Int32.toInt64 (ht.1 11 j rfl)
          have e2 : zA12 τ = zA12 σ := funext fun j => congrArg Int32.toInt64 (ht.1 12 j rfl)
          have e3 : zA13 τ = zA13 σ := funext fun j => congrArg Int32.toInt64 (ht.1 13 j rfl)
          refine zq (σ := τ) hV hIt hnt 4 ?_
          show ((τ.1 10 3) ≤ (nI v) → V 70 [(0, .ref 10), (1, .int x), (2, .int (nI u)), (3, .int (nI v))] [] τ) ∧ (¬ (τ.1 10 3) ≤ (nI v) → V 24 [(0, .ref 10), (1, .int x), (2, .int (nI u)), (3, .int (nI v))] [] τ)
          refine ⟨fun _ => ?_, fun hc => absurd (show τ.1 10 3 ≤ nI v by rw [hst, show v = m by omega]; exact Int32.le_refl _) hc⟩
          refine zq (σ := τ) hV hIt hnt 2 ?_
          show V 4 [(2, .int ((nI u) + 1)), (0, .ref 10), (1, .int x), (3, .int (nI v))] [] τ
          refine zwk hV [1, 2, 0] rfl ?_
          rw [nI_1]
          exact ih (u + 1) _ _ (by omega) ht (zIv_row hx (by omega))
        | succ k ih2 =>
          intro v x τ hvm huv ht hx
          have hIt := zQI_eq hI ht.2.2
          have hnt : τ.2.2.2 = σ.2.2.2 := congrArg Prod.snd ht.2.2
          have hst : τ.1 10 3 = nI m := (ht.1 10 3 rfl).trans hs
          have e1 : zA11 τ = zA11 σ := funext fun j => congrArg Int32.toInt64 (ht.1 11 j rfl)
          have e2 : zA12 τ = zA12 σ := funext fun j => congrArg Int32.toInt64 (ht.1 12 j rfl)
          have e3 : zA13 τ = zA13 σ := funext fun j => congrArg Int32.toInt64 (ht.1 13 j rfl)
          refine zq (σ := τ) hV hIt hnt 4 ?_
          show ((τ.1 10 3) ≤ (nI v) → V 70 [(0, .ref 10), (1, .int x), (2, .int (nI u)), (3, .int (nI v))] [] τ) ∧ (¬ (τ.1 10 3) ≤ (nI v) → V 24 [(0, .ref 10), (1, .int x), (2, .int (nI u)), (3, .int (nI v))] [] τ)
          refine ⟨fun hc => absurd hc (show ¬ τ.1 10 3 ≤ nI v by rw [hst]; exact nI_ge (by omega) (by omega)), fun _ => ?_⟩
          refine zq (σ := τ) hV hIt hnt 4 ?_
          show zSp _ _ 51 [.ref 10, .int (nI u), .int (nI v)] τ (fun r σ' => σ'.2.2.2 = τ.2.2.2 + zAl 51 → V 30 [(0, .ref 10), (1, .int x), (2, .int (nI u)), (3, .int (nI v))] (r.toList ++ []) σ')
          refine cross_ok (zR_of hIt rfl rfl) (u := u) rfl (by omega) (v := v) rfl (by omega) (fun hz _ => ?_) (fun hz _ => ?_)
          · skip
            rw [e1, e2, e3] at hz
            have htc : zOnly zfJ σ (zCx τ u v) := ((ht.uJ rfl).uJ rfl).uJ rfl
            refine zq (σ := (zCx τ u v)) hV hIt hnt 1 ?_
            show ((1 : Int32) = 0 → V 64 [(0, .ref 10), (1, .int x), (2, .int (nI u)), (3, .int (nI v))] [] (zCx τ u v)) ∧ (¬ (1 : Int32) = 0 → V 33 [(0, .ref 10), (1, .int x), (2, .int (nI u)), (3, .int (nI v))] [] (zCx τ u v))
            refine ⟨fun hc => absurd hc (by decide), fun _ => ?_⟩
            refine zq (σ := (zCx τ u v)) hV hIt hnt 2 ?_
            show zSp _ _ 52 [.ref 10] (zCx τ u v) (fun r σ' => σ'.2.2.2 = (zCx τ u v).2.2.2 + zAl 52 → V 37 [(0, .ref 10), (1, .int x), (2, .int (nI u)), (3, .int (nI v))] (r.toList ++ []) σ')
            refine signs_ok (zR_of hIt rfl rfl) (m := m) hst (by omega) (fun _ => ?_)
            have eb : ∀ f, zBl (zA11 (zCx τ u v)) (zA12 (zCx τ u v)) (zA13 (zCx τ u v)) ((zCx τ u v).2.1 10 4) ((zCx τ u v).2.1 10 5) ((zCx τ u v).2.1 10 6) f = zBl (zA11 σ) (zA12 σ) (zA13 σ) (zX1 (zA11 σ) (zA12 σ) (zA13 σ) u v) (zX2 (zA11 σ) (zA12 σ) (zA13 σ) u v) (zX3 (zA11 σ) (zA12 σ) (zA13 σ) u v) f := fun f => by rw [← e1, ← e2, ← e3]; rfl
            have ea : ∀ f, zAb (zA11 (zCx τ u v)) (zA12 (zCx τ u v)) (zA13 (zCx τ u v)) ((zCx τ u v).2.1 10 4) ((zCx τ u v).2.1 10 5) ((zCx τ u v).2.1 10 6) f = zAb (zA11 σ) (zA12 σ) (zA13 σ) (zX1 (zA11 σ) (zA12 σ) (zA13 σ) u v) (zX2 (zA11 σ) (zA12 σ) (zA13 σ) u v) (zX3 (zA11 σ) (zA12 σ) (zA13 σ) u v) f := fun f => by rw [← e1, ← e2, ← e3]; rfl
            rw [eb, ea]
            have j4 : (zCx τ u v).2.1 10 4 = zX1 (zA11 σ) (zA12 σ) (zA13 σ) u v := by rw [← e1, ← e2, ← e3]; rfl
            have j5 : (zCx τ u v).2.1 10 5 = zX2 (zA11 σ) (zA12 σ) (zA13 σ) u v := by rw [← e1, ← e2, ← e3]; rfl
            have j6 : (zCx τ u v).2.1 10 6 = zX3 (zA11 σ) (zA12 σ) (zA13 σ) u v := by rw [← e1, ← e2, ← e3]; rfl
            cases hb : zBe (zA11 σ) (zA12 σ) (zA13 σ) m u v <;> cases ha : zAe (zA11 σ) (zA12 σ) (zA13 σ) m u v
            · skip
              unfold zBe at hb
              unfold zAe at ha
              rw [hb, ha]
              refine zq (σ := (zCx τ u v)) hV hIt hnt 4 ?_
              show ((0 : Int32) = 3 → V 62 [(4, .int 0), (0, .ref 10), (1, .int x), (2, .int (nI u)), (3, .int (nI v))] [] (zCx τ u v)) ∧ (¬ (0 : Int32) = 3 → V 45 [(4, .int 0), (0, .ref 10), (1, .int x), (2, .int (nI u)), (3, .int (nI v))] [] (zCx τ u v))
              refine ⟨fun hc => absurd hc (by decide), fun _ => ?_⟩
              refine zq (σ := (zCx τ u v)) hV hIt hnt 3 ?_
              show zSp _ _ 49 [.ref 10, .int 0] (zCx τ u v) (fun r σ' => σ'.2.2.2 = (zCx τ u v).2.2.2 + zAl 49 → V 51 [(4, .int 0), (0, .ref 10), (1, .int x), (2, .int (nI u)), (3, .int (nI v))] (r.toList ++ []) σ')
              refine turn_0 (zR_of hIt rfl rfl) (fun _ => ?_)
              refine zq (σ := (zCx τ u v)) hV hIt hnt 2 ?_
              show (¬ (0 : Int32) = 0 → V 60 [(4, .int 0), (0, .ref 10), (1, .int x), (2, .int (nI u)), (3, .int (nI v))] [] (zCx τ u v)) ∧ (¬ (¬ (0 : Int32) = 0) → V 56 [(4, .int 0), (0, .ref 10), (1, .int x), (2, .int (nI u)), (3, .int (nI v))] [] (zCx τ u v))
              refine ⟨fun hc => absurd hc (by decide), fun _ => ?_⟩
              refine zq (σ := (zCx τ u v)) hV hIt hnt 3 ?_
              show K (some (.int 0)) (zCx τ u v)
              have hfst : zFst (zA11 σ) (zA12 σ) (zA13 σ) m u v := ⟨⟨huv, by omega, hz, fun q => by unfold zBe zAe at q; rw [hb, ha] at q; simp at q⟩, hx.1⟩
              have hbe : zBe (zA11 σ) (zA12 σ) (zA13 σ) m u v = false := hb
              have hae : zAe (zA11 σ) (zA12 σ) (zA13 σ) m u v = false := ha
              have hk := hH (zCx τ u v) u v htc hfst (by rw [hbe]; exact j4) (by rw [hbe]; exact j5) (by rw [hbe]; exact j6)
              rw [hbe, hae] at hk
              exact hk
            · skip
              unfold zBe at hb
              unfold zAe at ha
              rw [hb, ha]
              refine zq (σ := (zCx τ u v)) hV hIt hnt 4 ?_
              show ((2 : Int32) = 3 → V 62 [(4, .int 2), (0, .ref 10), (1, .int x), (2, .int (nI u)), (3, .int (nI v))] [] (zCx τ u v)) ∧ (¬ (2 : Int32) = 3 → V 45 [(4, .int 2), (0, .ref 10), (1, .int x), (2, .int (nI u)), (3, .int (nI v))] [] (zCx τ u v))
              refine ⟨fun hc => absurd hc (by decide), fun _ => ?_⟩
              refine zq (σ := (zCx τ u v)) hV hIt hnt 3 ?_
              show zSp _ _ 49 [.ref 10, .int 2] (zCx τ u v) (fun r σ' => σ'.2.2.2 = (zCx τ u v).2.2.2 + zAl 49 → V 51 [(4, .int 2), (0, .ref 10), (1, .int x), (2, .int (nI u)), (3, .int (nI v))] (r.toList ++ []) σ')
              refine turn_2 (zR_of hIt rfl rfl) (fun _ => ?_)
              refine zq (σ := (zCx τ u v)) hV hIt hnt 2 ?_
              show (¬ (2 : Int32) = 0 → V 60 [(4, .int 2), (0, .ref 10), (1, .int x), (2, .int (nI u)), (3, .int (nI v))] [] (zCx τ u v)) ∧ (¬ (¬ (2 : Int32) = 0) → V 56 [(4, .int 2), (0, .ref 10), (1, .int x), (2, .int (nI u)), (3, .int (nI v))] [] (zCx τ u v))
              refine ⟨fun _ => ?_, fun hc => absurd (by decide) hc⟩
              refine zq (σ := (zCx τ u v)) hV hIt hnt 2 ?_
              show K (some (.int 1)) (zCx τ u v)
              have hfst : zFst (zA11 σ) (zA12 σ) (zA13 σ) m u v := ⟨⟨huv, by omega, hz, fun q => by unfold zBe zAe at q; rw [hb, ha] at q; simp at q⟩, hx.1⟩
              have hbe : zBe (zA11 σ) (zA12 σ) (zA13 σ) m u v = false := hb
              have hae : zAe (zA11 σ) (zA12 σ) (zA13 σ) m u v = true := ha
              have hk := hH (zCx τ u v) u v htc hfst (by rw [hbe]; exact j4) (by rw [hbe]; exact j5) (by rw [hbe]; exact j6)
              rw [hbe, hae] at hk
              exact hk
            · skip
              unfold zBe at hb
              unfold zAe at ha
              rw [hb, ha]
              refine zq (σ := (zCx τ u v)) hV hIt hnt 4 ?_
              show ((1 : Int32) = 3 → V 62 [(4, .int 1), (0, .ref 10), (1, .int x), (2, .int (nI u)), (3, .int (nI v))] [] (zCx τ u v)) ∧ (¬ (1 : Int32) = 3 → V 45 [(4, .int 1), (0, .ref 10), (1, .int x), (2, .int (nI u)), (3, .int (nI v))] [] (zCx τ u v))
              refine ⟨fun hc => absurd hc (by decide), fun _ => ?_⟩
              refine zq (σ := (zCx τ u v)) hV hIt hnt 3 ?_
              show zSp _ _ 49 [.ref 10, .int 1] (zCx τ u v) (fun r σ' => σ'.2.2.2 = (zCx τ u v).2.2.2 + zAl 49 → V 51 [(4, .int 1), (0, .ref 10), (1, .int x), (2, .int (nI u)), (3, .int (nI v))] (r.toList ++ []) σ')
              refine turn_1 (zR_of hIt rfl rfl) (fun _ => ?_)
              refine zq (σ := (zuJ (zuJ (zuJ (zCx τ u v) 10 4 (-(zCx τ u v).2.1 10 4)) 10 5 (-(zCx τ u v).2.1 10 5)) 10 6 (-(zCx τ u v).2.1 10 6))) hV hIt hnt 2 ?_
              show (¬ (1 : Int32) = 0 → V 60 [(4, .int 1), (0, .ref 10), (1, .int x), (2, .int (nI u)), (3, .int (nI v))] [] (zuJ (zuJ (zuJ (zCx τ u v) 10 4 (-(zCx τ u v).2.1 10 4)) 10 5 (-(zCx τ u v).2.1 10 5)) 10 6 (-(zCx τ u v).2.1 10 6))) ∧ (¬ (¬ (1 : Int32) = 0) → V 56 [(4, .int 1), (0, .ref 10), (1, .int x), (2, .int (nI u)), (3, .int (nI v))] [] (zuJ (zuJ (zuJ (zCx τ u v) 10 4 (-(zCx τ u v).2.1 10 4)) 10 5 (-(zCx τ u v).2.1 10 5)) 10 6 (-(zCx τ u v).2.1 10 6)))
              refine ⟨fun _ => ?_, fun hc => absurd (by decide) hc⟩
              refine zq (σ := (zuJ (zuJ (zuJ (zCx τ u v) 10 4 (-(zCx τ u v).2.1 10 4)) 10 5 (-(zCx τ u v).2.1 10 5)) 10 6 (-(zCx τ u v).2.1 10 6))) hV hIt hnt 2 ?_
              show K (some (.int 1)) (zuJ (zuJ (zuJ (zCx τ u v) 10 4 (-(zCx τ u v).2.1 10 4)) 10 5 (-(zCx τ u v).2.1 10 5)) 10 6 (-(zCx τ u v).2.1 10 6))
              have hfst : zFst (zA11 σ) (zA12 σ) (zA13 σ) m u v := ⟨⟨huv, by omega, hz, fun q => by unfold zBe zAe at q; rw [hb, ha] at q; simp at q⟩, hx.1⟩
              have hbe : zBe (zA11 σ) (zA12 σ) (zA13 σ) m u v = true := hb
              have hae : zAe (zA11 σ) (zA12 σ) (zA13 σ) m u v = false := ha
              have hk := hH (zuJ (zuJ (zuJ (zCx τ u v) 10 4 (-(zCx τ u v).2.1 10 4)) 10 5 (-(zCx τ u v).2.1 10 5)) 10 6 (-(zCx τ u v).2.1 10 6)) u v (((htc.uJ rfl).uJ rfl).uJ rfl) hfst (by rw [hbe]; exact congrArg (fun z => -z) j4) (by rw [hbe]; exact congrArg (fun z => -z) j5) (by rw [hbe]; exact congrArg (fun z => -z) j6)
              rw [hbe, hae] at hk
              exact hk
            · skip
              unfold zBe at hb
              unfold zAe at ha
              rw [hb, ha]
              refine zq (σ := (zCx τ u v)) hV hIt hnt 4 ?_
              show ((3 : Int32) = 3 → V 62 [(4, .int 3), (0, .ref 10), (1, .int x), (2, .int (nI u)), (3, .int (nI v))] [] (zCx τ u v)) ∧ (¬ (3 : Int32) = 3 → V 45 [(4, .int 3), (0, .ref 10), (1, .int x), (2, .int (nI u)), (3, .int (nI v))] [] (zCx τ u v))
              refine ⟨fun _ => ?_, fun hc => absurd (by decide) hc⟩
              refine zq (σ := (zCx τ u v)) hV hIt hnt 4 ?_
              show V 16 [(3, .int ((nI v) + 1)), (1, .int 2), (4, .int 3), (0, .ref 10), (2, .int (nI u))] [] (zCx τ u v)
              refine zwk hV [3, 1, 4, 0] rfl ?_
              rw [nI_1]
              exact ih2 (v + 1) _ _ (by omega) (by omega) htc (zIv_both hx huv (by omega) hz hb ha)
          · skip
            rw [e1, e2, e3] at hz
            have htc : zOnly zfJ σ (zCx τ u v) := ((ht.uJ rfl).uJ rfl).uJ rfl
            refine zq (σ := (zCx τ u v)) hV hIt hnt 1 ?_
            show ((0 : Int32) = 0 → V 64 [(0, .ref 10), (1, .int x), (2, .int (nI u)), (3, .int (nI v))] [] (zCx τ u v)) ∧ (¬ (0 : Int32) = 0 → V 33 [(0, .ref 10), (1, .int x), (2, .int (nI u)), (3, .int (nI v))] [] (zCx τ u v))
            refine ⟨fun _ => ?_, fun hc => absurd (by decide) hc⟩
            refine zq (σ := (zCx τ u v)) hV hIt hnt 2 ?_
            show V 16 [(3, .int ((nI v) + 1)), (0, .ref 10), (1, .int x), (2, .int (nI u))] [] (zCx τ u v)
            refine zwk hV [1, 2, 3, 0] rfl ?_
            rw [nI_1]
            exact ih2 (v + 1) _ _ (by omega) (by omega) htc (zIv_next hx hz)
      intro x τ ht hx _
      exact H2 (m - (u + 1)) (u + 1) x τ (by omega) (by omega) ht hx
  exact H m 0 0 σ (by omega) zOnly.rf (zBf_0 _ _ _ m)
