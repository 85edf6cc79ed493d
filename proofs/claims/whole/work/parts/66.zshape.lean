set_option maxRecDepth 8000 in
set_option maxHeartbeats 4000000 in
theorem shape_C2 {d : Nat} {σ : zSt} {K : Option Value → zSt → Prop} {s c : Int32} (hI : zQI (kR 0 30) σ.2.2) (hL : ∀ k, k < 4 → ∃ l, σ.1 28 k = nI l ∧ l ≤ 60) (hBad : ¬ (zBt 0 3 s ∧ zBt 3 10 c) → K (some (.int (-2))) σ) (hNull : ∀ k n, s = nI k → k < 4 → c = nI n → (3 ≤ n ∧ n ≤ 10) → σ.1 27 k = -1 → K (some (.int (-10 - 1))) (zuI σ 26 3 1)) (hIndex : ∀ k n l, s = nI k → k < 4 → c = nI n → (3 ≤ n ∧ n ≤ 10) → ¬ σ.1 27 k = -1 → σ.1 28 k = nI l → l ≤ 60 → l < 2 * n → K (some (.int (-10 - 2))) (zuI σ 26 3 2))
    (hNot : ∀ k n l, s = nI k → k < 4 → c = nI n → (3 ≤ n ∧ n ≤ 10) → ¬ σ.1 27 k = -1 → σ.1 28 k = nI l → l ≤ 60 → 2 * n ≤ l → ¬ zShp (fun j => σ.1 29 (k * 60 + j)) n → K (some (.int (-3))) σ)
    (hOk : ∀ τ k n l, s = nI k → k < 4 → c = nI n → (3 ≤ n ∧ n ≤ 10) → ¬ σ.1 27 k = -1 → σ.1 28 k = nI l → l ≤ 60 → 2 * n ≤ l → zShp (fun j => σ.1 29 (k * 60 + j)) n → zOnly (zfSh n) σ τ → τ.1 1 2 = nI n → (∀ j, j < n → τ.1 2 j = σ.1 29 (k * 60 + 2 * j) ∧ τ.1 3 j = σ.1 29 (k * 60 + (2 * j + 1))) → τ.1 1 3 = zAr n (τ.1 2) (τ.1 3) n → τ.1 1 4 = zMx n (τ.1 2) (τ.1 3) n → τ.1 1 5 = zMy n (τ.1 2) (τ.1 3) n → τ.1 4 2 = 0 → τ.1 14 3 = 0 → K (some (.int (τ.1 1 3))) τ) : zSp (d + 4) mX8_shape [.ref 0, .int s, .int c] σ K := by
  refine ⟨⟨by decide, Nat.le_of_ble_eq_true rfl⟩, fun V hV => ?_⟩
  refine zq (σ := σ) hV hI rfl 2 ?_
  show zSp _ 122 [.int s] σ (fun r_z σ' => σ'.2.2.2 = σ.2.2.2 + zAl 122 → V 4 [(0, .ref 0), (1, .int s), (2, .int c)] (r_z.toList ++ []) σ')
  refine isSheet_ok (fun hb1 _ => ?_) (fun hb1 _ => ?_)
  · skip
    refine zq (σ := σ) hV hI rfl 1 ?_
    show ((1 : Int32) = 0 → V 18 [(0, .ref 0), (1, .int s), (2, .int c)] [] σ) ∧ (¬ (1 : Int32) = 0 → V 7 [(0, .ref 0), (1, .int s), (2, .int c)] [] σ)
    refine ⟨fun hc_z => absurd hc_z (by decide), fun _ => ?_⟩
    refine zq (σ := σ) hV hI rfl 3 ?_
    show (c < 3 → V 18 [(0, .ref 0), (1, .int s), (2, .int c)] [] σ) ∧ (¬ c < 3 → V 12 [(0, .ref 0), (1, .int s), (2, .int c)] [] σ)
    refine ⟨fun h_9 => ?_, fun h_9 => ?_⟩
    · skip
      refine zq (σ := σ) hV hI rfl 2 ?_
      show K (some (.int (-2))) σ
      refine hBad (fun q_z => ?_)
      have q3_z := q_z.2
      unfold zBt at q3_z
      simp only [zlt, zle] at h_9
      simp at h_9
      omega
    · skip
      refine zq (σ := σ) hV hI rfl 3 ?_
      show (c ≤ 10 → V 21 [(0, .ref 0), (1, .int s), (2, .int c)] [] σ) ∧ (¬ c ≤ 10 → V 18 [(0, .ref 0), (1, .int s), (2, .int c)] [] σ)
      refine ⟨fun h_15 => ?_, fun h_15 => ?_⟩
      · skip
        obtain ⟨k_z, hk, hk2, _⟩ := zNat (x := s) (by unfold zBt at hb1; omega)
        have hk4 : k_z < 4 := by unfold zBt at hb1; omega
        have hc_z : zBt 3 10 c := by
          simp only [zlt, zle] at h_9 h_15
          unfold zBt
          simp at h_9 h_15 ⊢
          omega
        obtain ⟨n_z, hcn, hcn2, _⟩ := zNat (x := c) (by unfold zBt at hc_z; omega)
        have hn10 : 3 ≤ n_z ∧ n_z ≤ 10 := by unfold zBt at hc_z; omega
        have hs3 := hb1
        subst hk
        subst hcn
        refine zq (σ := σ) hV hI rfl 4 ?_
        show zSp _ 50 [.ref 26, .int (nI k_z)] σ (fun r_z σ' => σ'.2.2.2 = σ.2.2.2 + zAl 50 → V 29 [(0, .ref 0), (1, .int (nI k_z)), (2, .int (nI n_z))] (r_z.toList ++ []) σ')
        refine isLost_ok (zR_of hI rfl rfl) rfl (by omega) (fun hb2 _ => ?_) (fun hb2 _ => ?_)
        · skip
          refine zq (σ := σ) hV hI rfl 1 ?_
          show ((1 : Int32) = 0 → V 41 [(0, .ref 0), (1, .int (nI k_z)), (2, .int (nI n_z))] [] σ) ∧ (¬ (1 : Int32) = 0 → V 32 [(0, .ref 0), (1, .int (nI k_z)), (2, .int (nI n_z))] [] σ)
          refine ⟨fun hc_z => absurd hc_z (by decide), fun _ => ?_⟩
          refine zq (σ := σ) hV hI rfl 4 ?_
          show zSp _ 47 [.ref 26, .int 1] σ (fun r_z σ' => σ'.2.2.2 = σ.2.2.2 + zAl 47 → V 40 [(0, .ref 0), (1, .int (nI k_z)), (2, .int (nI n_z))] (r_z.toList ++ []) σ')
          refine find_ok (zR_of hI rfl rfl) (fun _ => ?_)
          refine zq (σ := (zuI σ 26 3 1)) hV hI rfl 1 ?_
          show K (some (.int ((-10) - 1))) (zuI σ 26 3 1)
          exact hNull k_z n_z rfl hk4 rfl hn10 hb2
        · skip
          refine zq (σ := σ) hV hI rfl 1 ?_
          show ((0 : Int32) = 0 → V 41 [(0, .ref 0), (1, .int (nI k_z)), (2, .int (nI n_z))] [] σ) ∧ (¬ (0 : Int32) = 0 → V 32 [(0, .ref 0), (1, .int (nI k_z)), (2, .int (nI n_z))] [] σ)
          refine ⟨fun _ => ?_, fun hc_z => absurd (by decide) hc_z⟩
          refine zq (σ := σ) hV hI rfl 4 ?_
          show zSp _ 49 [.ref 26, .int (nI k_z)] σ (fun r_z σ' => σ'.2.2.2 = σ.2.2.2 + zAl 49 → V 49 [(0, .ref 0), (1, .int (nI k_z)), (2, .int (nI n_z))] (r_z.toList ++ []) σ')
          obtain ⟨l, hl, hl60⟩ := hL k_z hk4
          refine slength_ok (zR_of hI rfl rfl) (k := k_z) rfl hk4 (fun _ => ?_)
          rw [hl]
          refine zq (σ := σ) hV hI rfl 4 ?_
          show ((2 * (nI n_z)) ≤ (nI l) → V 64 [(0, .ref 0), (1, .int (nI k_z)), (2, .int (nI n_z))] [] σ) ∧ (¬ (2 * (nI n_z)) ≤ (nI l) → V 55 [(0, .ref 0), (1, .int (nI k_z)), (2, .int (nI n_z))] [] σ)
          refine ⟨fun h_52 => ?_, fun h_52 => ?_⟩
          · skip
            refine zq (σ := σ) hV hI rfl 4 ?_
            show zSp _ 77 [.ref 0, .int (nI k_z), .int (nI n_z)] σ (fun r_z σ' => σ'.2.2.2 = σ.2.2.2 + zAl 77 → V 70 [(0, .ref 0), (1, .int (nI k_z)), (2, .int (nI n_z))] (r_z.toList ++ []) σ')
            have hll : 2 * n_z ≤ l := by rw [show (2 : Int32) * nI n_z = nI (2 * n_z) from zn_m (a := 2) rfl rfl, nI_leI (by omega) (by omega)] at h_52; exact h_52
            refine isShape_ok hI hk4 hn10.2 (fun hb3 _ => ?_) (fun hb3 _ => ?_)
            · skip
              refine zq (σ := σ) hV hI rfl 1 ?_
              show (¬ (1 : Int32) = 0 → V 76 [(0, .ref 0), (1, .int (nI k_z)), (2, .int (nI n_z))] [] σ) ∧ (¬ (¬ (1 : Int32) = 0) → V 73 [(0, .ref 0), (1, .int (nI k_z)), (2, .int (nI n_z))] [] σ)
              refine ⟨fun _ => ?_, fun hc_z => absurd (by decide) hc_z⟩
              refine zq (σ := σ) hV hI rfl 2 ?_
              show V 78 [(3, .int 0), (0, .ref 0), (1, .int (nI k_z)), (2, .int (nI n_z))] [] σ
              refine zwk hV [1, 2, 3, 0] rfl ?_
              have Hi : ∀ (r_z : Nat) (i_z : Nat) (τ : zSt), i_z + r_z = n_z → zOnly (zfSh n_z) σ τ → (∀ j_z, j_z < i_z → τ.1 2 j_z = σ.1 29 (k_z * 60 + 2 * j_z) ∧ τ.1 3 j_z = σ.1 29 (k_z * 60 + (2 * j_z + 1))) → V 78 [(0, .ref 0), (1, .int (nI k_z)), (2, .int (nI n_z)), (3, .int (nI i_z))] [] τ := by
                intro r_z
                induction r_z with
                | zero =>
                  intro i_z τ hir ht hXY
                  have hIτ := zQI_eq hI ht.2.2
                  have hnτ : τ.2.2.2 = σ.2.2.2 := congrArg Prod.snd ht.2.2
                  have eI : ∀ j_z, τ.1 29 j_z = σ.1 29 j_z := fun j_z => ht.1 29 j_z rfl
                  refine zq (σ := τ) hV hIτ hnτ 3 ?_
                  show ((nI n_z) ≤ (nI i_z) → V 121 [(0, .ref 0), (1, .int (nI k_z)), (2, .int (nI n_z)), (3, .int (nI i_z))] [] τ) ∧ (¬ (nI n_z) ≤ (nI i_z) → V 83 [(0, .ref 0), (1, .int (nI k_z)), (2, .int (nI n_z)), (3, .int (nI i_z))] [] τ)
                  refine ⟨fun _ => ?_, fun hc_z => absurd (show nI n_z ≤ nI i_z from zge_self (by omega)) hc_z⟩
                  refine zq (σ := τ) hV hIτ hnτ 4 ?_
                  show zSp _ 26 [.ref 1, .int (nI n_z)] τ (fun r_z σ' => σ'.2.2.2 = τ.2.2.2 + zAl 26 → V 129 [(0, .ref 0), (1, .int (nI k_z)), (2, .int (nI n_z)), (3, .int (nI i_z))] (r_z.toList ++ []) σ')
                  refine close_ok (zR_of hIτ rfl rfl) (n := n_z) hn10.2 (fun υ hu0 hcn har hmx hmy _ => ?_)
                  have hu : zOnly (zfSh n_z) σ υ := ht.tr (hu0.wk zfPo_Sh)
                  have hIυ := zQI_eq hI hu.2.2
                  have hnυ : υ.2.2.2 = σ.2.2.2 := congrArg Prod.snd hu.2.2
                  have x2_z : υ.1 2 = τ.1 2 := funext fun j_z => hu0.1 2 j_z rfl
                  have x3 : υ.1 3 = τ.1 3 := funext fun j_z => hu0.1 3 j_z rfl
                  refine zq (σ := υ) hV hIυ hnυ 3 ?_
                  show zSp _ 20 [.ref 4] υ (fun r_z σ' => σ'.2.2.2 = υ.2.2.2 + zAl 20 → V 136 [(0, .ref 0), (1, .int (nI k_z)), (2, .int (nI n_z)), (3, .int (nI i_z))] (r_z.toList ++ []) σ')
                  refine hclear_4 (zR_of hIυ rfl rfl) (fun _ => ?_)
                  refine zq (σ := (zuI υ 4 2 0)) hV hIυ hnυ 3 ?_
                  show zSp _ 60 [.ref 14] (zuI υ 4 2 0) (fun r_z σ' => σ'.2.2.2 = (zuI υ 4 2 0).2.2.2 + zAl 60 → V 143 [(0, .ref 0), (1, .int (nI k_z)), (2, .int (nI n_z)), (3, .int (nI i_z))] (r_z.toList ++ []) σ')
                  refine sclear_ok (zR_of hIυ rfl rfl) (fun _ => ?_)
                  refine zq (σ := (zuI (zuI υ 4 2 0) 14 3 0)) hV hIυ hnυ 3 ?_
                  show zSp _ 28 [.ref 1] (zuI (zuI υ 4 2 0) 14 3 0) (fun r_z σ' => σ'.2.2.2 = (zuI (zuI υ 4 2 0) 14 3 0).2.2.2 + zAl 28 → V 150 [(0, .ref 0), (1, .int (nI k_z)), (2, .int (nI n_z)), (3, .int (nI i_z))] (r_z.toList ++ []) σ')
                  refine area_ok (zR_of hIυ rfl rfl) (fun _ => ?_)
                  show V 150 [(0, .ref 0), (1, .int (nI k_z)), (2, .int (nI n_z)), (3, .int (nI i_z))] [.int (υ.1 1 3)] (zuI (zuI υ 4 2 0) 14 3 0)
                  refine zq (σ := (zuI (zuI υ 4 2 0) 14 3 0)) hV hIυ hnυ 1 ?_
                  show K (some (.int (υ.1 1 3))) (zuI (zuI υ 4 2 0) 14 3 0)
                  obtain rfl : i_z = n_z := by omega
                  refine hOk (zuI (zuI υ 4 2 0) 14 3 0) k_z i_z l rfl hk4 rfl hn10 hb2 hl hl60 hll hb3 ((hu.uI (by simp [zfSh])).uI (by simp [zfSh])) hcn (fun j_z hj => ?_) ?_ ?_ ?_ rfl rfl
                  · show υ.1 2 j_z = _ ∧ υ.1 3 j_z = _
                    rw [x2_z, x3]; exact hXY j_z hj
                  · show υ.1 1 3 = zAr i_z (υ.1 2) (υ.1 3) i_z
                    rw [x2_z, x3]; exact har
                  · show υ.1 1 4 = zMx i_z (υ.1 2) (υ.1 3) i_z
                    rw [x2_z, x3]; exact hmx
                  · show υ.1 1 5 = zMy i_z (υ.1 2) (υ.1 3) i_z
                    rw [x2_z, x3]; exact hmy
                | succ r_z ihi =>
                  intro i_z τ hir ht hXY
                  have hIτ := zQI_eq hI ht.2.2
                  have hnτ : τ.2.2.2 = σ.2.2.2 := congrArg Prod.snd ht.2.2
                  have hn10i : i_z < n_z := by omega
                  have eI : ∀ j_z, τ.1 29 j_z = σ.1 29 j_z := fun j_z => ht.1 29 j_z rfl
                  refine zq (σ := τ) hV hIτ hnτ 3 ?_
                  show ((nI n_z) ≤ (nI i_z) → V 121 [(0, .ref 0), (1, .int (nI k_z)), (2, .int (nI n_z)), (3, .int (nI i_z))] [] τ) ∧ (¬ (nI n_z) ≤ (nI i_z) → V 83 [(0, .ref 0), (1, .int (nI k_z)), (2, .int (nI n_z)), (3, .int (nI i_z))] [] τ)
                  refine ⟨fun hc_z => absurd hc_z (show ¬ nI n_z ≤ nI i_z from nI_ge (by omega) (by omega)), fun _ => ?_⟩
                  refine zq (σ := τ) hV hIτ hnτ 10 ?_
                  show zSp _ 53 [.ref 26, .int (nI k_z), .int (2 * (nI i_z))] τ (fun r_z σ' => σ'.2.2.2 = τ.2.2.2 + zAl 53 → V 99 [(0, .ref 0), (1, .int (nI k_z)), (2, .int (nI n_z)), (3, .int (nI i_z))] (r_z.toList ++ [.int (nI i_z), .ref 1]) σ')
                  refine svalue_ok (zR_of hIτ rfl rfl) (k := k_z) rfl (by omega) (j := (2 * i_z)) (zn_m (a := 2) (b := i_z) rfl rfl) (by omega) (fun _ => ?_)
                  refine zq (σ := τ) hV hIτ hnτ 9 ?_
                  show zSp _ 53 [.ref 26, .int (nI k_z), .int ((2 * (nI i_z)) + 1)] τ (fun r_z σ' => σ'.2.2.2 = τ.2.2.2 + zAl 53 → V 112 [(0, .ref 0), (1, .int (nI k_z)), (2, .int (nI n_z)), (3, .int (nI i_z))] (r_z.toList ++ [.int (τ.1 29 (k_z * 60 + (2 * i_z))), .int (nI i_z), .ref 1]) σ')
                  refine svalue_ok (zR_of hIτ rfl rfl) (k := k_z) rfl (by omega) (j := ((2 * i_z) + 1)) (zn_a (a := (2 * i_z)) (b := 1) (zn_m (a := 2) (b := i_z) rfl rfl) rfl) (by omega) (fun _ => ?_)
                  refine zq (σ := τ) hV hIτ hnτ 1 ?_
                  show zSp _ 25 [.ref 1, .int (nI i_z), .int (τ.1 29 (k_z * 60 + (2 * i_z))), .int (τ.1 29 (k_z * 60 + ((2 * i_z) + 1)))] τ (fun r_z σ' => σ'.2.2.2 = τ.2.2.2 + zAl 25 → V 115 [(0, .ref 0), (1, .int (nI k_z)), (2, .int (nI n_z)), (3, .int (nI i_z))] (r_z.toList ++ []) σ')
                  refine setCorner_ok (zR_of hIτ rfl rfl) (k := i_z) rfl (by omega) (fun _ => ?_)
                  rw [eI, eI]
                  refine zq (σ := (zuI (zuI τ 2 i_z (σ.1 29 (k_z * 60 + (2 * i_z)))) 3 i_z (σ.1 29 (k_z * 60 + ((2 * i_z) + 1))))) hV hIτ hnτ 2 ?_
                  show V 78 [(3, .int ((nI i_z) + 1)), (0, .ref 0), (1, .int (nI k_z)), (2, .int (nI n_z))] [] (zuI (zuI τ 2 i_z (σ.1 29 (k_z * 60 + (2 * i_z)))) 3 i_z (σ.1 29 (k_z * 60 + ((2 * i_z) + 1))))
                  refine zwk hV [1, 2, 3, 0] rfl ?_
                  rw [nI_1]
                  refine ihi (i_z + 1) _ (by omega) ((ht.uI (by simp [zfSh, hn10i])).uI (by simp [zfSh, hn10i])) (fun j_z hj => ?_)
                  simp only [zuI_get]
                  by_cases e_z : j_z = i_z
                  · subst e_z; simp
                  · have := hXY j_z (by omega); simp [e_z, this.1, this.2]
              exact Hi n_z 0 σ (by omega) zOnly.rf (fun j_z q_z => absurd q_z (Nat.not_lt_zero j_z))
            · skip
              refine zq (σ := σ) hV hI rfl 1 ?_
              show (¬ (0 : Int32) = 0 → V 76 [(0, .ref 0), (1, .int (nI k_z)), (2, .int (nI n_z))] [] σ) ∧ (¬ (¬ (0 : Int32) = 0) → V 73 [(0, .ref 0), (1, .int (nI k_z)), (2, .int (nI n_z))] [] σ)
              refine ⟨fun hc_z => absurd hc_z (by decide), fun _ => ?_⟩
              refine zq (σ := σ) hV hI rfl 2 ?_
              show K (some (.int (-3))) σ
              exact hNot k_z n_z l rfl hk4 rfl hn10 hb2 hl hl60 hll hb3
          · skip
            refine zq (σ := σ) hV hI rfl 4 ?_
            show zSp _ 47 [.ref 26, .int 2] σ (fun r_z σ' => σ'.2.2.2 = σ.2.2.2 + zAl 47 → V 63 [(0, .ref 0), (1, .int (nI k_z)), (2, .int (nI n_z))] (r_z.toList ++ []) σ')
            refine find_ok (zR_of hI rfl rfl) (fun _ => ?_)
            refine zq (σ := (zuI σ 26 3 2)) hV hI rfl 1 ?_
            show K (some (.int ((-10) - 2))) (zuI σ 26 3 2)
            have hll : ¬ 2 * n_z ≤ l := by rw [show (2 : Int32) * nI n_z = nI (2 * n_z) from zn_m (a := 2) rfl rfl, nI_leI (by omega) (by omega)] at h_52; exact h_52
            exact hIndex k_z n_z l rfl hk4 rfl hn10 hb2 hl hl60 (by omega)
      · skip
        refine zq (σ := σ) hV hI rfl 2 ?_
        show K (some (.int (-2))) σ
        refine hBad (fun q_z => ?_)
        have q3_z := q_z.2
        unfold zBt at q3_z
        simp only [zlt, zle] at h_9 h_15
        simp at h_9 h_15
        omega
  · skip
    refine zq (σ := σ) hV hI rfl 1 ?_
    show ((0 : Int32) = 0 → V 18 [(0, .ref 0), (1, .int s), (2, .int c)] [] σ) ∧ (¬ (0 : Int32) = 0 → V 7 [(0, .ref 0), (1, .int s), (2, .int c)] [] σ)
    refine ⟨fun _ => ?_, fun hc_z => absurd (by decide) hc_z⟩
    refine zq (σ := σ) hV hI rfl 2 ?_
    show K (some (.int (-2))) σ
    exact hBad (fun q_z => hb1 q_z.1)
set_option maxRecDepth 8000 in
set_option maxHeartbeats 4000000 in
theorem shape_M2 {d : Nat} {σ : zSt} {K : Option Value → zSt → Prop} {s c : Int32} (hI : zQI (kR 30 52) σ.2.2) (hL : ∀ k, k < 4 → 0 ≤ σ.1 48 k → ∃ l, σ.1 49 k = nI l ∧ l ≤ 60) (hBad : ¬ (zBt 0 3 s ∧ zBt 3 10 c) → K (some (.int (-2))) σ) (hNull : ∀ k n, s = nI k → k < 4 → c = nI n → (3 ≤ n ∧ n ≤ 10) → ¬ 0 ≤ σ.1 48 k → K (some (.int (-10 - 1))) (zuI σ 30 35 1)) (hIndex : ∀ k n l, s = nI k → k < 4 → c = nI n → (3 ≤ n ∧ n ≤ 10) → 0 ≤ σ.1 48 k → σ.1 49 k = nI l → l ≤ 60 → l < 2 * n → K (some (.int (-10 - 2))) (zuI σ 30 35 2))
    (hNot : ∀ τ k n l, s = nI k → k < 4 → c = nI n → (3 ≤ n ∧ n ≤ 10) → 0 ≤ σ.1 48 k → σ.1 49 k = nI l → l ≤ 60 → 2 * n ≤ l → zOnly zf34 σ τ → ¬ zShp (fun j => σ.1 50 (k * 60 + j)) n → K (some (.int (-3))) τ)
    (hOk : ∀ τ k n l, s = nI k → k < 4 → c = nI n → (3 ≤ n ∧ n ≤ 10) → 0 ≤ σ.1 48 k → σ.1 49 k = nI l → l ≤ 60 → 2 * n ≤ l → zShp (fun j => σ.1 50 (k * 60 + j)) n → zOnly (zfShM n) σ τ → τ.1 30 0 = nI n → (∀ j, j < n → τ.1 31 j = σ.1 50 (k * 60 + 2 * j) ∧ τ.1 32 j = σ.1 50 (k * 60 + (2 * j + 1))) → τ.1 30 5 = 0 → τ.1 30 18 = 0 → K (some (.int (zAr n (fun j => σ.1 50 (k * 60 + 2 * j)) (fun j => σ.1 50 (k * 60 + (2 * j + 1))) n))) τ) : zSp (d + 3) mX9_shape [.ref 30, .int s, .int c] σ K := by
  refine ⟨⟨by decide, Nat.le_of_ble_eq_true rfl⟩, fun V hV => ?_⟩
  refine zq (σ := σ) hV hI rfl 2 ?_
  show zSp _ 187 [.int s] σ (fun r_z σ' => σ'.2.2.2 = σ.2.2.2 + zAl 187 → V 4 [(0, .ref 30), (1, .int s), (2, .int c)] (r_z.toList ++ []) σ')
  refine isSheet_M (fun hb1 _ => ?_) (fun hb1 _ => ?_)
  · skip
    refine zq (σ := σ) hV hI rfl 1 ?_
    show ((1 : Int32) = 0 → V 21 [(0, .ref 30), (1, .int s), (2, .int c)] [] σ) ∧ (¬ (1 : Int32) = 0 → V 7 [(0, .ref 30), (1, .int s), (2, .int c)] [] σ)
    refine ⟨fun hc_z => absurd hc_z (by decide), fun _ => ?_⟩
    refine zq (σ := σ) hV hI rfl 5 ?_
    show zSp _ 131 [.long (Int32.toInt64 c), .long 3, .long 10] σ (fun r_z σ' => σ'.2.2.2 = σ.2.2.2 + zAl 131 → V 18 [(0, .ref 30), (1, .int s), (2, .int c)] (r_z.toList ++ []) σ')
    refine in_M (lo := 3) (hi := 10) (by decide) (by decide) (fun hb2 _ => ?_) (fun hb2 _ => ?_)
    · skip
      refine zq (σ := σ) hV hI rfl 1 ?_
      show (¬ (1 : Int32) = 0 → V 24 [(0, .ref 30), (1, .int s), (2, .int c)] [] σ) ∧ (¬ (¬ (1 : Int32) = 0) → V 21 [(0, .ref 30), (1, .int s), (2, .int c)] [] σ)
      refine ⟨fun _ => ?_, fun hc_z => absurd (by decide) hc_z⟩
      have hs3 := hb1
      have hc3 := hb2
      obtain ⟨k_z, hk, _, _⟩ := zNat (x := s) (by unfold zBt at hb1; omega)
      have hk4 : k_z < 4 := by unfold zBt at hb1; omega
      subst hk
      obtain ⟨n_z, hcn, _, _⟩ := zNat (x := c) (by unfold zBt at hc3; omega)
      have hn10 : 3 ≤ n_z ∧ n_z ≤ 10 := by unfold zBt at hc3; omega
      subst hcn
      refine zq (σ := σ) hV hI rfl 4 ?_
      show vp_in (nI k_z) 4 ∧ V 30 [(0, .ref 30), (1, .int (nI k_z)), (2, .int (nI n_z))] [.int (σ.1 48 (Int32.toNatClampNeg (nI k_z)))] σ
      refine ⟨zix (k := k_z) rfl (by omega) (by decide), ?_⟩
      rw [zcl_k (i := (nI k_z)) (k := k_z) rfl (by omega)]
      refine zq (σ := σ) hV hI rfl 1 ?_
      show (0 ≤ (σ.1 48 k_z) → V 39 [(0, .ref 30), (1, .int (nI k_z)), (2, .int (nI n_z))] [] σ) ∧ (¬ 0 ≤ (σ.1 48 k_z) → V 33 [(0, .ref 30), (1, .int (nI k_z)), (2, .int (nI n_z))] [] σ)
      refine ⟨fun h_30 => ?_, fun h_30 => ?_⟩
      · skip
        obtain ⟨l, hl, hl60⟩ := hL k_z hk4 h_30
        refine zq (σ := σ) hV hI rfl 4 ?_
        show vp_in (nI k_z) 4 ∧ V 45 [(0, .ref 30), (1, .int (nI k_z)), (2, .int (nI n_z))] [.int (σ.1 49 (Int32.toNatClampNeg (nI k_z)))] σ
        refine ⟨zix (k := k_z) rfl (by omega) (by decide), ?_⟩
        rw [zcl_k (i := (nI k_z)) (k := k_z) rfl (by omega)]
        refine zq (σ := σ) hV hI rfl 4 ?_
        show ((2 * (nI n_z)) ≤ (σ.1 49 k_z) → V 57 [(0, .ref 30), (1, .int (nI k_z)), (2, .int (nI n_z))] [] σ) ∧ (¬ (2 * (nI n_z)) ≤ (σ.1 49 k_z) → V 51 [(0, .ref 30), (1, .int (nI k_z)), (2, .int (nI n_z))] [] σ)
        refine ⟨fun h_48 => ?_, fun h_48 => ?_⟩
        · skip
          have hll : 2 * n_z ≤ l := by rw [hl, show (2 : Int32) * nI n_z = nI (2 * n_z) from zn_m (a := 2) rfl rfl, nI_leI (by omega) (by omega)] at h_48; exact h_48
          refine zq (σ := σ) hV hI rfl 6 ?_
          show V 65 [(5, .int 0), (4, .int 0), (3, .int 1), (0, .ref 30), (1, .int (nI k_z)), (2, .int (nI n_z))] [] σ
          refine zwk hV [3, 4, 5, 2, 1, 0] rfl ?_
          have Hi : ∀ (r_z : Nat) (i_z : Nat) (o : Bool) (τ : zSt), i_z + r_z = n_z → zOnly zf34 σ τ → (o = true ↔ ∀ j_z, j_z < 2 * i_z → zBt (-30) 30 (σ.1 50 (k_z * 60 + j_z))) → (∀ j_z, j_z < i_z → τ.1 33 j_z = σ.1 50 (k_z * 60 + 2 * j_z) ∧ τ.1 34 j_z = σ.1 50 (k_z * 60 + (2 * j_z + 1))) → V 65 [(0, .ref 30), (1, .int (nI k_z)), (2, .int (nI n_z)), (3, .int (zb o)), (4, .int 0), (5, .int (nI i_z))] [] τ := by
            intro r_z
            induction r_z with
            | zero =>
              intro i_z o τ hir ht hgo hxy
              have hIτ := zQI_eq hI ht.2.2
              have hnτ : τ.2.2.2 = σ.2.2.2 := congrArg Prod.snd ht.2.2
              have e50 : τ.1 50 = σ.1 50 := funext fun j_z => ht.1 50 j_z rfl
              refine zq (σ := τ) hV hIτ hnτ 3 ?_
              show ((nI n_z) ≤ (nI i_z) → V 171 [(0, .ref 30), (1, .int (nI k_z)), (2, .int (nI n_z)), (3, .int (zb o)), (4, .int 0), (5, .int (nI i_z))] [] τ) ∧ (¬ (nI n_z) ≤ (nI i_z) → V 71 [(0, .ref 30), (1, .int (nI k_z)), (2, .int (nI n_z)), (3, .int (zb o)), (4, .int 0), (5, .int (nI i_z))] [] τ)
              refine ⟨fun _ => ?_, fun hc_z => absurd (show nI n_z ≤ nI i_z from zge_self (by omega)) hc_z⟩
              have hi2 : i_z = n_z := by omega
              rw [hi2] at hgo hxy
              cases o
              · skip
                show V 171 [(0, .ref 30), (1, .int (nI k_z)), (2, .int (nI n_z)), (3, .int 0), (4, .int 0), (5, .int (nI i_z))] [] τ
                refine zq (σ := τ) hV hIτ hnτ 2 ?_
                show V 174 [(5, .int 0), (0, .ref 30), (1, .int (nI k_z)), (2, .int (nI n_z)), (3, .int 0), (4, .int 0)] [] τ
                refine zq (σ := τ) hV hIτ hnτ 3 ?_
                show ((nI n_z) ≤ (0 : Int32) → V 244 [(5, .int 0), (0, .ref 30), (1, .int (nI k_z)), (2, .int (nI n_z)), (3, .int 0), (4, .int 0)] [] τ) ∧ (¬ (nI n_z) ≤ (0 : Int32) → V 180 [(5, .int 0), (0, .ref 30), (1, .int (nI k_z)), (2, .int (nI n_z)), (3, .int 0), (4, .int 0)] [] τ)
                refine ⟨fun h_177 => ?_, fun h_177 => ?_⟩
                · skip
                  refine zq (σ := τ) hV hIτ hnτ 2 ?_
                  show ((0 : Int32) = 0 → V 253 [(5, .int 0), (0, .ref 30), (1, .int (nI k_z)), (2, .int (nI n_z)), (3, .int 0), (4, .int 0)] [] τ) ∧ (¬ (0 : Int32) = 0 → V 248 [(5, .int 0), (0, .ref 30), (1, .int (nI k_z)), (2, .int (nI n_z)), (3, .int 0), (4, .int 0)] [] τ)
                  refine ⟨fun _ => ?_, fun hc_z => absurd (by decide) hc_z⟩
                  refine zq (σ := τ) hV hIτ hnτ 2 ?_
                  show K (some (.int (-3))) τ
                  refine hNot τ k_z n_z l rfl hk4 rfl hn10 h_30 hl hl60 hll ht (fun x_z => ?_)
                  exact absurd (hgo.mpr x_z.1) (by decide)
                · skip
                  refine zq (σ := τ) hV hIτ hnτ 2 ?_
                  show ((0 : Int32) = 0 → V 244 [(5, .int 0), (0, .ref 30), (1, .int (nI k_z)), (2, .int (nI n_z)), (3, .int 0), (4, .int 0)] [] τ) ∧ (¬ (0 : Int32) = 0 → V 184 [(5, .int 0), (0, .ref 30), (1, .int (nI k_z)), (2, .int (nI n_z)), (3, .int 0), (4, .int 0)] [] τ)
                  refine ⟨fun _ => ?_, fun hc_z => absurd (by decide) hc_z⟩
                  refine zq (σ := τ) hV hIτ hnτ 2 ?_
                  show ((0 : Int32) = 0 → V 253 [(5, .int 0), (0, .ref 30), (1, .int (nI k_z)), (2, .int (nI n_z)), (3, .int 0), (4, .int 0)] [] τ) ∧ (¬ (0 : Int32) = 0 → V 248 [(5, .int 0), (0, .ref 30), (1, .int (nI k_z)), (2, .int (nI n_z)), (3, .int 0), (4, .int 0)] [] τ)
                  refine ⟨fun _ => ?_, fun hc_z => absurd (by decide) hc_z⟩
                  refine zq (σ := τ) hV hIτ hnτ 2 ?_
                  show K (some (.int (-3))) τ
                  refine hNot τ k_z n_z l rfl hk4 rfl hn10 h_30 hl hl60 hll ht (fun x_z => ?_)
                  exact absurd (hgo.mpr x_z.1) (by decide)
              · skip
                show V 171 [(0, .ref 30), (1, .int (nI k_z)), (2, .int (nI n_z)), (3, .int 1), (4, .int 0), (5, .int (nI i_z))] [] τ
                refine zq (σ := τ) hV hIτ hnτ 2 ?_
                show V 174 [(5, .int 0), (0, .ref 30), (1, .int (nI k_z)), (2, .int (nI n_z)), (3, .int 1), (4, .int 0)] [] τ
                refine zwk hV [1, 2, 3, 4, 5, 0] rfl ?_
                have Hq : ∀ (r_z : Nat) (q_z : Nat) (a_z : Int32), q_z + r_z = n_z → a_z = zAr n_z (fun j_z => σ.1 50 (k_z * 60 + 2 * j_z)) (fun j_z => σ.1 50 (k_z * 60 + (2 * j_z + 1))) q_z → V 174 [(0, .ref 30), (1, .int (nI k_z)), (2, .int (nI n_z)), (3, .int 1), (4, .int a_z), (5, .int (nI q_z))] [] τ := by
                  intro r_z
                  induction r_z with
                  | zero =>
                    intro q_z a_z hqm harea
                    refine zq (σ := τ) hV hIτ hnτ 3 ?_
                    show ((nI n_z) ≤ (nI q_z) → V 244 [(0, .ref 30), (1, .int (nI k_z)), (2, .int (nI n_z)), (3, .int 1), (4, .int a_z), (5, .int (nI q_z))] [] τ) ∧ (¬ (nI n_z) ≤ (nI q_z) → V 180 [(0, .ref 30), (1, .int (nI k_z)), (2, .int (nI n_z)), (3, .int 1), (4, .int a_z), (5, .int (nI q_z))] [] τ)
                    refine ⟨fun _ => ?_, fun hc_z => absurd (show nI n_z ≤ nI q_z from zge_self (by omega)) hc_z⟩
                    have hq2 : q_z = n_z := by omega
                    rw [hq2] at harea
                    refine zq (σ := τ) hV hIτ hnτ 2 ?_
                    show ((1 : Int32) = 0 → V 253 [(0, .ref 30), (1, .int (nI k_z)), (2, .int (nI n_z)), (3, .int 1), (4, .int a_z), (5, .int (nI q_z))] [] τ) ∧ (¬ (1 : Int32) = 0 → V 248 [(0, .ref 30), (1, .int (nI k_z)), (2, .int (nI n_z)), (3, .int 1), (4, .int a_z), (5, .int (nI q_z))] [] τ)
                    refine ⟨fun hc_z => absurd hc_z (by decide), fun _ => ?_⟩
                    refine zq (σ := τ) hV hIτ hnτ 2 ?_
                    show (0 < a_z → V 256 [(0, .ref 30), (1, .int (nI k_z)), (2, .int (nI n_z)), (3, .int 1), (4, .int a_z), (5, .int (nI q_z))] [] τ) ∧ (¬ 0 < a_z → V 253 [(0, .ref 30), (1, .int (nI k_z)), (2, .int (nI n_z)), (3, .int 1), (4, .int a_z), (5, .int (nI q_z))] [] τ)
                    refine ⟨fun h_250 => ?_, fun h_250 => ?_⟩
                    · skip
                      refine zq (σ := τ) hV hIτ hnτ 5 ?_
                      show V 264 [(5, .int 0), (0, .ref 30), (1, .int (nI k_z)), (2, .int (nI n_z)), (3, .int 1), (4, .int a_z)] [] (zuI τ 30 0 (nI n_z))
                      refine zwk hV [1, 2, 3, 4, 5, 0] rfl ?_
                      have Hz : ∀ (r_z : Nat) (z_z : Nat) (υ : zSt), z_z + r_z = n_z → zOnly (zfShM n_z) σ υ → υ.1 30 0 = nI n_z → υ.1 33 = τ.1 33 → υ.1 34 = τ.1 34 → (∀ j_z, j_z < z_z → υ.1 31 j_z = σ.1 50 (k_z * 60 + 2 * j_z) ∧ υ.1 32 j_z = σ.1 50 (k_z * 60 + (2 * j_z + 1))) → V 264 [(0, .ref 30), (1, .int (nI k_z)), (2, .int (nI n_z)), (3, .int 1), (4, .int a_z), (5, .int (nI z_z))] [] υ := by
                        intro r_z
                        induction r_z with
                        | zero =>
                          intro z_z υ hzr hu h0 h33 h34 hcx
                          have hIυ := zQI_eq hI hu.2.2
                          have hnυ : υ.2.2.2 = σ.2.2.2 := congrArg Prod.snd hu.2.2
                          have u3 : υ.1 33 = τ.1 33 := h33
                          have u4_z : υ.1 34 = τ.1 34 := h34
                          refine zq (σ := υ) hV hIυ hnυ 3 ?_
                          show ((nI n_z) ≤ (nI z_z) → V 304 [(0, .ref 30), (1, .int (nI k_z)), (2, .int (nI n_z)), (3, .int 1), (4, .int a_z), (5, .int (nI z_z))] [] υ) ∧ (¬ (nI n_z) ≤ (nI z_z) → V 270 [(0, .ref 30), (1, .int (nI k_z)), (2, .int (nI n_z)), (3, .int 1), (4, .int a_z), (5, .int (nI z_z))] [] υ)
                          refine ⟨fun _ => ?_, fun hc_z => absurd (show nI n_z ≤ nI z_z from zge_self (by omega)) hc_z⟩
                          refine zq (σ := υ) hV hIυ hnυ 8 ?_
                          show K (some (.int a_z)) (zuI (zuI υ 30 5 0) 30 18 0)
                          have hz2 : z_z = n_z := by omega
                          rw [hz2] at hcx
                          rw [harea]
                          refine hOk _ k_z n_z l rfl hk4 rfl hn10 h_30 hl hl60 hll ⟨hgo.mp rfl, by rw [harea] at h_250; exact h_250⟩ ((hu.uI (by simp [zfShM])).uI (by simp [zfShM])) h0 hcx rfl rfl
                        | succ r_z ihz =>
                          intro z_z υ hzr hu h0 h33 h34 hcx
                          have hIυ := zQI_eq hI hu.2.2
                          have hnυ : υ.2.2.2 = σ.2.2.2 := congrArg Prod.snd hu.2.2
                          have u3 : υ.1 33 = τ.1 33 := h33
                          have u4_z : υ.1 34 = τ.1 34 := h34
                          have hzn : z_z < n_z := by omega
                          refine zq (σ := υ) hV hIυ hnυ 3 ?_
                          show ((nI n_z) ≤ (nI z_z) → V 304 [(0, .ref 30), (1, .int (nI k_z)), (2, .int (nI n_z)), (3, .int 1), (4, .int a_z), (5, .int (nI z_z))] [] υ) ∧ (¬ (nI n_z) ≤ (nI z_z) → V 270 [(0, .ref 30), (1, .int (nI k_z)), (2, .int (nI n_z)), (3, .int 1), (4, .int a_z), (5, .int (nI z_z))] [] υ)
                          refine ⟨fun hc_z => absurd hc_z (show ¬ nI n_z ≤ nI z_z from nI_ge (by omega) (by omega)), fun _ => ?_⟩
                          refine zq (σ := υ) hV hIυ hnυ 7 ?_
                          show vp_in (nI z_z) 10 ∧ V 283 [(0, .ref 30), (1, .int (nI k_z)), (2, .int (nI n_z)), (3, .int 1), (4, .int a_z), (5, .int (nI z_z))] [.int (υ.1 33 (Int32.toNatClampNeg (nI z_z))), .int (nI z_z), .ref 31] υ
                          refine ⟨zix (k := z_z) rfl (by omega) (by decide), ?_⟩
                          rw [zcl_k (i := (nI z_z)) (k := z_z) rfl (by omega)]
                          refine zq (σ := υ) hV hIυ hnυ 1 ?_
                          show vp_in (nI z_z) 10 ∧ V 284 [(0, .ref 30), (1, .int (nI k_z)), (2, .int (nI n_z)), (3, .int 1), (4, .int a_z), (5, .int (nI z_z))] [] (zuI υ 31 (Int32.toNatClampNeg (nI z_z)) (υ.1 33 z_z))
                          refine ⟨zix (k := z_z) rfl (by omega) (by decide), ?_⟩
                          rw [zcl_k (i := (nI z_z)) (k := z_z) rfl (by omega)]
                          refine zq (σ := (zuI υ 31 z_z (υ.1 33 z_z))) hV hIυ hnυ 7 ?_
                          show vp_in (nI z_z) 10 ∧ V 297 [(0, .ref 30), (1, .int (nI k_z)), (2, .int (nI n_z)), (3, .int 1), (4, .int a_z), (5, .int (nI z_z))] [.int (υ.1 34 (Int32.toNatClampNeg (nI z_z))), .int (nI z_z), .ref 32] (zuI υ 31 z_z (υ.1 33 z_z))
                          refine ⟨zix (k := z_z) rfl (by omega) (by decide), ?_⟩
                          rw [zcl_k (i := (nI z_z)) (k := z_z) rfl (by omega)]
                          refine zq (σ := (zuI υ 31 z_z (υ.1 33 z_z))) hV hIυ hnυ 1 ?_
                          show vp_in (nI z_z) 10 ∧ V 298 [(0, .ref 30), (1, .int (nI k_z)), (2, .int (nI n_z)), (3, .int 1), (4, .int a_z), (5, .int (nI z_z))] [] (zuI (zuI υ 31 z_z (υ.1 33 z_z)) 32 (Int32.toNatClampNeg (nI z_z)) (υ.1 34 z_z))
                          refine ⟨zix (k := z_z) rfl (by omega) (by decide), ?_⟩
                          rw [zcl_k (i := (nI z_z)) (k := z_z) rfl (by omega)]
                          refine zq (σ := (zuI (zuI υ 31 z_z (υ.1 33 z_z)) 32 z_z (υ.1 34 z_z))) hV hIυ hnυ 2 ?_
                          show V 264 [(5, .int ((nI z_z) + 1)), (0, .ref 30), (1, .int (nI k_z)), (2, .int (nI n_z)), (3, .int 1), (4, .int a_z)] [] (zuI (zuI υ 31 z_z (υ.1 33 z_z)) 32 z_z (υ.1 34 z_z))
                          refine zwk hV [1, 2, 3, 4, 5, 0] rfl ?_
                          rw [nI_1]
                          refine ihz (z_z + 1) _ (by omega) ((hu.uI (by simp [zfShM, hzn])).uI (by simp [zfShM, hzn])) h0 h33 h34 (fun j_z hj => ?_)
                          simp only [zuI_get, u3, u4_z]
                          by_cases e_z : j_z = z_z
                          · subst e_z; have := hxy j_z (by omega); simp [this.1, this.2]
                          · have := hcx j_z (by omega); simp [e_z, this.1, this.2]
                      exact Hz n_z 0 _ (by omega) ((ht.wk zf34_Sh).uI (by simp [zfShM])) rfl rfl rfl (fun j_z q_z => absurd q_z (Nat.not_lt_zero j_z))
                    · skip
                      refine zq (σ := τ) hV hIτ hnτ 2 ?_
                      show K (some (.int (-3))) τ
                      refine hNot τ k_z n_z l rfl hk4 rfl hn10 h_30 hl hl60 hll ht (fun x_z => ?_)
                      rw [harea] at h_250; exact h_250 x_z.2
                  | succ r_z ihq =>
                    intro q_z a_z hqm harea
                    refine zq (σ := τ) hV hIτ hnτ 3 ?_
                    show ((nI n_z) ≤ (nI q_z) → V 244 [(0, .ref 30), (1, .int (nI k_z)), (2, .int (nI n_z)), (3, .int 1), (4, .int a_z), (5, .int (nI q_z))] [] τ) ∧ (¬ (nI n_z) ≤ (nI q_z) → V 180 [(0, .ref 30), (1, .int (nI k_z)), (2, .int (nI n_z)), (3, .int 1), (4, .int a_z), (5, .int (nI q_z))] [] τ)
                    refine ⟨fun hc_z => absurd hc_z (show ¬ nI n_z ≤ nI q_z from nI_ge (by omega) (by omega)), fun _ => ?_⟩
                    refine zq (σ := τ) hV hIτ hnτ 2 ?_
                    show ((1 : Int32) = 0 → V 244 [(0, .ref 30), (1, .int (nI k_z)), (2, .int (nI n_z)), (3, .int 1), (4, .int a_z), (5, .int (nI q_z))] [] τ) ∧ (¬ (1 : Int32) = 0 → V 184 [(0, .ref 30), (1, .int (nI k_z)), (2, .int (nI n_z)), (3, .int 1), (4, .int a_z), (5, .int (nI q_z))] [] τ)
                    refine ⟨fun hc_z => absurd hc_z (by decide), fun _ => ?_⟩
                    refine zq (σ := τ) hV hIτ hnτ 5 ?_
                    show (¬ ((nI q_z) + 1) = (nI n_z) → V 196 [(0, .ref 30), (1, .int (nI k_z)), (2, .int (nI n_z)), (3, .int 1), (4, .int a_z), (5, .int (nI q_z))] [] τ) ∧ (¬ (¬ ((nI q_z) + 1) = (nI n_z)) → V 192 [(0, .ref 30), (1, .int (nI k_z)), (2, .int (nI n_z)), (3, .int 1), (4, .int a_z), (5, .int (nI q_z))] [] τ)
                    refine ⟨fun h_189 => ?_, fun h_189 => ?_⟩
                    · skip
                      refine zq (σ := τ) hV hIτ hnτ 3 ?_
                      show V 200 [(0, .ref 30), (1, .int (nI k_z)), (2, .int (nI n_z)), (3, .int 1), (4, .int a_z), (5, .int (nI q_z))] [.int ((nI q_z) + 1)] τ
                      have eN_z : nI q_z + 1 = nI n_z ↔ q_z + 1 = n_z := by rw [nI_1]; exact nI_eq (by omega) (by omega)
                      have hnx : zNx n_z q_z = q_z + 1 := by have : ¬ q_z + 1 = n_z := fun y_z => h_189 (eN_z.mpr y_z); unfold zNx; rw [if_pos (by omega)]
                      rw [show (((nI q_z) + 1) : Int32) = nI (zNx n_z q_z) by rw [hnx]; exact nI_1 q_z]
                      have hnl := zNx_lt (show q_z < n_z by omega)
                      refine zq (σ := τ) hV hIτ hnτ 6 ?_
                      show vp_in (nI q_z) 10 ∧ V 211 [(6, .int (nI (zNx n_z q_z))), (0, .ref 30), (1, .int (nI k_z)), (2, .int (nI n_z)), (3, .int 1), (4, .int a_z), (5, .int (nI q_z))] [.int (τ.1 33 (Int32.toNatClampNeg (nI q_z))), .int a_z] τ
                      refine ⟨zix (k := q_z) rfl (by omega) (by decide), ?_⟩
                      rw [zcl_k (i := (nI q_z)) (k := q_z) rfl (by omega)]
                      refine zq (σ := τ) hV hIτ hnτ 4 ?_
                      show vp_in (nI (zNx n_z q_z)) 10 ∧ V 218 [(6, .int (nI (zNx n_z q_z))), (0, .ref 30), (1, .int (nI k_z)), (2, .int (nI n_z)), (3, .int 1), (4, .int a_z), (5, .int (nI q_z))] [.int (τ.1 34 (Int32.toNatClampNeg (nI (zNx n_z q_z)))), .int (τ.1 33 q_z), .int a_z] τ
                      refine ⟨zix (k := (zNx n_z q_z)) rfl (by omega) (by decide), ?_⟩
                      rw [zcl_k (i := (nI (zNx n_z q_z))) (k := (zNx n_z q_z)) rfl (by omega)]
                      refine zq (σ := τ) hV hIτ hnτ 5 ?_
                      show vp_in (nI (zNx n_z q_z)) 10 ∧ V 226 [(6, .int (nI (zNx n_z q_z))), (0, .ref 30), (1, .int (nI k_z)), (2, .int (nI n_z)), (3, .int 1), (4, .int a_z), (5, .int (nI q_z))] [.int (τ.1 33 (Int32.toNatClampNeg (nI (zNx n_z q_z)))), .int ((τ.1 33 q_z) * (τ.1 34 (zNx n_z q_z))), .int a_z] τ
                      refine ⟨zix (k := (zNx n_z q_z)) rfl (by omega) (by decide), ?_⟩
                      rw [zcl_k (i := (nI (zNx n_z q_z))) (k := (zNx n_z q_z)) rfl (by omega)]
                      refine zq (σ := τ) hV hIτ hnτ 4 ?_
                      show vp_in (nI q_z) 10 ∧ V 233 [(6, .int (nI (zNx n_z q_z))), (0, .ref 30), (1, .int (nI k_z)), (2, .int (nI n_z)), (3, .int 1), (4, .int a_z), (5, .int (nI q_z))] [.int (τ.1 34 (Int32.toNatClampNeg (nI q_z))), .int (τ.1 33 (zNx n_z q_z)), .int ((τ.1 33 q_z) * (τ.1 34 (zNx n_z q_z))), .int a_z] τ
                      refine ⟨zix (k := q_z) rfl (by omega) (by decide), ?_⟩
                      rw [zcl_k (i := (nI q_z)) (k := q_z) rfl (by omega)]
                      refine zq (σ := τ) hV hIτ hnτ 6 ?_
                      show V 174 [(5, .int ((nI q_z) + 1)), (4, .int (a_z + (((τ.1 33 q_z) * (τ.1 34 (zNx n_z q_z))) - ((τ.1 33 (zNx n_z q_z)) * (τ.1 34 q_z))))), (6, .int (nI (zNx n_z q_z))), (0, .ref 30), (1, .int (nI k_z)), (2, .int (nI n_z)), (3, .int 1)] [] τ
                      refine zwk hV [3, 4, 5, 6, 1, 0] rfl ?_
                      have x1_z := hxy q_z (by omega)
                      have x2_z := hxy _ hnl
                      rw [nI_1, x1_z.1, x1_z.2, x2_z.1, x2_z.2, Int32.mul_comm (σ.1 50 (k_z * 60 + 2 * zNx n_z q_z))]
                      refine ihq (q_z + 1) _ (by omega) ?_
                      rw [harea]
                      rfl
                    · skip
                      have h_189 := Classical.not_not.mp h_189
                      refine zq (σ := τ) hV hIτ hnτ 2 ?_
                      show V 200 [(0, .ref 30), (1, .int (nI k_z)), (2, .int (nI n_z)), (3, .int 1), (4, .int a_z), (5, .int (nI q_z))] [.int 0] τ
                      have eN_z : nI q_z + 1 = nI n_z ↔ q_z + 1 = n_z := by rw [nI_1]; exact nI_eq (by omega) (by omega)
                      have hnx : zNx n_z q_z = 0 := by have := eN_z.mp h_189; unfold zNx; rw [if_neg (by omega)]
                      rw [show (0 : Int32) = nI (zNx n_z q_z) by rw [hnx]; rfl]
                      have hnl := zNx_lt (show q_z < n_z by omega)
                      refine zq (σ := τ) hV hIτ hnτ 6 ?_
                      show vp_in (nI q_z) 10 ∧ V 211 [(6, .int (nI (zNx n_z q_z))), (0, .ref 30), (1, .int (nI k_z)), (2, .int (nI n_z)), (3, .int 1), (4, .int a_z), (5, .int (nI q_z))] [.int (τ.1 33 (Int32.toNatClampNeg (nI q_z))), .int a_z] τ
                      refine ⟨zix (k := q_z) rfl (by omega) (by decide), ?_⟩
                      rw [zcl_k (i := (nI q_z)) (k := q_z) rfl (by omega)]
                      refine zq (σ := τ) hV hIτ hnτ 4 ?_
                      show vp_in (nI (zNx n_z q_z)) 10 ∧ V 218 [(6, .int (nI (zNx n_z q_z))), (0, .ref 30), (1, .int (nI k_z)), (2, .int (nI n_z)), (3, .int 1), (4, .int a_z), (5, .int (nI q_z))] [.int (τ.1 34 (Int32.toNatClampNeg (nI (zNx n_z q_z)))), .int (τ.1 33 q_z), .int a_z] τ
                      refine ⟨zix (k := (zNx n_z q_z)) rfl (by omega) (by decide), ?_⟩
                      rw [zcl_k (i := (nI (zNx n_z q_z))) (k := (zNx n_z q_z)) rfl (by omega)]
                      refine zq (σ := τ) hV hIτ hnτ 5 ?_
                      show vp_in (nI (zNx n_z q_z)) 10 ∧ V 226 [(6, .int (nI (zNx n_z q_z))), (0, .ref 30), (1, .int (nI k_z)), (2, .int (nI n_z)), (3, .int 1), (4, .int a_z), (5, .int (nI q_z))] [.int (τ.1 33 (Int32.toNatClampNeg (nI (zNx n_z q_z)))), .int ((τ.1 33 q_z) * (τ.1 34 (zNx n_z q_z))), .int a_z] τ
                      refine ⟨zix (k := (zNx n_z q_z)) rfl (by omega) (by decide), ?_⟩
                      rw [zcl_k (i := (nI (zNx n_z q_z))) (k := (zNx n_z q_z)) rfl (by omega)]
                      refine zq (σ := τ) hV hIτ hnτ 4 ?_
                      show vp_in (nI q_z) 10 ∧ V 233 [(6, .int (nI (zNx n_z q_z))), (0, .ref 30), (1, .int (nI k_z)), (2, .int (nI n_z)), (3, .int 1), (4, .int a_z), (5, .int (nI q_z))] [.int (τ.1 34 (Int32.toNatClampNeg (nI q_z))), .int (τ.1 33 (zNx n_z q_z)), .int ((τ.1 33 q_z) * (τ.1 34 (zNx n_z q_z))), .int a_z] τ
                      refine ⟨zix (k := q_z) rfl (by omega) (by decide), ?_⟩
                      rw [zcl_k (i := (nI q_z)) (k := q_z) rfl (by omega)]
                      refine zq (σ := τ) hV hIτ hnτ 6 ?_
                      show V 174 [(5, .int ((nI q_z) + 1)), (4, .int (a_z + (((τ.1 33 q_z) * (τ.1 34 (zNx n_z q_z))) - ((τ.1 33 (zNx n_z q_z)) * (τ.1 34 q_z))))), (6, .int (nI (zNx n_z q_z))), (0, .ref 30), (1, .int (nI k_z)), (2, .int (nI n_z)), (3, .int 1)] [] τ
                      refine zwk hV [3, 4, 5, 6, 1, 0] rfl ?_
                      have x1_z := hxy q_z (by omega)
                      have x2_z := hxy _ hnl
                      rw [nI_1, x1_z.1, x1_z.2, x2_z.1, x2_z.2, Int32.mul_comm (σ.1 50 (k_z * 60 + 2 * zNx n_z q_z))]
                      refine ihq (q_z + 1) _ (by omega) ?_
                      rw [harea]
                      rfl
                exact Hq n_z 0 0 (by omega) rfl
            | succ r_z ihi =>
              intro i_z o τ hir ht hgo hxy
              have hIτ := zQI_eq hI ht.2.2
              have hnτ : τ.2.2.2 = σ.2.2.2 := congrArg Prod.snd ht.2.2
              have e50 : τ.1 50 = σ.1 50 := funext fun j_z => ht.1 50 j_z rfl
              refine zq (σ := τ) hV hIτ hnτ 3 ?_
              show ((nI n_z) ≤ (nI i_z) → V 171 [(0, .ref 30), (1, .int (nI k_z)), (2, .int (nI n_z)), (3, .int (zb o)), (4, .int 0), (5, .int (nI i_z))] [] τ) ∧ (¬ (nI n_z) ≤ (nI i_z) → V 71 [(0, .ref 30), (1, .int (nI k_z)), (2, .int (nI n_z)), (3, .int (zb o)), (4, .int 0), (5, .int (nI i_z))] [] τ)
              refine ⟨fun hc_z => absurd hc_z (show ¬ nI n_z ≤ nI i_z from nI_ge (by omega) (by omega)), fun _ => ?_⟩
              refine zq (σ := τ) hV hIτ hnτ 13 ?_
              show vp_in ((60 * (nI k_z)) + (2 * (nI i_z))) 240 ∧ V 91 [(0, .ref 30), (1, .int (nI k_z)), (2, .int (nI n_z)), (3, .int (zb o)), (4, .int 0), (5, .int (nI i_z))] [.int (τ.1 50 (Int32.toNatClampNeg ((60 * (nI k_z)) + (2 * (nI i_z))))), .int (nI i_z), .ref 33] τ
              refine ⟨zix (k := (k_z * 60 + 2 * i_z)) zx60e (by omega) (by decide), ?_⟩
              rw [zcl_k (i := ((60 * (nI k_z)) + (2 * (nI i_z)))) (k := (k_z * 60 + 2 * i_z)) zx60e (by omega)]
              refine zq (σ := τ) hV hIτ hnτ 1 ?_
              show vp_in (nI i_z) 10 ∧ V 92 [(0, .ref 30), (1, .int (nI k_z)), (2, .int (nI n_z)), (3, .int (zb o)), (4, .int 0), (5, .int (nI i_z))] [] (zuI τ 33 (Int32.toNatClampNeg (nI i_z)) (τ.1 50 (k_z * 60 + 2 * i_z)))
              refine ⟨zix (k := i_z) rfl (by omega) (by decide), ?_⟩
              rw [zcl_k (i := (nI i_z)) (k := i_z) rfl (by omega)]
              refine zq (σ := (zuI τ 33 i_z (τ.1 50 (k_z * 60 + 2 * i_z)))) hV hIτ hnτ 15 ?_
              show vp_in (((60 * (nI k_z)) + (2 * (nI i_z))) + 1) 240 ∧ V 114 [(0, .ref 30), (1, .int (nI k_z)), (2, .int (nI n_z)), (3, .int (zb o)), (4, .int 0), (5, .int (nI i_z))] [.int (τ.1 50 (Int32.toNatClampNeg (((60 * (nI k_z)) + (2 * (nI i_z))) + 1))), .int (nI i_z), .ref 34] (zuI τ 33 i_z (τ.1 50 (k_z * 60 + 2 * i_z)))
              refine ⟨zix (k := (k_z * 60 + (2 * i_z + 1))) zx60o (by omega) (by decide), ?_⟩
              rw [zcl_k (i := (((60 * (nI k_z)) + (2 * (nI i_z))) + 1)) (k := (k_z * 60 + (2 * i_z + 1))) zx60o (by omega)]
              refine zq (σ := (zuI τ 33 i_z (τ.1 50 (k_z * 60 + 2 * i_z)))) hV hIτ hnτ 1 ?_
              show vp_in (nI i_z) 10 ∧ V 115 [(0, .ref 30), (1, .int (nI k_z)), (2, .int (nI n_z)), (3, .int (zb o)), (4, .int 0), (5, .int (nI i_z))] [] (zuI (zuI τ 33 i_z (τ.1 50 (k_z * 60 + 2 * i_z))) 34 (Int32.toNatClampNeg (nI i_z)) (τ.1 50 (k_z * 60 + (2 * i_z + 1))))
              refine ⟨zix (k := i_z) rfl (by omega) (by decide), ?_⟩
              rw [zcl_k (i := (nI i_z)) (k := i_z) rfl (by omega)]
              refine zq (σ := (zuI (zuI τ 33 i_z (τ.1 50 (k_z * 60 + 2 * i_z))) 34 i_z (τ.1 50 (k_z * 60 + (2 * i_z + 1))))) hV hIτ hnτ 2 ?_
              show ((zb o) = 0 → V 163 [(0, .ref 30), (1, .int (nI k_z)), (2, .int (nI n_z)), (3, .int (zb o)), (4, .int 0), (5, .int (nI i_z))] [] (zuI (zuI τ 33 i_z (τ.1 50 (k_z * 60 + 2 * i_z))) 34 i_z (τ.1 50 (k_z * 60 + (2 * i_z + 1))))) ∧ (¬ (zb o) = 0 → V 119 [(0, .ref 30), (1, .int (nI k_z)), (2, .int (nI n_z)), (3, .int (zb o)), (4, .int 0), (5, .int (nI i_z))] [] (zuI (zuI τ 33 i_z (τ.1 50 (k_z * 60 + 2 * i_z))) 34 i_z (τ.1 50 (k_z * 60 + (2 * i_z + 1)))))
              refine ⟨fun h_116 => ?_, fun h_116 => ?_⟩
              · skip
                refine zq (σ := (zuI (zuI τ 33 i_z (τ.1 50 (k_z * 60 + 2 * i_z))) 34 i_z (τ.1 50 (k_z * 60 + (2 * i_z + 1))))) hV hIτ hnτ 4 ?_
                show V 65 [(5, .int ((nI i_z) + 1)), (3, .int 0), (0, .ref 30), (1, .int (nI k_z)), (2, .int (nI n_z)), (4, .int 0)] [] (zuI (zuI τ 33 i_z (τ.1 50 (k_z * 60 + 2 * i_z))) 34 i_z (τ.1 50 (k_z * 60 + (2 * i_z + 1))))
                refine zwk hV [2, 3, 4, 1, 5, 0] rfl ?_
                rw [nI_1]
                refine ihi (i_z + 1) false _ (by omega) ((ht.uI rfl).uI rfl) ?_ (fun j_z hj => ?_)
                · refine ⟨fun c => absurd c (by decide), fun c => ?_⟩
                  exact (zb_eq h_116).symm.trans (hgo.mpr (fun j_z hj => c j_z (by omega)))
                · simp only [zuI_get, e50]
                  by_cases e_z : j_z = i_z
                  · subst e_z; simp
                  · have := hxy j_z (by omega); simp [e_z, this.1, this.2]
              · skip
                refine zq (σ := (zuI (zuI τ 33 i_z (τ.1 50 (k_z * 60 + 2 * i_z))) 34 i_z (τ.1 50 (k_z * 60 + (2 * i_z + 1))))) hV hIτ hnτ 4 ?_
                show vp_in (nI i_z) 10 ∧ V 126 [(0, .ref 30), (1, .int (nI k_z)), (2, .int (nI n_z)), (3, .int (zb o)), (4, .int 0), (5, .int (nI i_z))] [.int ((upd (τ.1 33) i_z (τ.1 50 (k_z * 60 + 2 * i_z))) (Int32.toNatClampNeg (nI i_z)))] (zuI (zuI τ 33 i_z (τ.1 50 (k_z * 60 + 2 * i_z))) 34 i_z (τ.1 50 (k_z * 60 + (2 * i_z + 1))))
                refine ⟨zix (k := i_z) rfl (by omega) (by decide), ?_⟩
                rw [zcl_k (i := (nI i_z)) (k := i_z) rfl (by omega)]
                rw [pk_us]
                refine zq (σ := (zuI (zuI τ 33 i_z (τ.1 50 (k_z * 60 + 2 * i_z))) 34 i_z (τ.1 50 (k_z * 60 + (2 * i_z + 1))))) hV hIτ hnτ 4 ?_
                show zSp _ 131 [.long (Int32.toInt64 (τ.1 50 (k_z * 60 + 2 * i_z))), .long (-30), .long 30] (zuI (zuI τ 33 i_z (τ.1 50 (k_z * 60 + 2 * i_z))) 34 i_z (τ.1 50 (k_z * 60 + (2 * i_z + 1)))) (fun r_z σ' => σ'.2.2.2 = (zuI (zuI τ 33 i_z (τ.1 50 (k_z * 60 + 2 * i_z))) 34 i_z (τ.1 50 (k_z * 60 + (2 * i_z + 1)))).2.2.2 + zAl 131 → V 136 [(0, .ref 30), (1, .int (nI k_z)), (2, .int (nI n_z)), (3, .int (zb o)), (4, .int 0), (5, .int (nI i_z))] (r_z.toList ++ []) σ')
                refine in_M (lo := (-30)) (hi := 30) (by decide) (by decide) (fun hb3 _ => ?_) (fun hb3 _ => ?_)
                · skip
                  refine zq (σ := (zuI (zuI τ 33 i_z (τ.1 50 (k_z * 60 + 2 * i_z))) 34 i_z (τ.1 50 (k_z * 60 + (2 * i_z + 1))))) hV hIτ hnτ 1 ?_
                  show ((1 : Int32) = 0 → V 163 [(0, .ref 30), (1, .int (nI k_z)), (2, .int (nI n_z)), (3, .int (zb o)), (4, .int 0), (5, .int (nI i_z))] [] (zuI (zuI τ 33 i_z (τ.1 50 (k_z * 60 + 2 * i_z))) 34 i_z (τ.1 50 (k_z * 60 + (2 * i_z + 1))))) ∧ (¬ (1 : Int32) = 0 → V 139 [(0, .ref 30), (1, .int (nI k_z)), (2, .int (nI n_z)), (3, .int (zb o)), (4, .int 0), (5, .int (nI i_z))] [] (zuI (zuI τ 33 i_z (τ.1 50 (k_z * 60 + 2 * i_z))) 34 i_z (τ.1 50 (k_z * 60 + (2 * i_z + 1)))))
                  refine ⟨fun hc_z => absurd hc_z (by decide), fun _ => ?_⟩
                  refine zq (σ := (zuI (zuI τ 33 i_z (τ.1 50 (k_z * 60 + 2 * i_z))) 34 i_z (τ.1 50 (k_z * 60 + (2 * i_z + 1))))) hV hIτ hnτ 4 ?_
                  show vp_in (nI i_z) 10 ∧ V 146 [(0, .ref 30), (1, .int (nI k_z)), (2, .int (nI n_z)), (3, .int (zb o)), (4, .int 0), (5, .int (nI i_z))] [.int ((upd (τ.1 34) i_z (τ.1 50 (k_z * 60 + (2 * i_z + 1)))) (Int32.toNatClampNeg (nI i_z)))] (zuI (zuI τ 33 i_z (τ.1 50 (k_z * 60 + 2 * i_z))) 34 i_z (τ.1 50 (k_z * 60 + (2 * i_z + 1))))
                  refine ⟨zix (k := i_z) rfl (by omega) (by decide), ?_⟩
                  rw [zcl_k (i := (nI i_z)) (k := i_z) rfl (by omega)]
                  rw [pk_us]
                  refine zq (σ := (zuI (zuI τ 33 i_z (τ.1 50 (k_z * 60 + 2 * i_z))) 34 i_z (τ.1 50 (k_z * 60 + (2 * i_z + 1))))) hV hIτ hnτ 4 ?_
                  show zSp _ 131 [.long (Int32.toInt64 (τ.1 50 (k_z * 60 + (2 * i_z + 1)))), .long (-30), .long 30] (zuI (zuI τ 33 i_z (τ.1 50 (k_z * 60 + 2 * i_z))) 34 i_z (τ.1 50 (k_z * 60 + (2 * i_z + 1)))) (fun r_z σ' => σ'.2.2.2 = (zuI (zuI τ 33 i_z (τ.1 50 (k_z * 60 + 2 * i_z))) 34 i_z (τ.1 50 (k_z * 60 + (2 * i_z + 1)))).2.2.2 + zAl 131 → V 156 [(0, .ref 30), (1, .int (nI k_z)), (2, .int (nI n_z)), (3, .int (zb o)), (4, .int 0), (5, .int (nI i_z))] (r_z.toList ++ []) σ')
                  refine in_M (lo := (-30)) (hi := 30) (by decide) (by decide) (fun hb4 _ => ?_) (fun hb4 _ => ?_)
                  · skip
                    refine zq (σ := (zuI (zuI τ 33 i_z (τ.1 50 (k_z * 60 + 2 * i_z))) 34 i_z (τ.1 50 (k_z * 60 + (2 * i_z + 1))))) hV hIτ hnτ 1 ?_
                    show ((1 : Int32) = 0 → V 163 [(0, .ref 30), (1, .int (nI k_z)), (2, .int (nI n_z)), (3, .int (zb o)), (4, .int 0), (5, .int (nI i_z))] [] (zuI (zuI τ 33 i_z (τ.1 50 (k_z * 60 + 2 * i_z))) 34 i_z (τ.1 50 (k_z * 60 + (2 * i_z + 1))))) ∧ (¬ (1 : Int32) = 0 → V 159 [(0, .ref 30), (1, .int (nI k_z)), (2, .int (nI n_z)), (3, .int (zb o)), (4, .int 0), (5, .int (nI i_z))] [] (zuI (zuI τ 33 i_z (τ.1 50 (k_z * 60 + 2 * i_z))) 34 i_z (τ.1 50 (k_z * 60 + (2 * i_z + 1)))))
                    refine ⟨fun hc_z => absurd hc_z (by decide), fun _ => ?_⟩
                    refine zq (σ := (zuI (zuI τ 33 i_z (τ.1 50 (k_z * 60 + 2 * i_z))) 34 i_z (τ.1 50 (k_z * 60 + (2 * i_z + 1))))) hV hIτ hnτ 5 ?_
                    show V 65 [(5, .int ((nI i_z) + 1)), (3, .int 1), (0, .ref 30), (1, .int (nI k_z)), (2, .int (nI n_z)), (4, .int 0)] [] (zuI (zuI τ 33 i_z (τ.1 50 (k_z * 60 + 2 * i_z))) 34 i_z (τ.1 50 (k_z * 60 + (2 * i_z + 1))))
                    refine zwk hV [2, 3, 4, 1, 5, 0] rfl ?_
                    rw [nI_1]
                    refine ihi (i_z + 1) true _ (by omega) ((ht.uI rfl).uI rfl) ?_ (fun j_z hj => ?_)
                    · refine ⟨fun _ j_z hj => ?_, fun _ => rfl⟩
                      rw [e50] at hb3 hb4
                      by_cases e_z : j_z = 2 * i_z
                      · rw [e_z]; exact hb3
                      · by_cases e2_z : j_z = 2 * i_z + 1
                        · rw [e2_z]; exact hb4
                        · exact hgo.mp (zb_ne h_116) j_z (by omega)
                    · simp only [zuI_get, e50]
                      by_cases e_z : j_z = i_z
                      · subst e_z; simp
                      · have := hxy j_z (by omega); simp [e_z, this.1, this.2]
                  · skip
                    refine zq (σ := (zuI (zuI τ 33 i_z (τ.1 50 (k_z * 60 + 2 * i_z))) 34 i_z (τ.1 50 (k_z * 60 + (2 * i_z + 1))))) hV hIτ hnτ 1 ?_
                    show ((0 : Int32) = 0 → V 163 [(0, .ref 30), (1, .int (nI k_z)), (2, .int (nI n_z)), (3, .int (zb o)), (4, .int 0), (5, .int (nI i_z))] [] (zuI (zuI τ 33 i_z (τ.1 50 (k_z * 60 + 2 * i_z))) 34 i_z (τ.1 50 (k_z * 60 + (2 * i_z + 1))))) ∧ (¬ (0 : Int32) = 0 → V 159 [(0, .ref 30), (1, .int (nI k_z)), (2, .int (nI n_z)), (3, .int (zb o)), (4, .int 0), (5, .int (nI i_z))] [] (zuI (zuI τ 33 i_z (τ.1 50 (k_z * 60 + 2 * i_z))) 34 i_z (τ.1 50 (k_z * 60 + (2 * i_z + 1)))))
                    refine ⟨fun _ => ?_, fun hc_z => absurd (by decide) hc_z⟩
                    refine zq (σ := (zuI (zuI τ 33 i_z (τ.1 50 (k_z * 60 + 2 * i_z))) 34 i_z (τ.1 50 (k_z * 60 + (2 * i_z + 1))))) hV hIτ hnτ 4 ?_
                    show V 65 [(5, .int ((nI i_z) + 1)), (3, .int 0), (0, .ref 30), (1, .int (nI k_z)), (2, .int (nI n_z)), (4, .int 0)] [] (zuI (zuI τ 33 i_z (τ.1 50 (k_z * 60 + 2 * i_z))) 34 i_z (τ.1 50 (k_z * 60 + (2 * i_z + 1))))
                    refine zwk hV [2, 3, 4, 1, 5, 0] rfl ?_
                    rw [nI_1]
                    refine ihi (i_z + 1) false _ (by omega) ((ht.uI rfl).uI rfl) ?_ (fun j_z hj => ?_)
                    · refine ⟨fun c => absurd c (by decide), fun c => ?_⟩
                      rw [e50] at hb4
                      exact absurd (c (2 * i_z + 1) (by omega)) hb4
                    · simp only [zuI_get, e50]
                      by_cases e_z : j_z = i_z
                      · subst e_z; simp
                      · have := hxy j_z (by omega); simp [e_z, this.1, this.2]
                · skip
                  refine zq (σ := (zuI (zuI τ 33 i_z (τ.1 50 (k_z * 60 + 2 * i_z))) 34 i_z (τ.1 50 (k_z * 60 + (2 * i_z + 1))))) hV hIτ hnτ 1 ?_
                  show ((0 : Int32) = 0 → V 163 [(0, .ref 30), (1, .int (nI k_z)), (2, .int (nI n_z)), (3, .int (zb o)), (4, .int 0), (5, .int (nI i_z))] [] (zuI (zuI τ 33 i_z (τ.1 50 (k_z * 60 + 2 * i_z))) 34 i_z (τ.1 50 (k_z * 60 + (2 * i_z + 1))))) ∧ (¬ (0 : Int32) = 0 → V 139 [(0, .ref 30), (1, .int (nI k_z)), (2, .int (nI n_z)), (3, .int (zb o)), (4, .int 0), (5, .int (nI i_z))] [] (zuI (zuI τ 33 i_z (τ.1 50 (k_z * 60 + 2 * i_z))) 34 i_z (τ.1 50 (k_z * 60 + (2 * i_z + 1)))))
                  refine ⟨fun _ => ?_, fun hc_z => absurd (by decide) hc_z⟩
                  refine zq (σ := (zuI (zuI τ 33 i_z (τ.1 50 (k_z * 60 + 2 * i_z))) 34 i_z (τ.1 50 (k_z * 60 + (2 * i_z + 1))))) hV hIτ hnτ 4 ?_
                  show V 65 [(5, .int ((nI i_z) + 1)), (3, .int 0), (0, .ref 30), (1, .int (nI k_z)), (2, .int (nI n_z)), (4, .int 0)] [] (zuI (zuI τ 33 i_z (τ.1 50 (k_z * 60 + 2 * i_z))) 34 i_z (τ.1 50 (k_z * 60 + (2 * i_z + 1))))
                  refine zwk hV [2, 3, 4, 1, 5, 0] rfl ?_
                  rw [nI_1]
                  refine ihi (i_z + 1) false _ (by omega) ((ht.uI rfl).uI rfl) ?_ (fun j_z hj => ?_)
                  · refine ⟨fun c => absurd c (by decide), fun c => ?_⟩
                    rw [e50] at hb3
                    exact absurd (c (2 * i_z) (by omega)) hb3
                  · simp only [zuI_get, e50]
                    by_cases e_z : j_z = i_z
                    · subst e_z; simp
                    · have := hxy j_z (by omega); simp [e_z, this.1, this.2]
          exact Hi n_z 0 true σ (by omega) zOnly.rf ⟨fun _ j_z hj => by omega, fun _ => rfl⟩ (fun j_z q_z => absurd q_z (Nat.not_lt_zero j_z))
        · skip
          refine zq (σ := σ) hV hI rfl 3 ?_
          show zSp _ 186 [.ref 30, .int 2] σ (fun r_z σ' => σ'.2.2.2 = σ.2.2.2 + zAl 186 → V 56 [(0, .ref 30), (1, .int (nI k_z)), (2, .int (nI n_z))] (r_z.toList ++ []) σ')
          refine met_M hI (fun _ => ?_)
          refine zq (σ := (zuI σ 30 35 2)) hV hI rfl 1 ?_
          show K (some (.int ((-10) - 2))) (zuI σ 30 35 2)
          have hll : ¬ 2 * n_z ≤ l := by rw [hl, show (2 : Int32) * nI n_z = nI (2 * n_z) from zn_m (a := 2) rfl rfl, nI_leI (by omega) (by omega)] at h_48; exact h_48
          exact hIndex k_z n_z l rfl hk4 rfl hn10 h_30 hl hl60 (by omega)
      · skip
        refine zq (σ := σ) hV hI rfl 3 ?_
        show zSp _ 186 [.ref 30, .int 1] σ (fun r_z σ' => σ'.2.2.2 = σ.2.2.2 + zAl 186 → V 38 [(0, .ref 30), (1, .int (nI k_z)), (2, .int (nI n_z))] (r_z.toList ++ []) σ')
        refine met_M hI (fun _ => ?_)
        refine zq (σ := (zuI σ 30 35 1)) hV hI rfl 1 ?_
        show K (some (.int ((-10) - 1))) (zuI σ 30 35 1)
        exact hNull k_z n_z rfl hk4 rfl hn10 h_30
    · skip
      refine zq (σ := σ) hV hI rfl 1 ?_
      show (¬ (0 : Int32) = 0 → V 24 [(0, .ref 30), (1, .int s), (2, .int c)] [] σ) ∧ (¬ (¬ (0 : Int32) = 0) → V 21 [(0, .ref 30), (1, .int s), (2, .int c)] [] σ)
      refine ⟨fun hc_z => absurd hc_z (by decide), fun _ => ?_⟩
      refine zq (σ := σ) hV hI rfl 2 ?_
      show K (some (.int (-2))) σ
      exact hBad (fun q_z => hb2 q_z.2)
  · skip
    refine zq (σ := σ) hV hI rfl 1 ?_
    show ((0 : Int32) = 0 → V 21 [(0, .ref 30), (1, .int s), (2, .int c)] [] σ) ∧ (¬ (0 : Int32) = 0 → V 7 [(0, .ref 30), (1, .int s), (2, .int c)] [] σ)
    refine ⟨fun _ => ?_, fun hc_z => absurd (by decide) hc_z⟩
    refine zq (σ := σ) hV hI rfl 2 ?_
    show K (some (.int (-2))) σ
    exact hBad (fun q_z => hb1 q_z.1)
