variable {zx : Nat × (Nat → Int32)}
set_option maxRecDepth 8000 in
set_option maxHeartbeats 4000000 in
theorem isStand_ok {d : Nat} {σ : zSt} {K : Option Value → zSt → Prop} {e k : Int32} {n : Nat} (hI : zQI (kR 0 30) σ.2.2) (hn : σ.1 1 2 = nI n) (hn10 : n ≤ 10) (h1 : (zBt 0 (n - 1) e ∧ zBt 0 8 k) → K (some (.int 1)) σ) (h0 : ¬ (zBt 0 (n - 1) e ∧ zBt 0 8 k) → K (some (.int 0)) σ) : zSp zx (d + 2) mX8_isStand [.ref 0, .int e, .int k] σ K := by
  refine ⟨⟨by decide, Nat.le_of_ble_eq_true rfl⟩, fun V hV => ?_⟩
  have hni := nI_toInt (show n < 2 ^ 31 by omega)
  refine zq (σ := σ) hV hI rfl 2 ?_
  show (e < 0 → V 29 [(0, .ref 0), (1, .int e), (2, .int k)] [] σ) ∧ (¬ e < 0 → V 4 [(0, .ref 0), (1, .int e), (2, .int k)] [] σ)
  refine ⟨fun h_1 => ?_, fun h_1 => ?_⟩
  · skip
    refine zq (σ := σ) hV hI rfl 2 ?_
    show ((0 : Int32) = 0 ∨ (0 : Int32) = 1) ∧ K (some (.int 0)) σ
    refine ⟨by decide, ?_⟩
    refine h0 (by
      simp only [zlt, zle, hn, hni] at h_1
      unfold zBt
      simp at h_1 ⊢
      omega)
  · skip
    refine zq (σ := σ) hV hI rfl 4 ?_
    show zSp _ _ 16 [.ref 1] σ (fun r σ' => σ'.2.2.2 = σ.2.2.2 + zAl 16 → V 12 [(0, .ref 0), (1, .int e), (2, .int k)] (r.toList ++ [.int e]) σ')
    refine corners_ok (zR_of hI rfl rfl) (fun _ => ?_)
    refine zq (σ := σ) hV hI rfl 1 ?_
    show ((σ.1 1 2) ≤ e → V 29 [(0, .ref 0), (1, .int e), (2, .int k)] [] σ) ∧ (¬ (σ.1 1 2) ≤ e → V 15 [(0, .ref 0), (1, .int e), (2, .int k)] [] σ)
    refine ⟨fun h_12 => ?_, fun h_12 => ?_⟩
    · skip
      refine zq (σ := σ) hV hI rfl 2 ?_
      show ((0 : Int32) = 0 ∨ (0 : Int32) = 1) ∧ K (some (.int 0)) σ
      refine ⟨by decide, ?_⟩
      refine h0 (by
        simp only [zlt, zle, hn, hni] at h_1 h_12
        unfold zBt
        simp at h_1 h_12 ⊢
        omega)
    · skip
      refine zq (σ := σ) hV hI rfl 2 ?_
      show (k < 0 → V 29 [(0, .ref 0), (1, .int e), (2, .int k)] [] σ) ∧ (¬ k < 0 → V 19 [(0, .ref 0), (1, .int e), (2, .int k)] [] σ)
      refine ⟨fun h_16 => ?_, fun h_16 => ?_⟩
      · skip
        refine zq (σ := σ) hV hI rfl 2 ?_
        show ((0 : Int32) = 0 ∨ (0 : Int32) = 1) ∧ K (some (.int 0)) σ
        refine ⟨by decide, ?_⟩
        refine h0 (by
          simp only [zlt, zle, hn, hni] at h_1 h_12 h_16
          unfold zBt
          simp at h_1 h_12 h_16 ⊢
          omega)
      · skip
        refine zq (σ := σ) hV hI rfl 3 ?_
        show (8 < k → V 29 [(0, .ref 0), (1, .int e), (2, .int k)] [] σ) ∧ (¬ 8 < k → V 25 [(0, .ref 0), (1, .int e), (2, .int k)] [] σ)
        refine ⟨fun h_22 => ?_, fun h_22 => ?_⟩
        · skip
          refine zq (σ := σ) hV hI rfl 2 ?_
          show ((0 : Int32) = 0 ∨ (0 : Int32) = 1) ∧ K (some (.int 0)) σ
          refine ⟨by decide, ?_⟩
          refine h0 (by
            simp only [zlt, zle, hn, hni] at h_1 h_12 h_16 h_22
            unfold zBt
            simp at h_1 h_12 h_16 h_22 ⊢
            omega)
        · skip
          refine zq (σ := σ) hV hI rfl 3 ?_
          show ((1 : Int32) = 0 ∨ (1 : Int32) = 1) ∧ K (some (.int 1)) σ
          refine ⟨by decide, ?_⟩
          refine h1 (by
            simp only [zlt, zle, hn, hni] at h_1 h_12 h_16 h_22
            unfold zBt
            simp at h_1 h_12 h_16 h_22 ⊢
            omega)
set_option maxRecDepth 8000 in
set_option maxHeartbeats 4000000 in
theorem gsize_ok {d : Nat} {σ : zSt} {K : Option Value → zSt → Prop} (hI : zQI (kR 21 24) σ.2.2) (hK : K (some (.int (σ.1 21 2))) σ) : zSp zx (d + 1) mX1_size [.ref 21] σ K := by
  refine ⟨⟨by decide, Nat.le_of_ble_eq_true rfl⟩, fun V hV => ?_⟩
  refine zq (σ := σ) hV hI rfl 3 ?_
  show K (some (.int (σ.1 21 2))) σ
  exact hK
set_option maxRecDepth 8000 in
set_option maxHeartbeats 4000000 in
theorem bdropped_ok {d : Nat} {σ : zSt} {K : Option Value → zSt → Prop} (hI : zQI (kR 24 26) σ.2.2) (hK : K (some (.int (σ.1 24 2))) σ) : zSp zx (d + 1) mX0_dropped [.ref 24] σ K := by
  refine ⟨⟨by decide, Nat.le_of_ble_eq_true rfl⟩, fun V hV => ?_⟩
  refine zq (σ := σ) hV hI rfl 3 ?_
  show K (some (.int (σ.1 24 2))) σ
  exact hK
set_option maxRecDepth 8000 in
set_option maxHeartbeats 4000000 in
theorem isFinger_ok {d : Nat} {σ : zSt} {K : Option Value → zSt → Prop} {v : Int32} {m : Nat} (hI : zQI (kR 0 30) σ.2.2) (hs : σ.1 4 2 = nI m) (hm : m ≤ 16) (h1 : zBt 0 (m - 1) v → K (some (.int 1)) σ) (h0 : ¬ zBt 0 (m - 1) v → K (some (.int 0)) σ) : zSp zx (d + 2) mX8_isFinger [.ref 0, .int v] σ K := by
  refine ⟨⟨by decide, Nat.le_of_ble_eq_true rfl⟩, fun V hV => ?_⟩
  have hni := nI_toInt (show m < 2 ^ 31 by omega)
  refine zq (σ := σ) hV hI rfl 2 ?_
  show (v < 0 → V 19 [(0, .ref 0), (1, .int v)] [] σ) ∧ (¬ v < 0 → V 4 [(0, .ref 0), (1, .int v)] [] σ)
  refine ⟨fun h_1 => ?_, fun h_1 => ?_⟩
  · skip
    refine zq (σ := σ) hV hI rfl 2 ?_
    show ((0 : Int32) = 0 ∨ (0 : Int32) = 1) ∧ K (some (.int 0)) σ
    refine ⟨by decide, ?_⟩
    refine h0 (by
      simp only [zlt, zle, hs, hni] at h_1
      unfold zBt
      simp at h_1 ⊢
      omega)
  · skip
    refine zq (σ := σ) hV hI rfl 4 ?_
    show zSp _ _ 6 [.ref 4] σ (fun r σ' => σ'.2.2.2 = σ.2.2.2 + zAl 6 → V 12 [(0, .ref 0), (1, .int v)] (r.toList ++ [.int v]) σ')
    refine hsize_4 (zR_of hI rfl rfl) (fun _ => ?_)
    refine zq (σ := σ) hV hI rfl 1 ?_
    show ((σ.1 4 2) ≤ v → V 19 [(0, .ref 0), (1, .int v)] [] σ) ∧ (¬ (σ.1 4 2) ≤ v → V 15 [(0, .ref 0), (1, .int v)] [] σ)
    refine ⟨fun h_12 => ?_, fun h_12 => ?_⟩
    · skip
      refine zq (σ := σ) hV hI rfl 2 ?_
      show ((0 : Int32) = 0 ∨ (0 : Int32) = 1) ∧ K (some (.int 0)) σ
      refine ⟨by decide, ?_⟩
      refine h0 (by
        simp only [zlt, zle, hs, hni] at h_1 h_12
        unfold zBt
        simp at h_1 h_12 ⊢
        omega)
    · skip
      refine zq (σ := σ) hV hI rfl 3 ?_
      show ((1 : Int32) = 0 ∨ (1 : Int32) = 1) ∧ K (some (.int 1)) σ
      refine ⟨by decide, ?_⟩
      refine h1 (by
        simp only [zlt, zle, hs, hni] at h_1 h_12
        unfold zBt
        simp at h_1 h_12 ⊢
        omega)
set_option maxRecDepth 8000 in
set_option maxHeartbeats 4000000 in
theorem isHeldBy_4 {d : Nat} {σ : zSt} {K : Option Value → zSt → Prop} {n m : Nat} (hI : zQI (kR 0 30) σ.2.2) (hn : σ.1 1 2 = nI n) (hn10 : n ≤ 10) (hs : σ.1 4 2 = nI m) (hm : m ≤ 8) (hE : ∀ i, i < m → ∃ e, σ.1 5 i = nI e ∧ e < n) (h1 : ∀ τ, zOnly zfW σ τ → zHo n (σ.1 2) (σ.1 3) (σ.1 0 9) (σ.1 5) (σ.1 6) m → K (some (.int 1)) τ) (h0 : ∀ τ, zOnly zfW σ τ → ¬ zHo n (σ.1 2) (σ.1 3) (σ.1 0 9) (σ.1 5) (σ.1 6) m → K (some (.int 0)) τ) : zSp zx (d + 4) mX8_isHeldBy [.ref 0, .ref 4] σ K := by
  refine ⟨⟨by decide, Nat.le_of_ble_eq_true rfl⟩, fun V hV => ?_⟩
  refine zq (σ := σ) hV hI rfl 8 ?_
  show zSp _ _ 46 [.ref 10, .ref 4, .ref 1, .int (σ.1 0 9)] σ (fun r σ' => σ'.2.2.2 = σ.2.2.2 + zAl 46 → V 16 [(0, .ref 0), (1, .ref 4)] (r.toList ++ []) σ')
  refine press_4 (zR_of hI rfl rfl) hn hn10 hs hm hE (fun τ ht h10 hT _ => ?_)
  have hIt := zQI_eq hI ht.2.2
  have hnt : τ.2.2.2 = σ.2.2.2 := congrArg Prod.snd ht.2.2
  refine zq (σ := τ) hV hIt hnt 3 ?_
  show zSp _ _ 48 [.ref 10] τ (fun r σ' => σ'.2.2.2 = τ.2.2.2 + zAl 48 → V 23 [(0, .ref 0), (1, .ref 4)] (r.toList ++ []) σ')
  refine spread_ok (zR_of hIt rfl rfl) (m := zMl (σ.1 0 9) m) h10 (zMl_le hm) (fun υ hu hq _ => ?_) (fun υ hu hq _ => ?_) (fun υ u v hu hq j4 j5 j6 _ => ?_)
  · skip
    have hto : zOnly zfW σ υ := (ht.wk zfT_W).tr (hu.wk zfJ_W)
    have hIu := zQI_eq hI hto.2.2
    have hnu : υ.2.2.2 = σ.2.2.2 := congrArg Prod.snd hto.2.2
    refine zq (σ := υ) hV hIu hnu 2 ?_
    show (¬ (2 : Int32) = 2 → V 31 [(0, .ref 0), (1, .ref 4)] [] υ) ∧ (¬ (¬ (2 : Int32) = 2) → V 27 [(0, .ref 0), (1, .ref 4)] [] υ)
    refine ⟨fun hc => absurd hc (by decide), fun _ => ?_⟩
    refine zq (σ := υ) hV hIu hnu 3 ?_
    show ((1 : Int32) = 0 ∨ (1 : Int32) = 1) ∧ K (some (.int 1)) υ
    refine ⟨by decide, ?_⟩
    exact h1 υ hto ((zHold_congr (zTok_l hT)).mp hq)
  · skip
    have hto : zOnly zfW σ υ := (ht.wk zfT_W).tr (hu.wk zfJ_W)
    have hIu := zQI_eq hI hto.2.2
    have hnu : υ.2.2.2 = σ.2.2.2 := congrArg Prod.snd hto.2.2
    refine zq (σ := υ) hV hIu hnu 2 ?_
    show (¬ (0 : Int32) = 2 → V 31 [(0, .ref 0), (1, .ref 4)] [] υ) ∧ (¬ (¬ (0 : Int32) = 2) → V 27 [(0, .ref 0), (1, .ref 4)] [] υ)
    refine ⟨fun _ => ?_, fun hc => absurd (by decide) hc⟩
    refine zq (σ := υ) hV hIu hnu 2 ?_
    show ((0 : Int32) = 0 ∨ (0 : Int32) = 1) ∧ K (some (.int 0)) υ
    refine ⟨by decide, ?_⟩
    exact h0 υ hto (fun q => by
      obtain ⟨⟨u, v, a, b, c⟩, _⟩ := (zHold_congr (zTok_l hT)).mpr q
      exact hq u v a b c)
  · skip
    have hto : zOnly zfW σ υ := (ht.wk zfT_W).tr (hu.wk zfJ_W)
    have hIu := zQI_eq hI hto.2.2
    have hnu : υ.2.2.2 = σ.2.2.2 := congrArg Prod.snd hto.2.2
    cases hbo : (zBe (zA11 τ) (zA12 τ) (zA13 τ) (zMl (σ.1 0 9) m) u v || zAe (zA11 τ) (zA12 τ) (zA13 τ) (zMl (σ.1 0 9) m) u v)
    · skip
      refine zq (σ := υ) hV hIu hnu 2 ?_
      show (¬ (0 : Int32) = 2 → V 31 [(0, .ref 0), (1, .ref 4)] [] υ) ∧ (¬ (¬ (0 : Int32) = 2) → V 27 [(0, .ref 0), (1, .ref 4)] [] υ)
      refine ⟨fun _ => ?_, fun hc => absurd (by decide) hc⟩
      refine zq (σ := υ) hV hIu hnu 2 ?_
      show ((0 : Int32) = 0 ∨ (0 : Int32) = 1) ∧ K (some (.int 0)) υ
      refine ⟨by decide, ?_⟩
      exact h0 υ hto (fun q => zHold_nF ((zHold_congr (zTok_l hT)).mpr q) hq)
    · skip
      refine zq (σ := υ) hV hIu hnu 2 ?_
      show (¬ (1 : Int32) = 2 → V 31 [(0, .ref 0), (1, .ref 4)] [] υ) ∧ (¬ (¬ (1 : Int32) = 2) → V 27 [(0, .ref 0), (1, .ref 4)] [] υ)
      refine ⟨fun _ => ?_, fun hc => absurd (by decide) hc⟩
      refine zq (σ := υ) hV hIu hnu 2 ?_
      show ((0 : Int32) = 0 ∨ (0 : Int32) = 1) ∧ K (some (.int 0)) υ
      refine ⟨by decide, ?_⟩
      exact h0 υ hto (fun q => zHold_nF ((zHold_congr (zTok_l hT)).mpr q) hq)
set_option maxRecDepth 8000 in
set_option maxHeartbeats 4000000 in
theorem isHeldBy_7 {d : Nat} {σ : zSt} {K : Option Value → zSt → Prop} {n m : Nat} (hI : zQI (kR 0 30) σ.2.2) (hn : σ.1 1 2 = nI n) (hn10 : n ≤ 10) (hs : σ.1 7 2 = nI m) (hm : m ≤ 8) (hE : ∀ i, i < m → ∃ e, σ.1 8 i = nI e ∧ e < n) (h1 : ∀ τ, zOnly zfW σ τ → zHo n (σ.1 2) (σ.1 3) (σ.1 0 9) (σ.1 8) (σ.1 9) m → K (some (.int 1)) τ) (h0 : ∀ τ, zOnly zfW σ τ → ¬ zHo n (σ.1 2) (σ.1 3) (σ.1 0 9) (σ.1 8) (σ.1 9) m → K (some (.int 0)) τ) : zSp zx (d + 4) mX8_isHeldBy [.ref 0, .ref 7] σ K := by
  refine ⟨⟨by decide, Nat.le_of_ble_eq_true rfl⟩, fun V hV => ?_⟩
  refine zq (σ := σ) hV hI rfl 8 ?_
  show zSp _ _ 46 [.ref 10, .ref 7, .ref 1, .int (σ.1 0 9)] σ (fun r σ' => σ'.2.2.2 = σ.2.2.2 + zAl 46 → V 16 [(0, .ref 0), (1, .ref 7)] (r.toList ++ []) σ')
  refine press_7 (zR_of hI rfl rfl) hn hn10 hs hm hE (fun τ ht h10 hT _ => ?_)
  have hIt := zQI_eq hI ht.2.2
  have hnt : τ.2.2.2 = σ.2.2.2 := congrArg Prod.snd ht.2.2
  refine zq (σ := τ) hV hIt hnt 3 ?_
  show zSp _ _ 48 [.ref 10] τ (fun r σ' => σ'.2.2.2 = τ.2.2.2 + zAl 48 → V 23 [(0, .ref 0), (1, .ref 7)] (r.toList ++ []) σ')
  refine spread_ok (zR_of hIt rfl rfl) (m := zMl (σ.1 0 9) m) h10 (zMl_le hm) (fun υ hu hq _ => ?_) (fun υ hu hq _ => ?_) (fun υ u v hu hq j4 j5 j6 _ => ?_)
  · skip
    have hto : zOnly zfW σ υ := (ht.wk zfT_W).tr (hu.wk zfJ_W)
    have hIu := zQI_eq hI hto.2.2
    have hnu : υ.2.2.2 = σ.2.2.2 := congrArg Prod.snd hto.2.2
    refine zq (σ := υ) hV hIu hnu 2 ?_
    show (¬ (2 : Int32) = 2 → V 31 [(0, .ref 0), (1, .ref 7)] [] υ) ∧ (¬ (¬ (2 : Int32) = 2) → V 27 [(0, .ref 0), (1, .ref 7)] [] υ)
    refine ⟨fun hc => absurd hc (by decide), fun _ => ?_⟩
    refine zq (σ := υ) hV hIu hnu 3 ?_
    show ((1 : Int32) = 0 ∨ (1 : Int32) = 1) ∧ K (some (.int 1)) υ
    refine ⟨by decide, ?_⟩
    exact h1 υ hto ((zHold_congr (zTok_l hT)).mp hq)
  · skip
    have hto : zOnly zfW σ υ := (ht.wk zfT_W).tr (hu.wk zfJ_W)
    have hIu := zQI_eq hI hto.2.2
    have hnu : υ.2.2.2 = σ.2.2.2 := congrArg Prod.snd hto.2.2
    refine zq (σ := υ) hV hIu hnu 2 ?_
    show (¬ (0 : Int32) = 2 → V 31 [(0, .ref 0), (1, .ref 7)] [] υ) ∧ (¬ (¬ (0 : Int32) = 2) → V 27 [(0, .ref 0), (1, .ref 7)] [] υ)
    refine ⟨fun _ => ?_, fun hc => absurd (by decide) hc⟩
    refine zq (σ := υ) hV hIu hnu 2 ?_
    show ((0 : Int32) = 0 ∨ (0 : Int32) = 1) ∧ K (some (.int 0)) υ
    refine ⟨by decide, ?_⟩
    exact h0 υ hto (fun q => by
      obtain ⟨⟨u, v, a, b, c⟩, _⟩ := (zHold_congr (zTok_l hT)).mpr q
      exact hq u v a b c)
  · skip
    have hto : zOnly zfW σ υ := (ht.wk zfT_W).tr (hu.wk zfJ_W)
    have hIu := zQI_eq hI hto.2.2
    have hnu : υ.2.2.2 = σ.2.2.2 := congrArg Prod.snd hto.2.2
    cases hbo : (zBe (zA11 τ) (zA12 τ) (zA13 τ) (zMl (σ.1 0 9) m) u v || zAe (zA11 τ) (zA12 τ) (zA13 τ) (zMl (σ.1 0 9) m) u v)
    · skip
      refine zq (σ := υ) hV hIu hnu 2 ?_
      show (¬ (0 : Int32) = 2 → V 31 [(0, .ref 0), (1, .ref 7)] [] υ) ∧ (¬ (¬ (0 : Int32) = 2) → V 27 [(0, .ref 0), (1, .ref 7)] [] υ)
      refine ⟨fun _ => ?_, fun hc => absurd (by decide) hc⟩
      refine zq (σ := υ) hV hIu hnu 2 ?_
      show ((0 : Int32) = 0 ∨ (0 : Int32) = 1) ∧ K (some (.int 0)) υ
      refine ⟨by decide, ?_⟩
      exact h0 υ hto (fun q => zHold_nF ((zHold_congr (zTok_l hT)).mpr q) hq)
    · skip
      refine zq (σ := υ) hV hIu hnu 2 ?_
      show (¬ (1 : Int32) = 2 → V 31 [(0, .ref 0), (1, .ref 7)] [] υ) ∧ (¬ (¬ (1 : Int32) = 2) → V 27 [(0, .ref 0), (1, .ref 7)] [] υ)
      refine ⟨fun _ => ?_, fun hc => absurd (by decide) hc⟩
      refine zq (σ := υ) hV hIu hnu 2 ?_
      show ((0 : Int32) = 0 ∨ (0 : Int32) = 1) ∧ K (some (.int 0)) υ
      refine ⟨by decide, ?_⟩
      exact h0 υ hto (fun q => zHold_nF ((zHold_congr (zTok_l hT)).mpr q) hq)
set_option maxRecDepth 8000 in
set_option maxHeartbeats 4000000 in
theorem holds_C {d : Nat} {σ : zSt} {K : Option Value → zSt → Prop} {n m : Nat} (hI : zQI (kR 0 30) σ.2.2) (hn : σ.1 1 2 = nI n) (hn10 : n ≤ 10) (hs : σ.1 4 2 = nI m) (hm : m ≤ 8) (hE : ∀ i, i < m → ∃ e, σ.1 5 i = nI e ∧ e < n) (h1 : ∀ τ, zOnly zfW σ τ → zHo n (σ.1 2) (σ.1 3) (σ.1 0 9) (σ.1 5) (σ.1 6) m → K (some (.int 1)) τ) (h0 : ∀ τ, zOnly zfW σ τ → ¬ zHo n (σ.1 2) (σ.1 3) (σ.1 0 9) (σ.1 5) (σ.1 6) m → K (some (.int 0)) τ) : zSp zx (d + 5) mX8_holds [.ref 0] σ K := by
  refine ⟨⟨by decide, Nat.le_of_ble_eq_true rfl⟩, fun V hV => ?_⟩
  refine zq (σ := σ) hV hI rfl 4 ?_
  show zSp _ _ 65 [.ref 0, .ref 4] σ (fun r σ' => σ'.2.2.2 = σ.2.2.2 + zAl 65 → V 8 [(0, .ref 0)] (r.toList ++ []) σ')
  refine isHeldBy_4 (zR_of hI rfl rfl) hn hn10 hs hm hE (fun υ hu hq _ => ?_) (fun υ hu hq _ => ?_)
  · skip
    have hIu := zQI_eq hI hu.2.2
    have hnu : υ.2.2.2 = σ.2.2.2 := (congrArg Prod.snd hu.2.2).trans rfl
    refine zq (σ := υ) hV hIu hnu 1 ?_
    show ((1 : Int32) = 0 → V 15 [(0, .ref 0)] [] υ) ∧ (¬ (1 : Int32) = 0 → V 11 [(0, .ref 0)] [] υ)
    refine ⟨fun hc => absurd hc (by decide), fun _ => ?_⟩
    refine zq (σ := υ) hV hIu hnu 3 ?_
    show K (some (.int 1)) υ
    exact h1 υ hu hq
  · skip
    have hIu := zQI_eq hI hu.2.2
    have hnu : υ.2.2.2 = σ.2.2.2 := (congrArg Prod.snd hu.2.2).trans rfl
    refine zq (σ := υ) hV hIu hnu 1 ?_
    show ((0 : Int32) = 0 → V 15 [(0, .ref 0)] [] υ) ∧ (¬ (0 : Int32) = 0 → V 11 [(0, .ref 0)] [] υ)
    refine ⟨fun _ => ?_, fun hc => absurd (by decide) hc⟩
    refine zq (σ := υ) hV hIu hnu 2 ?_
    show K (some (.int 0)) υ
    exact h0 υ hu hq
def zRf (c : Int32) : Int64 := -9223372036854775808 - Int32.toInt64 c
set_option maxRecDepth 8000 in
set_option maxHeartbeats 4000000 in
theorem refusal_ok {d : Nat} {σ : zSt} {K : Option Value → zSt → Prop} {c : Int32} (hK : K (some (.long (zRf c))) σ) : zSp zx (d + 1) mX8_refusal [.int c] σ K := by
  refine ⟨⟨by decide, Nat.le_of_ble_eq_true rfl⟩, fun V hV => ?_⟩
  refine zq (σ := σ) hV zQI_0 rfl 5 ?_
  show K (some (.long ((-9223372036854775808) - (Int32.toInt64 c)))) σ
  exact hK
set_option maxRecDepth 8000 in
set_option maxHeartbeats 4000000 in
theorem push_C {d : Nat} {σ : zSt} {K : Option Value → zSt → Prop} {t w : Int32} {n m : Nat} (hI : zQI (kR 0 30) σ.2.2) (hn : σ.1 1 2 = nI n) (hn10 : n ≤ 10) (hs : σ.1 4 2 = nI m) (hm : m ≤ 8) (hE : ∀ i, i < m → ∃ e, σ.1 5 i = nI e ∧ e < n) (hBad : ∀ τ, zOnly zfW σ τ → ¬ (zBt 0 (zMl (σ.1 0 9) m - 1) t ∧ zBt 0 2 w) → K (some (.long (zRf (-2)))) τ) (hOk : ∀ τ k, zOnly zfW σ τ → t = nI k → k < zMl (σ.1 0 9) m → zBt 0 2 w → K (some (.long (Int32.toInt64 (if w = 0 then zT1 n (σ.1 2) (σ.1 3) (σ.1 0 9) (σ.1 5) k else if w = 1 then zT2 n (σ.1 2) (σ.1 3) (σ.1 0 9) (σ.1 5) k else zT3 n (σ.1 2) (σ.1 3) (σ.1 0 9) (σ.1 5) (σ.1 6) k)))) τ) : zSp zx (d + 4) mX8_push [.ref 0, .int t, .int w] σ K := by
  refine ⟨⟨by decide, Nat.le_of_ble_eq_true rfl⟩, fun V hV => ?_⟩
  refine zq (σ := σ) hV hI rfl 9 ?_
  show zSp _ _ 46 [.ref 10, .ref 4, .ref 1, .int (σ.1 0 9)] σ (fun r σ' => σ'.2.2.2 = σ.2.2.2 + zAl 46 → V 19 [(0, .ref 0), (1, .int t), (2, .int w)] (r.toList ++ []) σ')
  refine press_4 (zR_of hI rfl rfl) hn hn10 hs hm hE (fun τ ht h10 hT _ => ?_)
  have hIt := zQI_eq hI ht.2.2
  have hnt : τ.2.2.2 = σ.2.2.2 := congrArg Prod.snd ht.2.2
  refine zq (σ := τ) hV hIt hnt 2 ?_
  show (t < 0 → V 41 [(0, .ref 0), (1, .int t), (2, .int w)] [] τ) ∧ (¬ t < 0 → V 23 [(0, .ref 0), (1, .int t), (2, .int w)] [] τ)
  refine ⟨fun h_20 => ?_, fun h_20 => ?_⟩
  · skip
    refine zq (σ := τ) hV hIt hnt 2 ?_
    show zSp _ _ 72 [.int (-2)] τ (fun r σ' => σ'.2.2.2 = τ.2.2.2 + zAl 72 → V 46 [(0, .ref 0), (1, .int t), (2, .int w)] (r.toList ++ []) σ')
    refine refusal_ok  (fun _ => ?_)
    refine zq (σ := τ) hV hIt hnt 1 ?_
    show K (some (.long (zRf (-2)))) τ
    have hto := ht.wk zfT_W
    refine hBad τ hto (fun q => ?_)
    obtain ⟨⟨q1, q2⟩, q3⟩ := q
    have hml := @zMl_le (σ.1 0 9) m hm
    simp only [zlt, zle, h10, nI_toInt (show zMl (σ.1 0 9) m < 2 ^ 31 by omega)] at h_20
    simp at h_20
    omega
  · skip
    refine zq (σ := τ) hV hIt hnt 4 ?_
    show zSp _ _ 44 [.ref 10] τ (fun r σ' => σ'.2.2.2 = τ.2.2.2 + zAl 44 → V 31 [(0, .ref 0), (1, .int t), (2, .int w)] (r.toList ++ [.int t]) σ')
    refine tsize_ok (zR_of hIt rfl rfl) (fun _ => ?_)
    refine zq (σ := τ) hV hIt hnt 1 ?_
    show ((τ.1 10 3) ≤ t → V 41 [(0, .ref 0), (1, .int t), (2, .int w)] [] τ) ∧ (¬ (τ.1 10 3) ≤ t → V 34 [(0, .ref 0), (1, .int t), (2, .int w)] [] τ)
    refine ⟨fun h_31 => ?_, fun h_31 => ?_⟩
    · skip
      refine zq (σ := τ) hV hIt hnt 2 ?_
      show zSp _ _ 72 [.int (-2)] τ (fun r σ' => σ'.2.2.2 = τ.2.2.2 + zAl 72 → V 46 [(0, .ref 0), (1, .int t), (2, .int w)] (r.toList ++ []) σ')
      refine refusal_ok  (fun _ => ?_)
      refine zq (σ := τ) hV hIt hnt 1 ?_
      show K (some (.long (zRf (-2)))) τ
      have hto := ht.wk zfT_W
      refine hBad τ hto (fun q => ?_)
      obtain ⟨⟨q1, q2⟩, q3⟩ := q
      have hml := @zMl_le (σ.1 0 9) m hm
      simp only [zlt, zle, h10, nI_toInt (show zMl (σ.1 0 9) m < 2 ^ 31 by omega)] at h_20 h_31
      simp at h_20 h_31
      omega
    · skip
      refine zq (σ := τ) hV hIt hnt 2 ?_
      show zSp _ _ 74 [.int w] τ (fun r σ' => σ'.2.2.2 = τ.2.2.2 + zAl 74 → V 38 [(0, .ref 0), (1, .int t), (2, .int w)] (r.toList ++ []) σ')
      refine isTriplePart_ok (fun hb1 _ => ?_) (fun hb1 _ => ?_)
      · skip
        refine zq (σ := τ) hV hIt hnt 1 ?_
        show (¬ (1 : Int32) = 0 → V 47 [(0, .ref 0), (1, .int t), (2, .int w)] [] τ) ∧ (¬ (¬ (1 : Int32) = 0) → V 41 [(0, .ref 0), (1, .int t), (2, .int w)] [] τ)
        refine ⟨fun _ => ?_, fun hc => absurd (by decide) hc⟩
        refine zq (σ := τ) hV hIt hnt 5 ?_
        show zSp _ _ 45 [.ref 10, .int t, .int w] τ (fun r σ' => σ'.2.2.2 = τ.2.2.2 + zAl 45 → V 56 [(0, .ref 0), (1, .int t), (2, .int w)] (r.toList ++ []) σ')
        obtain ⟨k, hk, hk2, _⟩ := zNat (x := t) (by simp only [zlt] at h_20; simp at h_20; omega)
        have hkm : k < zMl (σ.1 0 9) m := by rw [h10, hk, nI_leI (by have := @zMl_le (σ.1 0 9) m hm; omega) (by omega)] at h_31; omega
        have hml := @zMl_le (σ.1 0 9) m hm
        refine tpart_ok (zR_of hIt rfl rfl) hk (by omega) (fun _ => ?_)
        rw [(hT k hkm).1, (hT k hkm).2.1, (hT k hkm).2.2]
        refine zq (σ := τ) hV hIt hnt 2 ?_
        show K (some (.long (Int32.toInt64 (if w = 0 then zT1 n (σ.1 2) (σ.1 3) (σ.1 0 9) (σ.1 5) k else if w = 1 then zT2 n (σ.1 2) (σ.1 3) (σ.1 0 9) (σ.1 5) k else zT3 n (σ.1 2) (σ.1 3) (σ.1 0 9) (σ.1 5) (σ.1 6) k)))) τ
        have hto := ht.wk zfT_W
        exact hOk τ k hto hk hkm hb1
      · skip
        refine zq (σ := τ) hV hIt hnt 1 ?_
        show (¬ (0 : Int32) = 0 → V 47 [(0, .ref 0), (1, .int t), (2, .int w)] [] τ) ∧ (¬ (¬ (0 : Int32) = 0) → V 41 [(0, .ref 0), (1, .int t), (2, .int w)] [] τ)
        refine ⟨fun hc => absurd hc (by decide), fun _ => ?_⟩
        refine zq (σ := τ) hV hIt hnt 2 ?_
        show zSp _ _ 72 [.int (-2)] τ (fun r σ' => σ'.2.2.2 = τ.2.2.2 + zAl 72 → V 46 [(0, .ref 0), (1, .int t), (2, .int w)] (r.toList ++ []) σ')
        refine refusal_ok  (fun _ => ?_)
        refine zq (σ := τ) hV hIt hnt 1 ?_
        show K (some (.long (zRf (-2)))) τ
        have hto := ht.wk zfT_W
        refine hBad τ hto (fun q => ?_)
        obtain ⟨⟨q1, q2⟩, q3⟩ := q
        exact hb1 q3
set_option maxRecDepth 8000 in
set_option maxHeartbeats 4000000 in
theorem witness_C {d : Nat} {σ : zSt} {K : Option Value → zSt → Prop} {w : Int32} {n m : Nat} (hI : zQI (kR 0 30) σ.2.2) (hn : σ.1 1 2 = nI n) (hn10 : n ≤ 10) (hs : σ.1 4 2 = nI m) (hm : m ≤ 8) (hE : ∀ i, i < m → ∃ e, σ.1 5 i = nI e ∧ e < n) (hBad : ¬ zBt 0 2 w → K (some (.long (zRf (-2)))) σ)
    (hVal : ∀ τ u v, zOnly zfW σ τ → zBt 0 2 w → zFst (zl (zT1 n (σ.1 2) (σ.1 3) (σ.1 0 9) (σ.1 5))) (zl (zT2 n (σ.1 2) (σ.1 3) (σ.1 0 9) (σ.1 5))) (zl (zT3 n (σ.1 2) (σ.1 3) (σ.1 0 9) (σ.1 5) (σ.1 6))) (zMl (σ.1 0 9) m) u v → (zBe (zl (zT1 n (σ.1 2) (σ.1 3) (σ.1 0 9) (σ.1 5))) (zl (zT2 n (σ.1 2) (σ.1 3) (σ.1 0 9) (σ.1 5))) (zl (zT3 n (σ.1 2) (σ.1 3) (σ.1 0 9) (σ.1 5) (σ.1 6))) (zMl (σ.1 0 9) m) u v || zAe (zl (zT1 n (σ.1 2) (σ.1 3) (σ.1 0 9) (σ.1 5))) (zl (zT2 n (σ.1 2) (σ.1 3) (σ.1 0 9) (σ.1 5))) (zl (zT3 n (σ.1 2) (σ.1 3) (σ.1 0 9) (σ.1 5) (σ.1 6))) (zMl (σ.1 0 9) m) u v) = true → K (some (.long (if w = 0 then zsn (zBe (zl (zT1 n (σ.1 2) (σ.1 3) (σ.1 0 9) (σ.1 5))) (zl (zT2 n (σ.1 2) (σ.1 3) (σ.1 0 9) (σ.1 5))) (zl (zT3 n (σ.1 2) (σ.1 3) (σ.1 0 9) (σ.1 5) (σ.1 6))) (zMl (σ.1 0 9) m) u v) (zX1 (zl (zT1 n (σ.1 2) (σ.1 3) (σ.1 0 9) (σ.1 5))) (zl (zT2 n (σ.1 2) (σ.1 3) (σ.1 0 9) (σ.1 5))) (zl (zT3 n (σ.1 2) (σ.1 3) (σ.1 0 9) (σ.1 5) (σ.1 6))) u v) else if w = 1 then zsn (zBe (zl (zT1 n (σ.1 2) (σ.1 3) (σ.1 0 9) (σ.1 5))) (zl (zT2 n (σ.1 2) (σ.1 3) (σ.1 0 9) (σ.1 5))) (zl (zT3 n (σ.1 2) (σ.1 3) (σ.1 0 9) (σ.1 5) (σ.1 6))) (zMl (σ.1 0 9) m) u v) (zX2 (zl (zT1 n (σ.1 2) (σ.1 3) (σ.1 0 9) (σ.1 5))) (zl (zT2 n (σ.1 2) (σ.1 3) (σ.1 0 9) (σ.1 5))) (zl (zT3 n (σ.1 2) (σ.1 3) (σ.1 0 9) (σ.1 5) (σ.1 6))) u v) else zsn (zBe (zl (zT1 n (σ.1 2) (σ.1 3) (σ.1 0 9) (σ.1 5))) (zl (zT2 n (σ.1 2) (σ.1 3) (σ.1 0 9) (σ.1 5))) (zl (zT3 n (σ.1 2) (σ.1 3) (σ.1 0 9) (σ.1 5) (σ.1 6))) (zMl (σ.1 0 9) m) u v) (zX3 (zl (zT1 n (σ.1 2) (σ.1 3) (σ.1 0 9) (σ.1 5))) (zl (zT2 n (σ.1 2) (σ.1 3) (σ.1 0 9) (σ.1 5))) (zl (zT3 n (σ.1 2) (σ.1 3) (σ.1 0 9) (σ.1 5) (σ.1 6))) u v)))) τ)
    (hNo : ∀ τ, zOnly zfW σ τ → zBt 0 2 w → (∀ u v, zFst (zl (zT1 n (σ.1 2) (σ.1 3) (σ.1 0 9) (σ.1 5))) (zl (zT2 n (σ.1 2) (σ.1 3) (σ.1 0 9) (σ.1 5))) (zl (zT3 n (σ.1 2) (σ.1 3) (σ.1 0 9) (σ.1 5) (σ.1 6))) (zMl (σ.1 0 9) m) u v → (zBe (zl (zT1 n (σ.1 2) (σ.1 3) (σ.1 0 9) (σ.1 5))) (zl (zT2 n (σ.1 2) (σ.1 3) (σ.1 0 9) (σ.1 5))) (zl (zT3 n (σ.1 2) (σ.1 3) (σ.1 0 9) (σ.1 5) (σ.1 6))) (zMl (σ.1 0 9) m) u v || zAe (zl (zT1 n (σ.1 2) (σ.1 3) (σ.1 0 9) (σ.1 5))) (zl (zT2 n (σ.1 2) (σ.1 3) (σ.1 0 9) (σ.1 5))) (zl (zT3 n (σ.1 2) (σ.1 3) (σ.1 0 9) (σ.1 5) (σ.1 6))) (zMl (σ.1 0 9) m) u v) = false) → K (some (.long (zRf (-3)))) τ) : zSp zx (d + 4) mX8_witness [.ref 0, .int w] σ K := by
  refine ⟨⟨by decide, Nat.le_of_ble_eq_true rfl⟩, fun V hV => ?_⟩
  refine zq (σ := σ) hV hI rfl 2 ?_
  show zSp _ _ 74 [.int w] σ (fun r σ' => σ'.2.2.2 = σ.2.2.2 + zAl 74 → V 4 [(0, .ref 0), (1, .int w)] (r.toList ++ []) σ')
  refine isTriplePart_ok (fun hb1 _ => ?_) (fun hb1 _ => ?_)
  · skip
    refine zq (σ := σ) hV hI rfl 1 ?_
    show (¬ (1 : Int32) = 0 → V 13 [(0, .ref 0), (1, .int w)] [] σ) ∧ (¬ (¬ (1 : Int32) = 0) → V 7 [(0, .ref 0), (1, .int w)] [] σ)
    refine ⟨fun _ => ?_, fun hc => absurd (by decide) hc⟩
    refine zq (σ := σ) hV hI rfl 9 ?_
    show zSp _ _ 46 [.ref 10, .ref 4, .ref 1, .int (σ.1 0 9)] σ (fun r σ' => σ'.2.2.2 = σ.2.2.2 + zAl 46 → V 32 [(0, .ref 0), (1, .int w)] (r.toList ++ []) σ')
    refine press_4 (zR_of hI rfl rfl) hn hn10 hs hm hE (fun τ ht h10 hT _ => ?_)
    have hIt := zQI_eq hI ht.2.2
    have hnt : τ.2.2.2 = σ.2.2.2 := congrArg Prod.snd ht.2.2
    refine zq (σ := τ) hV hIt hnt 3 ?_
    show zSp _ _ 48 [.ref 10] τ (fun r σ' => σ'.2.2.2 = τ.2.2.2 + zAl 48 → V 39 [(0, .ref 0), (1, .int w)] (r.toList ++ []) σ')
    refine spread_ok (zR_of hIt rfl rfl) (m := zMl (σ.1 0 9) m) h10 (zMl_le hm) (fun υ hu hq _ => ?_) (fun υ hu hq _ => ?_) (fun υ u v hu hq j4 j5 j6 _ => ?_)
    · skip
      have hto : zOnly zfW σ υ := (ht.wk zfT_W).tr (hu.wk zfJ_W)
      have hIu := zQI_eq hI hto.2.2
      have hnu : υ.2.2.2 = σ.2.2.2 := congrArg Prod.snd hto.2.2
      refine zq (σ := υ) hV hIu hnu 2 ?_
      show (¬ (2 : Int32) = 1 → V 54 [(0, .ref 0), (1, .int w)] [] υ) ∧ (¬ (¬ (2 : Int32) = 1) → V 43 [(0, .ref 0), (1, .int w)] [] υ)
      refine ⟨fun _ => ?_, fun hc => absurd (by decide) hc⟩
      refine zq (σ := υ) hV hIu hnu 2 ?_
      show zSp _ _ 72 [.int (-3)] υ (fun r σ' => σ'.2.2.2 = υ.2.2.2 + zAl 72 → V 59 [(0, .ref 0), (1, .int w)] (r.toList ++ []) σ')
      refine refusal_ok  (fun _ => ?_)
      refine zq (σ := υ) hV hIu hnu 1 ?_
      show K (some (.long (zRf (-3)))) υ
      refine hNo υ hto hb1 (fun u1 v1 q => ?_)
      have q2 := (zFst_congr (zTok_l hT)).mpr q
      exact (zHold_nF hq q2).elim
    · skip
      have hto : zOnly zfW σ υ := (ht.wk zfT_W).tr (hu.wk zfJ_W)
      have hIu := zQI_eq hI hto.2.2
      have hnu : υ.2.2.2 = σ.2.2.2 := congrArg Prod.snd hto.2.2
      refine zq (σ := υ) hV hIu hnu 2 ?_
      show (¬ (0 : Int32) = 1 → V 54 [(0, .ref 0), (1, .int w)] [] υ) ∧ (¬ (¬ (0 : Int32) = 1) → V 43 [(0, .ref 0), (1, .int w)] [] υ)
      refine ⟨fun _ => ?_, fun hc => absurd (by decide) hc⟩
      refine zq (σ := υ) hV hIu hnu 2 ?_
      show zSp _ _ 72 [.int (-3)] υ (fun r σ' => σ'.2.2.2 = υ.2.2.2 + zAl 72 → V 59 [(0, .ref 0), (1, .int w)] (r.toList ++ []) σ')
      refine refusal_ok  (fun _ => ?_)
      refine zq (σ := υ) hV hIu hnu 1 ?_
      show K (some (.long (zRf (-3)))) υ
      refine hNo υ hto hb1 (fun u1 v1 q => ?_)
      have q2 := (zFst_congr (zTok_l hT)).mpr q
      exact absurd q2.1.2.2.1 (hq u1 v1 q2.1.1 q2.1.2.1)
    · skip
      have hto : zOnly zfW σ υ := (ht.wk zfT_W).tr (hu.wk zfJ_W)
      have hIu := zQI_eq hI hto.2.2
      have hnu : υ.2.2.2 = σ.2.2.2 := congrArg Prod.snd hto.2.2
      cases hbo : (zBe (zA11 τ) (zA12 τ) (zA13 τ) (zMl (σ.1 0 9) m) u v || zAe (zA11 τ) (zA12 τ) (zA13 τ) (zMl (σ.1 0 9) m) u v)
      · skip
        refine zq (σ := υ) hV hIu hnu 2 ?_
        show (¬ (0 : Int32) = 1 → V 54 [(0, .ref 0), (1, .int w)] [] υ) ∧ (¬ (¬ (0 : Int32) = 1) → V 43 [(0, .ref 0), (1, .int w)] [] υ)
        refine ⟨fun _ => ?_, fun hc => absurd (by decide) hc⟩
        refine zq (σ := υ) hV hIu hnu 2 ?_
        show zSp _ _ 72 [.int (-3)] υ (fun r σ' => σ'.2.2.2 = υ.2.2.2 + zAl 72 → V 59 [(0, .ref 0), (1, .int w)] (r.toList ++ []) σ')
        refine refusal_ok  (fun _ => ?_)
        refine zq (σ := υ) hV hIu hnu 1 ?_
        show K (some (.long (zRf (-3)))) υ
        refine hNo υ hto hb1 (fun u1 v1 q => ?_)
        have q2 := (zFst_congr (zTok_l hT)).mpr q
        obtain ⟨rfl, rfl⟩ := zFst_one hq q2
        obtain ⟨f1, f2⟩ := zBe_congr (zTok_l hT) (u := u) (v := v) (by have := hq.1.1; have := hq.1.2.1; omega) hq.1.2.1
        rw [f1, f2] at hbo
        exact hbo
      · skip
        refine zq (σ := υ) hV hIu hnu 2 ?_
        show (¬ (1 : Int32) = 1 → V 54 [(0, .ref 0), (1, .int w)] [] υ) ∧ (¬ (¬ (1 : Int32) = 1) → V 43 [(0, .ref 0), (1, .int w)] [] υ)
        refine ⟨fun hc => absurd hc (by decide), fun _ => ?_⟩
        refine zq (σ := υ) hV hIu hnu 4 ?_
        show zSp _ _ 50 [.ref 10, .int w] υ (fun r σ' => σ'.2.2.2 = υ.2.2.2 + zAl 50 → V 51 [(0, .ref 0), (1, .int w)] (r.toList ++ []) σ')
        refine tnormal_ok (zR_of hIu rfl rfl) (fun _ => ?_)
        refine zq (σ := υ) hV hIu hnu 2 ?_
        show K (some (.long (if w = 0 then υ.2.1 10 4 else if w = 1 then υ.2.1 10 5 else υ.2.1 10 6))) υ
        have hq2 := (zFst_congr (zTok_l hT)).mp hq
        obtain ⟨f1, f2⟩ := zBe_congr (zTok_l hT) (u := u) (v := v) (by have := hq.1.1; have := hq.1.2.1; omega) hq.1.2.1
        obtain ⟨x1, x2, x3⟩ := zNz_congr (zTok_l hT) (u := u) (v := v) (by have := hq.1.1; have := hq.1.2.1; omega) hq.1.2.1
        rw [f1, f2] at hbo
        rw [f1] at j4 j5 j6
        rw [x1] at j4
        rw [x2] at j5
        rw [x3] at j6
        rw [j4, j5, j6]
        exact hVal υ u v hto hb1 hq2 hbo
  · skip
    refine zq (σ := σ) hV hI rfl 1 ?_
    show (¬ (0 : Int32) = 0 → V 13 [(0, .ref 0), (1, .int w)] [] σ) ∧ (¬ (¬ (0 : Int32) = 0) → V 7 [(0, .ref 0), (1, .int w)] [] σ)
    refine ⟨fun hc => absurd hc (by decide), fun _ => ?_⟩
    refine zq (σ := σ) hV hI rfl 2 ?_
    show zSp _ _ 72 [.int (-2)] σ (fun r σ' => σ'.2.2.2 = σ.2.2.2 + zAl 72 → V 12 [(0, .ref 0), (1, .int w)] (r.toList ++ []) σ')
    refine refusal_ok  (fun _ => ?_)
    refine zq (σ := σ) hV hI rfl 1 ?_
    show K (some (.long (zRf (-2)))) σ
    exact hBad hb1
