variable {zx : Nat × (Nat → Int32)}
theorem zpred {k : Nat} (h : 1 ≤ k) : nI k + (-1) = nI (k - 1) := by
  obtain ⟨j, rfl⟩ : ∃ j, k = j + 1 := ⟨k - 1, by omega⟩
  rw [← Int32.sub_eq_add_neg, show j + 1 - 1 = j by omega]
  exact nI_pred _
def zCt (c h f s q g l bn bd w : Int32) : Int32 := if w = 0 then c else if w = 1 then h else if w = 2 then f else if w = 3 then s else if w = 4 then q else if w = 5 then g else if w = 6 then l else if w = 7 then zBc bn else if w = 8 then bd else -2
set_option maxRecDepth 8000 in
set_option maxHeartbeats 4000000 in
theorem slip_C {d : Nat} {σ : zSt} {K : Option Value → zSt → Prop} {n m : Nat} (hI : zQI (kR 0 30) σ.2.2) (hn : σ.1 1 2 = nI n) (hn10 : n ≤ 10) (hs : σ.1 4 2 = nI m) (hm : m ≤ 8) (hE : ∀ i, i < m → ∃ e, σ.1 5 i = nI e ∧ e < n) (hS : ∀ i, i < m → zBt 0 8 (σ.1 6 i)) (hNot : ¬ m ≤ 4 → K (some (.int (-3))) σ) (hNone : m ≤ 4 → ∀ τ, zOnly zfC σ τ → ¬ zHo n (σ.1 2) (σ.1 3) (σ.1 0 9) (σ.1 5) (σ.1 6) m → K (some (.int (-1))) τ) (hOk : m ≤ 4 → zHo n (σ.1 2) (σ.1 3) (σ.1 0 9) (σ.1 5) (σ.1 6) m → ∀ τ r, zOnly zfC σ τ → r ≤ 8 → (r = 0 ∨ zHw n (σ.1 2) (σ.1 3) (σ.1 0 9) (σ.1 5) (σ.1 6) m (nI r)) → (∀ j, r < j → j ≤ 8 → ¬ zHw n (σ.1 2) (σ.1 3) (σ.1 0 9) (σ.1 5) (σ.1 6) m (nI j)) → K (some (.int (nI r))) τ) : zSp zx (d + 7) mX8_slip [.ref 0] σ K := by
  refine ⟨⟨by decide, Nat.le_of_ble_eq_true rfl⟩, fun V hV => ?_⟩
  have hmi := nI_toInt (show m < 2 ^ 31 by omega)
  refine zq (σ := σ) hV hI rfl 3 ?_
  show zSp _ _ 6 [.ref 4] σ (fun r σ' => σ'.2.2.2 = σ.2.2.2 + zAl 6 → V 7 [(0, .ref 0)] (r.toList ++ []) σ')
  refine hsize_4 (zR_of hI rfl rfl) (fun _ => ?_)
  refine zq (σ := σ) hV hI rfl 2 ?_
  show ((σ.1 4 2) ≤ 4 → V 14 [(0, .ref 0)] [] σ) ∧ (¬ (σ.1 4 2) ≤ 4 → V 11 [(0, .ref 0)] [] σ)
  refine ⟨fun h_8 => ?_, fun h_8 => ?_⟩
  · skip
    have h4 : m ≤ 4 := by
      have e4 : (4 : Int32).toInt = 4 := rfl
      rw [zle, hs, hmi] at h_8
      omega
    refine zq (σ := σ) hV hI rfl 4 ?_
    show zSp _ _ 65 [.ref 0, .ref 4] σ (fun r σ' => σ'.2.2.2 = σ.2.2.2 + zAl 65 → V 22 [(0, .ref 0)] (r.toList ++ []) σ')
    refine isHeldBy_4 (zR_of hI rfl rfl) hn hn10 hs hm hE (fun υ hu hq _ => ?_) (fun υ hu hq _ => ?_)
    · skip
      have hIu := zQI_eq hI hu.2.2
      have hnu : υ.2.2.2 = σ.2.2.2 := (congrArg Prod.snd hu.2.2).trans rfl
      refine zq (σ := υ) hV hIu hnu 1 ?_
      show (¬ (1 : Int32) = 0 → V 27 [(0, .ref 0)] [] υ) ∧ (¬ (¬ (1 : Int32) = 0) → V 25 [(0, .ref 0)] [] υ)
      refine ⟨fun _ => ?_, fun hc => absurd (by decide) hc⟩
      have hq0 := hq
      refine zq (σ := υ) hV hIu hnu 2 ?_
      show V 30 [(1, .int 8), (0, .ref 0)] [] υ
      refine zwk hV [1, 0] rfl ?_
      have Hk : ∀ (r : Nat) (k : Nat) (τ : zSt), k = r → k ≤ 8 → zOnly zfC σ τ → (∀ j, k < j → j ≤ 8 → ¬ zHw n (σ.1 2) (σ.1 3) (σ.1 0 9) (σ.1 5) (σ.1 6) m (nI j)) → V 30 [(0, .ref 0), (1, .int (nI k))] [] τ := by
        intro r
        induction r with
        | zero =>
          intro k τ hkr hk8 ht hno
          have hIτ := zQI_eq hI ht.2.2
          have hnτ : τ.2.2.2 = σ.2.2.2 := congrArg Prod.snd ht.2.2
          have e2 : τ.1 2 = σ.1 2 := funext fun j => ht.1 2 j rfl
          have e3 : τ.1 3 = σ.1 3 := funext fun j => ht.1 3 j rfl
          have e5 : τ.1 5 = σ.1 5 := funext fun j => ht.1 5 j rfl
          have e6 : τ.1 6 = σ.1 6 := funext fun j => ht.1 6 j rfl
          have e9 : τ.1 0 9 = σ.1 0 9 := ht.1 0 9 rfl
          refine zq (σ := τ) hV hIτ hnτ 2 ?_
          show ((nI k) ≤ 0 → V 50 [(0, .ref 0), (1, .int (nI k))] [] τ) ∧ (¬ (nI k) ≤ 0 → V 34 [(0, .ref 0), (1, .int (nI k))] [] τ)
          refine ⟨fun _ => ?_, fun hc => absurd (show nI k ≤ 0 by rw [hkr]; decide) hc⟩
          refine zq (σ := τ) hV hIτ hnτ 2 ?_
          show K (some (.int 0)) τ
          exact hOk h4 hq τ 0 ht (by omega) (Or.inl rfl) (fun j h1 h2 => hno j (by omega) h2)
        | succ r ihk =>
          intro k τ hkr hk8 ht hno
          have hIτ := zQI_eq hI ht.2.2
          have hnτ : τ.2.2.2 = σ.2.2.2 := congrArg Prod.snd ht.2.2
          have e2 : τ.1 2 = σ.1 2 := funext fun j => ht.1 2 j rfl
          have e3 : τ.1 3 = σ.1 3 := funext fun j => ht.1 3 j rfl
          have e5 : τ.1 5 = σ.1 5 := funext fun j => ht.1 5 j rfl
          have e6 : τ.1 6 = σ.1 6 := funext fun j => ht.1 6 j rfl
          have e9 : τ.1 0 9 = σ.1 0 9 := ht.1 0 9 rfl
          refine zq (σ := τ) hV hIτ hnτ 2 ?_
          show ((nI k) ≤ 0 → V 50 [(0, .ref 0), (1, .int (nI k))] [] τ) ∧ (¬ (nI k) ≤ 0 → V 34 [(0, .ref 0), (1, .int (nI k))] [] τ)
          refine ⟨fun hc => absurd hc (show ¬ nI k ≤ 0 by rw [zle, nI_toInt (by omega)]; have := zT_lits.1; omega), fun _ => ?_⟩
          refine zq (σ := τ) hV hIτ hnτ 3 ?_
          show zSp _ _ 63 [.ref 0, .int (nI k)] τ (fun r σ' => σ'.2.2.2 = τ.2.2.2 + zAl 63 → V 39 [(0, .ref 0), (1, .int (nI k))] (r.toList ++ []) σ')
          refine isHeldWithin_ok hIτ ((ht.1 1 2 rfl).trans hn) hn10 ((ht.1 4 2 rfl).trans hs) h4 (by rw [e5]; exact hE) (by rw [e6]; exact hS) (fun φ hf0 hq _ => ?_) (fun φ hf0 hq _ => ?_)
          · skip
            have hf := ht.tr hf0
            have hIφ := zQI_eq hI hf.2.2
            have hnφ : φ.2.2.2 = σ.2.2.2 := congrArg Prod.snd hf.2.2
            rw [e2, e3, e9, e5, e6] at hq
            refine zq (σ := φ) hV hIφ hnφ 1 ?_
            show ((1 : Int32) = 0 → V 44 [(0, .ref 0), (1, .int (nI k))] [] φ) ∧ (¬ (1 : Int32) = 0 → V 42 [(0, .ref 0), (1, .int (nI k))] [] φ)
            refine ⟨fun hc => absurd hc (by decide), fun _ => ?_⟩
            refine zq (σ := φ) hV hIφ hnφ 2 ?_
            show K (some (.int (nI k))) φ
            exact hOk h4 hq0 φ k hf hk8 (Or.inr hq) hno
          · skip
            have hf := ht.tr hf0
            have hIφ := zQI_eq hI hf.2.2
            have hnφ : φ.2.2.2 = σ.2.2.2 := congrArg Prod.snd hf.2.2
            rw [e2, e3, e9, e5, e6] at hq
            refine zq (σ := φ) hV hIφ hnφ 1 ?_
            show ((0 : Int32) = 0 → V 44 [(0, .ref 0), (1, .int (nI k))] [] φ) ∧ (¬ (0 : Int32) = 0 → V 42 [(0, .ref 0), (1, .int (nI k))] [] φ)
            refine ⟨fun _ => ?_, fun hc => absurd (by decide) hc⟩
            refine zq (σ := φ) hV hIφ hnφ 2 ?_
            show V 30 [(1, .int ((nI k) + (-1))), (0, .ref 0)] [] φ
            refine zwk hV [1, 0] rfl ?_
            rw [zpred (by omega)]
            refine ihk (k - 1) φ (by omega) (by omega) hf (fun j h1 h2 => ?_)
            by_cases e : j = k
            · rw [e]; exact hq
            · exact hno j (by omega) h2
      exact Hk 8 8 υ rfl (Nat.le_refl _) (hu.wk zfW_C) (fun j h1 h2 => absurd h1 (by omega))
    · skip
      have hIu := zQI_eq hI hu.2.2
      have hnu : υ.2.2.2 = σ.2.2.2 := (congrArg Prod.snd hu.2.2).trans rfl
      refine zq (σ := υ) hV hIu hnu 1 ?_
      show (¬ (0 : Int32) = 0 → V 27 [(0, .ref 0)] [] υ) ∧ (¬ (¬ (0 : Int32) = 0) → V 25 [(0, .ref 0)] [] υ)
      refine ⟨fun hc => absurd hc (by decide), fun _ => ?_⟩
      refine zq (σ := υ) hV hIu hnu 2 ?_
      show K (some (.int (-1))) υ
      exact hNone h4 υ (hu.wk zfW_C) hq
  · skip
    refine zq (σ := σ) hV hI rfl 2 ?_
    show K (some (.int (-3))) σ
    exact hNot (fun q => h_8 (by rw [zle, hs, hmi]; have e4 : (4 : Int32).toInt = 4 := rfl; omega))
theorem zCt_no {c h f s q g l bn bd w : Int32} (hw : ¬ zBt 0 8 w) : zCt c h f s q g l bn bd w = -2 := by
  have k : ∀ v : Int32, zBt 0 8 v → ¬ w = v := fun v hv e => hw (by rw [e]; exact hv)
  unfold zCt
  rw [if_neg (k 0  ⟨by decide, by decide⟩), if_neg (k 1  ⟨by decide, by decide⟩), if_neg (k 2  ⟨by decide, by decide⟩), if_neg (k 3  ⟨by decide, by decide⟩), if_neg (k 4  ⟨by decide, by decide⟩), if_neg (k 5  ⟨by decide, by decide⟩), if_neg (k 6  ⟨by decide, by decide⟩), if_neg (k 7  ⟨by decide, by decide⟩), if_neg (k 8  ⟨by decide, by decide⟩)]
set_option maxRecDepth 8000 in
set_option maxHeartbeats 4000000 in
theorem count_C {d : Nat} {σ : zSt} {K : Option Value → zSt → Prop} {w : Int32} (hI : zQI (kR 0 30) σ.2.2) (hK : K (some (.int (zCt (σ.1 1 2) (σ.1 4 2) (σ.1 0 9) (σ.1 14 3) (σ.1 18 2) (σ.1 21 2) (σ.1 26 3) (σ.1 24 1) (σ.1 24 2) w))) σ) : zSp zx (d + 3) mX8_count [.ref 0, .int w] σ K := by
  refine ⟨⟨by decide, Nat.le_of_ble_eq_true rfl⟩, fun V hV => ?_⟩
  refine zq (σ := σ) hV hI rfl 2 ?_
  show ((Int32.toInt w < 0 ∨ 8 < Int32.toInt w) → V 121 [(0, .ref 0), (1, .int w)] [] σ) ∧ ((¬ Int32.toInt w < 0 ∧ ¬ 8 < Int32.toInt w) → ∃ off, (#[51, 59, 67, 72, 80, 88, 96, 104, 112] : Array Int)[(Int32.toInt w - 0).toNat]? = some off ∧ 0 ≤ ((1 : Nat) : Int) + off ∧ V (ztg 1 off) [(0, .ref 0), (1, .int w)] [] σ)
  refine ⟨fun hsw => ?_, fun hsw => ?_⟩
  · skip
    refine zq (σ := σ) hV hI rfl 2 ?_
    show K (some (.int (-2))) σ
    have e : zCt (σ.1 1 2) (σ.1 4 2) (σ.1 0 9) (σ.1 14 3) (σ.1 18 2) (σ.1 21 2) (σ.1 26 3) (σ.1 24 1) (σ.1 24 2) w = -2 := zCt_no (by unfold zBt; omega)
    rw [e] at hK
    exact hK
  · skip
    rcases (show Int32.toInt w = 0 ∨ Int32.toInt w = 1 ∨ Int32.toInt w = 2 ∨ Int32.toInt w = 3 ∨ Int32.toInt w = 4 ∨ Int32.toInt w = 5 ∨ Int32.toInt w = 6 ∨ Int32.toInt w = 7 ∨ Int32.toInt w = 8 by omega) with hx | hx | hx | hx | hx | hx | hx | hx | hx
    · skip
      refine ⟨51, by rw [hx]; rfl, by decide, ?_⟩
      show V 52 [(0, .ref 0), (1, .int w)] [] σ
      refine zq (σ := σ) hV hI rfl 3 ?_
      show zSp _ _ 16 [.ref 1] σ (fun r σ' => σ'.2.2.2 = σ.2.2.2 + zAl 16 → V 59 [(0, .ref 0), (1, .int w)] (r.toList ++ []) σ')
      refine corners_ok (zR_of hI rfl rfl) (fun _ => ?_)
      refine zq (σ := σ) hV hI rfl 1 ?_
      show K (some (.int (σ.1 1 2))) σ
      obtain rfl : w = 0 := by rw [zeq, hx]; rfl
      exact hK
    · skip
      refine ⟨59, by rw [hx]; rfl, by decide, ?_⟩
      show V 60 [(0, .ref 0), (1, .int w)] [] σ
      refine zq (σ := σ) hV hI rfl 3 ?_
      show zSp _ _ 6 [.ref 4] σ (fun r σ' => σ'.2.2.2 = σ.2.2.2 + zAl 6 → V 67 [(0, .ref 0), (1, .int w)] (r.toList ++ []) σ')
      refine hsize_4 (zR_of hI rfl rfl) (fun _ => ?_)
      refine zq (σ := σ) hV hI rfl 1 ?_
      show K (some (.int (σ.1 4 2))) σ
      obtain rfl : w = 1 := by rw [zeq, hx]; rfl
      exact hK
    · skip
      refine ⟨67, by rw [hx]; rfl, by decide, ?_⟩
      show V 68 [(0, .ref 0), (1, .int w)] [] σ
      refine zq (σ := σ) hV hI rfl 3 ?_
      show K (some (.int (σ.1 0 9))) σ
      obtain rfl : w = 2 := by rw [zeq, hx]; rfl
      exact hK
    · skip
      refine ⟨72, by rw [hx]; rfl, by decide, ?_⟩
      show V 73 [(0, .ref 0), (1, .int w)] [] σ
      refine zq (σ := σ) hV hI rfl 3 ?_
      show zSp _ _ 37 [.ref 14] σ (fun r σ' => σ'.2.2.2 = σ.2.2.2 + zAl 37 → V 80 [(0, .ref 0), (1, .int w)] (r.toList ++ []) σ')
      refine ssize_ok (zR_of hI rfl rfl) (fun _ => ?_)
      refine zq (σ := σ) hV hI rfl 1 ?_
      show K (some (.int (σ.1 14 3))) σ
      obtain rfl : w = 3 := by rw [zeq, hx]; rfl
      exact hK
    · skip
      refine ⟨80, by rw [hx]; rfl, by decide, ?_⟩
      show V 81 [(0, .ref 0), (1, .int w)] [] σ
      refine zq (σ := σ) hV hI rfl 3 ?_
      show zSp _ _ 24 [.ref 18] σ (fun r σ' => σ'.2.2.2 = σ.2.2.2 + zAl 24 → V 88 [(0, .ref 0), (1, .int w)] (r.toList ++ []) σ')
      refine psize_ok (zR_of hI rfl rfl) (fun _ => ?_)
      refine zq (σ := σ) hV hI rfl 1 ?_
      show K (some (.int (σ.1 18 2))) σ
      obtain rfl : w = 4 := by rw [zeq, hx]; rfl
      exact hK
    · skip
      refine ⟨88, by rw [hx]; rfl, by decide, ?_⟩
      show V 89 [(0, .ref 0), (1, .int w)] [] σ
      refine zq (σ := σ) hV hI rfl 3 ?_
      show zSp _ _ 4 [.ref 21] σ (fun r σ' => σ'.2.2.2 = σ.2.2.2 + zAl 4 → V 96 [(0, .ref 0), (1, .int w)] (r.toList ++ []) σ')
      refine gsize_ok (zR_of hI rfl rfl) (fun _ => ?_)
      refine zq (σ := σ) hV hI rfl 1 ?_
      show K (some (.int (σ.1 21 2))) σ
      obtain rfl : w = 5 := by rw [zeq, hx]; rfl
      exact hK
    · skip
      refine ⟨96, by rw [hx]; rfl, by decide, ?_⟩
      show V 97 [(0, .ref 0), (1, .int w)] [] σ
      refine zq (σ := σ) hV hI rfl 3 ?_
      show zSp _ _ 26 [.ref 26] σ (fun r σ' => σ'.2.2.2 = σ.2.2.2 + zAl 26 → V 104 [(0, .ref 0), (1, .int w)] (r.toList ++ []) σ')
      refine latest_ok (zR_of hI rfl rfl) (fun _ => ?_)
      refine zq (σ := σ) hV hI rfl 1 ?_
      show K (some (.int (σ.1 26 3))) σ
      obtain rfl : w = 6 := by rw [zeq, hx]; rfl
      exact hK
    · skip
      refine ⟨104, by rw [hx]; rfl, by decide, ?_⟩
      show V 105 [(0, .ref 0), (1, .int w)] [] σ
      refine zq (σ := σ) hV hI rfl 3 ?_
      show zSp _ _ 2 [.ref 24] σ (fun r σ' => σ'.2.2.2 = σ.2.2.2 + zAl 2 → V 112 [(0, .ref 0), (1, .int w)] (r.toList ++ []) σ')
      refine bsize_ok (zR_of hI rfl rfl) (fun _ => ?_)
      refine zq (σ := σ) hV hI rfl 1 ?_
      show K (some (.int (zBc (σ.1 24 1)))) σ
      obtain rfl : w = 7 := by rw [zeq, hx]; rfl
      exact hK
    · skip
      refine ⟨112, by rw [hx]; rfl, by decide, ?_⟩
      show V 113 [(0, .ref 0), (1, .int w)] [] σ
      refine zq (σ := σ) hV hI rfl 3 ?_
      show zSp _ _ 1 [.ref 24] σ (fun r σ' => σ'.2.2.2 = σ.2.2.2 + zAl 1 → V 120 [(0, .ref 0), (1, .int w)] (r.toList ++ []) σ')
      refine bdropped_ok (zR_of hI rfl rfl) (fun _ => ?_)
      refine zq (σ := σ) hV hI rfl 1 ?_
      show K (some (.int (σ.1 24 2))) σ
      obtain rfl : w = 8 := by rw [zeq, hx]; rfl
      exact hK
