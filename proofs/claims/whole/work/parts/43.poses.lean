theorem zpred {k : Nat} (h : 1 ≤ k) : nI k + (-1) = nI (k - 1) := by
  obtain ⟨j, rfl⟩ : ∃ j, k = j + 1 := ⟨k - 1, by omega⟩
  rw [← Int32.sub_eq_add_neg, show j + 1 - 1 = j by omega]
  exact nI_pred _
def zCt (c h f s q g l bn bd w : Int32) : Int32 := if w = 0 then c else if w = 1 then h else if w = 2 then f else if w = 3 then s else if w = 4 then q else if w = 5 then g else if w = 6 then l else if w = 7 then zBc bn else if w = 8 then bd else -2
set_option maxRecDepth 8000 in
set_option maxHeartbeats 4000000 in
theorem slip_C {d : Nat} {σ : zSt} {K : Option Value → zSt → Prop} {n m : Nat} (hI : zQI (kR 0 30) σ.2.2) (hn : σ.1 1 2 = nI n) (hn10 : n ≤ 10) (hs : σ.1 4 2 = nI m) (hm : m ≤ 8) (hE : ∀ i, i < m → ∃ e, σ.1 5 i = nI e ∧ e < n) (hS : ∀ i, i < m → zBt 0 8 (σ.1 6 i)) (hNot : ¬ m ≤ 4 → K (some (.int (-3))) σ) (hNone : m ≤ 4 → ∀ τ, zOnly zfC σ τ → ¬ zHo n (σ.1 2) (σ.1 3) (σ.1 0 9) (σ.1 5) (σ.1 6) m → K (some (.int (-1))) τ) (hOk : m ≤ 4 → zHo n (σ.1 2) (σ.1 3) (σ.1 0 9) (σ.1 5) (σ.1 6) m → ∀ τ r, zOnly zfC σ τ → r ≤ 8 → (r = 0 ∨ zHw n (σ.1 2) (σ.1 3) (σ.1 0 9) (σ.1 5) (σ.1 6) m (nI r)) → (∀ j, r < j → j ≤ 8 → ¬ zHw n (σ.1 2) (σ.1 3) (σ.1 0 9) (σ.1 5) (σ.1 6) m (nI j)) → K (some (.int (nI r))) τ) : zSp (d + 7) mX8_slip [.ref 0] σ K := by
  refine ⟨⟨by decide, Nat.le_of_ble_eq_true rfl⟩, fun V hV => ?_⟩
  have hmi := nI_toInt (show m < 2 ^ 31 by omega)
  refine zq (σ := σ) hV hI rfl 3 ?_
  show zSp _ 17 [.ref 4] σ (fun r σ' => σ'.2.2.2 = σ.2.2.2 + zAl 17 → V 7 [(0, .ref 0)] (r.toList ++ []) σ')
  refine hsize_4 (zR_of hI rfl rfl) (fun _ => ?_)
  refine zq (σ := σ) hV hI rfl 2 ?_
  show ((σ.1 4 2) ≤ 4 → V 14 [(0, .ref 0)] [] σ) ∧ (¬ (σ.1 4 2) ≤ 4 → V 11 [(0, .ref 0)] [] σ)
  refine ⟨fun h_8 => ?_, fun h_8 => ?_⟩
  · skip
    have h4 : m ≤ 4 := by
      have e4 : (4 : Int32).toInt = 4 := rfl
      rw [zle, hs, hmi] at h_8
      omega
    refine zq (σ := σ) hV hI rfl 4 ?_
    show zSp _ 92 [.ref 0, .ref 4] σ (fun r σ' => σ'.2.2.2 = σ.2.2.2 + zAl 92 → V 22 [(0, .ref 0)] (r.toList ++ []) σ')
    refine isHeldBy_4 (zR_of hI rfl rfl) hn hn10 hs hm hE (fun υ hu hq _ => ?_) (fun υ hu hq _ => ?_)
    · skip
      have hIu := zQI_eq hI hu.2.2
      have hnu : υ.2.2.2 = σ.2.2.2 := (congrArg Prod.snd hu.2.2).trans rfl
      refine zq (σ := υ) hV hIu hnu 1 ?_
      show (¬ (1 : Int32) = 0 → V 27 [(0, .ref 0)] [] υ) ∧ (¬ (¬ (1 : Int32) = 0) → V 25 [(0, .ref 0)] [] υ)
      refine ⟨fun _ => ?_, fun hc => absurd (by decide) hc⟩
      have hq0 := hq
      refine zq (σ := υ) hV hIu hnu 2 ?_
      show V 30 [(1, .int 8), (0, .ref 0)] [] υ
      refine zwk hV [1, 0] rfl ?_
      have Hk : ∀ (r : Nat) (k : Nat) (τ : zSt), k = r → k ≤ 8 → zOnly zfC σ τ → (∀ j, k < j → j ≤ 8 → ¬ zHw n (σ.1 2) (σ.1 3) (σ.1 0 9) (σ.1 5) (σ.1 6) m (nI j)) → V 30 [(0, .ref 0), (1, .int (nI k))] [] τ := by
        intro r
        induction r with
        | zero =>
          intro k τ hkr hk8 ht hno
          have hIτ := zQI_eq hI ht.2.2
          have hnτ : τ.2.2.2 = σ.2.2.2 := congrArg Prod.snd ht.2.2
          have e2 : τ.1 2 = σ.1 2 := funext fun j => ht.1 2 j rfl
          have e3 : τ.1 3 = σ.1 3 := funext fun j => ht.1 3 j rfl
          have e5 : τ.1 5 = σ.1 5 := funext fun j => ht.1 5 j rfl
          have e6 : τ.1 6 = σ.1 6 := funext fun j => ht.1 6 j rfl
          have e9 : τ.1 0 9 = σ.1 0 9 := ht.1 0 9 rfl
          refine zq (σ := τ) hV hIτ hnτ 2 ?_
          show ((nI k) ≤ 0 → V 50 [(0, .ref 0), (1, .int (nI k))] [] τ) ∧ (¬ (nI k) ≤ 0 → V 34 [(0, .ref 0), (1, .int (nI k))] [] τ)
          refine ⟨fun _ => ?_, fun hc => absurd (show nI k ≤ 0 by rw [hkr]; decide) hc⟩
          refine zq (σ := τ) hV hIτ hnτ 2 ?_
          show K (some (.int 0)) τ
          exact hOk h4 hq τ 0 ht (by omega) (Or.inl rfl) (fun j h1 h2 => hno j (by omega) h2)
        | succ r ihk =>
          intro k τ hkr hk8 ht hno
          have hIτ := zQI_eq hI ht.2.2
          have hnτ : τ.2.2.2 = σ.2.2.2 := congrArg Prod.snd ht.2.2
          have e2 : τ.1 2 = σ.1 2 := funext fun j => ht.1 2 j rfl
          have e3 : τ.1 3 = σ.1 3 := funext fun j => ht.1 3 j rfl
          have e5 : τ.1 5 = σ.1 5 := funext fun j => ht.1 5 j rfl
          have e6 : τ.1 6 = σ.1 6 := funext fun j => ht.1 6 j rfl
          have e9 : τ.1 0 9 = σ.1 0 9 := ht.1 0 9 rfl
          refine zq (σ := τ) hV hIτ hnτ 2 ?_
          show ((nI k) ≤ 0 → V 50 [(0, .ref 0), (1, .int (nI k))] [] τ) ∧ (¬ (nI k) ≤ 0 → V 34 [(0, .ref 0), (1, .int (nI k))] [] τ)
          refine ⟨fun hc => absurd hc (show ¬ nI k ≤ 0 by rw [zle, nI_toInt (by omega)]; have := zT_lits.1; omega), fun _ => ?_⟩
          refine zq (σ := τ) hV hIτ hnτ 3 ?_
          show zSp _ 90 [.ref 0, .int (nI k)] τ (fun r σ' => σ'.2.2.2 = τ.2.2.2 + zAl 90 → V 39 [(0, .ref 0), (1, .int (nI k))] (r.toList ++ []) σ')
          refine isHeldWithin_ok hIτ ((ht.1 1 2 rfl).trans hn) hn10 ((ht.1 4 2 rfl).trans hs) h4 (by rw [e5]; exact hE) (by rw [e6]; exact hS) (fun φ hf0 hq _ => ?_) (fun φ hf0 hq _ => ?_)
          · skip
            have hf := ht.tr hf0
            have hIφ := zQI_eq hI hf.2.2
            have hnφ : φ.2.2.2 = σ.2.2.2 := congrArg Prod.snd hf.2.2
            rw [e2, e3, e9, e5, e6] at hq
            refine zq (σ := φ) hV hIφ hnφ 1 ?_
            show ((1 : Int32) = 0 → V 44 [(0, .ref 0), (1, .int (nI k))] [] φ) ∧ (¬ (1 : Int32) = 0 → V 42 [(0, .ref 0), (1, .int (nI k))] [] φ)
            refine ⟨fun hc => absurd hc (by decide), fun _ => ?_⟩
            refine zq (σ := φ) hV hIφ hnφ 2 ?_
            show K (some (.int (nI k))) φ
            exact hOk h4 hq0 φ k hf hk8 (Or.inr hq) hno
          · skip
            have hf := ht.tr hf0
            have hIφ := zQI_eq hI hf.2.2
            have hnφ : φ.2.2.2 = σ.2.2.2 := congrArg Prod.snd hf.2.2
            rw [e2, e3, e9, e5, e6] at hq
            refine zq (σ := φ) hV hIφ hnφ 1 ?_
            show ((0 : Int32) = 0 → V 44 [(0, .ref 0), (1, .int (nI k))] [] φ) ∧ (¬ (0 : Int32) = 0 → V 42 [(0, .ref 0), (1, .int (nI k))] [] φ)
            refine ⟨fun _ => ?_, fun hc => absurd (by decide) hc⟩
            refine zq (σ := φ) hV hIφ hnφ 2 ?_
            show V 30 [(1, .int ((nI k) + (-1))), (0, .ref 0)] [] φ
            refine zwk hV [1, 0] rfl ?_
            rw [zpred (by omega)]
            refine ihk (k - 1) φ (by omega) (by omega) hf (fun j h1 h2 => ?_)
            by_cases e : j = k
            · rw [e]; exact hq
            · exact hno j (by omega) h2
      exact Hk 8 8 υ rfl (Nat.le_refl _) (hu.wk zfW_C) (fun j h1 h2 => absurd h1 (by omega))
    · skip
      have hIu := zQI_eq hI hu.2.2
      have hnu : υ.2.2.2 = σ.2.2.2 := (congrArg Prod.snd hu.2.2).trans rfl
      refine zq (σ := υ) hV hIu hnu 1 ?_
      show (¬ (0 : Int32) = 0 → V 27 [(0, .ref 0)] [] υ) ∧ (¬ (¬ (0 : Int32) = 0) → V 25 [(0, .ref 0)] [] υ)
      refine ⟨fun hc => absurd hc (by decide), fun _ => ?_⟩
      refine zq (σ := υ) hV hIu hnu 2 ?_
      show K (some (.int (-1))) υ
      exact hNone h4 υ (hu.wk zfW_C) hq
  · skip
    refine zq (σ := σ) hV hI rfl 2 ?_
    show K (some (.int (-3))) σ
    exact hNot (fun q => h_8 (by rw [zle, hs, hmi]; have e4 : (4 : Int32).toInt = 4 := rfl; omega))
theorem zCt_no {c h f s q g l bn bd w : Int32} (hw : ¬ zBt 0 8 w) : zCt c h f s q g l bn bd w = -2 := by
  have k : ∀ v : Int32, zBt 0 8 v → ¬ w = v := fun v hv e => hw (by rw [e]; exact hv)
  unfold zCt
  rw [if_neg (k 0  ⟨by decide, by decide⟩), if_neg (k 1  ⟨by decide, by decide⟩), if_neg (k 2  ⟨by decide, by decide⟩), if_neg (k 3  ⟨by decide, by decide⟩), if_neg (k 4  ⟨by decide, by decide⟩), if_neg (k 5  ⟨by decide, by decide⟩), if_neg (k 6  ⟨by decide, by decide⟩), if_neg (k 7  ⟨by decide, by decide⟩), if_neg (k 8  ⟨by decide, by decide⟩)]
set_option maxRecDepth 8000 in
set_option maxHeartbeats 4000000 in
theorem count_C {d : Nat} {σ : zSt} {K : Option Value → zSt → Prop} {w : Int32} (hI : zQI (kR 0 30) σ.2.2) (hK : K (some (.int (zCt (σ.1 1 2) (σ.1 4 2) (σ.1 0 9) (σ.1 14 3) (σ.1 18 2) (σ.1 21 2) (σ.1 26 3) (σ.1 24 1) (σ.1 24 2) w))) σ) : zSp (d + 3) mX8_count [.ref 0, .int w] σ K := by
  refine ⟨⟨by decide, Nat.le_of_ble_eq_true rfl⟩, fun V hV => ?_⟩
  refine zq (σ := σ) hV hI rfl 2 ?_
  show ((Int32.toInt w < 0 ∨ 8 < Int32.toInt w) → V 121 [(0, .ref 0), (1, .int w)] [] σ) ∧ ((¬ Int32.toInt w < 0 ∧ ¬ 8 < Int32.toInt w) → ∃ off, (#[51, 59, 67, 72, 80, 88, 96, 104, 112] : Array Int)[(Int32.toInt w - 0).toNat]? = some off ∧ 0 ≤ ((1 : Nat) : Int) + off ∧ V (ztg 1 off) [(0, .ref 0), (1, .int w)] [] σ)
  refine ⟨fun hsw => ?_, fun hsw => ?_⟩
  · skip
    refine zq (σ := σ) hV hI rfl 2 ?_
    show K (some (.int (-2))) σ
    have e : zCt (σ.1 1 2) (σ.1 4 2) (σ.1 0 9) (σ.1 14 3) (σ.1 18 2) (σ.1 21 2) (σ.1 26 3) (σ.1 24 1) (σ.1 24 2) w = -2 := zCt_no (by unfold zBt; omega)
    rw [e] at hK
    exact hK
  · skip
    rcases (show Int32.toInt w = 0 ∨ Int32.toInt w = 1 ∨ Int32.toInt w = 2 ∨ Int32.toInt w = 3 ∨ Int32.toInt w = 4 ∨ Int32.toInt w = 5 ∨ Int32.toInt w = 6 ∨ Int32.toInt w = 7 ∨ Int32.toInt w = 8 by omega) with hx | hx | hx | hx | hx | hx | hx | hx | hx
    · skip
      refine ⟨51, by rw [hx]; rfl, by decide, ?_⟩
      show V 52 [(0, .ref 0), (1, .int w)] [] σ
      refine zq (σ := σ) hV hI rfl 3 ?_
      show zSp _ 27 [.ref 1] σ (fun r σ' => σ'.2.2.2 = σ.2.2.2 + zAl 27 → V 59 [(0, .ref 0), (1, .int w)] (r.toList ++ []) σ')
      refine corners_ok (zR_of hI rfl rfl) (fun _ => ?_)
      refine zq (σ := σ) hV hI rfl 1 ?_
      show K (some (.int (σ.1 1 2))) σ
      obtain rfl : w = 0 := by rw [zeq, hx]; rfl
      exact hK
    · skip
      refine ⟨59, by rw [hx]; rfl, by decide, ?_⟩
      show V 60 [(0, .ref 0), (1, .int w)] [] σ
      refine zq (σ := σ) hV hI rfl 3 ?_
      show zSp _ 17 [.ref 4] σ (fun r σ' => σ'.2.2.2 = σ.2.2.2 + zAl 17 → V 67 [(0, .ref 0), (1, .int w)] (r.toList ++ []) σ')
      refine hsize_4 (zR_of hI rfl rfl) (fun _ => ?_)
      refine zq (σ := σ) hV hI rfl 1 ?_
      show K (some (.int (σ.1 4 2))) σ
      obtain rfl : w = 1 := by rw [zeq, hx]; rfl
      exact hK
    · skip
      refine ⟨67, by rw [hx]; rfl, by decide, ?_⟩
      show V 68 [(0, .ref 0), (1, .int w)] [] σ
      refine zq (σ := σ) hV hI rfl 3 ?_
      show K (some (.int (σ.1 0 9))) σ
      obtain rfl : w = 2 := by rw [zeq, hx]; rfl
      exact hK
    · skip
      refine ⟨72, by rw [hx]; rfl, by decide, ?_⟩
      show V 73 [(0, .ref 0), (1, .int w)] [] σ
      refine zq (σ := σ) hV hI rfl 3 ?_
      show zSp _ 59 [.ref 14] σ (fun r σ' => σ'.2.2.2 = σ.2.2.2 + zAl 59 → V 80 [(0, .ref 0), (1, .int w)] (r.toList ++ []) σ')
      refine ssize_ok (zR_of hI rfl rfl) (fun _ => ?_)
      refine zq (σ := σ) hV hI rfl 1 ?_
      show K (some (.int (σ.1 14 3))) σ
      obtain rfl : w = 3 := by rw [zeq, hx]; rfl
      exact hK
    · skip
      refine ⟨80, by rw [hx]; rfl, by decide, ?_⟩
      show V 81 [(0, .ref 0), (1, .int w)] [] σ
      refine zq (σ := σ) hV hI rfl 3 ?_
      show zSp _ 41 [.ref 18] σ (fun r σ' => σ'.2.2.2 = σ.2.2.2 + zAl 41 → V 88 [(0, .ref 0), (1, .int w)] (r.toList ++ []) σ')
      refine psize_ok (zR_of hI rfl rfl) (fun _ => ?_)
      refine zq (σ := σ) hV hI rfl 1 ?_
      show K (some (.int (σ.1 18 2))) σ
      obtain rfl : w = 4 := by rw [zeq, hx]; rfl
      exact hK
    · skip
      refine ⟨88, by rw [hx]; rfl, by decide, ?_⟩
      show V 89 [(0, .ref 0), (1, .int w)] [] σ
      refine zq (σ := σ) hV hI rfl 3 ?_
      show zSp _ 11 [.ref 21] σ (fun r σ' => σ'.2.2.2 = σ.2.2.2 + zAl 11 → V 96 [(0, .ref 0), (1, .int w)] (r.toList ++ []) σ')
      refine gsize_ok (zR_of hI rfl rfl) (fun _ => ?_)
      refine zq (σ := σ) hV hI rfl 1 ?_
      show K (some (.int (σ.1 21 2))) σ
      obtain rfl : w = 5 := by rw [zeq, hx]; rfl
      exact hK
    · skip
      refine ⟨96, by rw [hx]; rfl, by decide, ?_⟩
      show V 97 [(0, .ref 0), (1, .int w)] [] σ
      refine zq (σ := σ) hV hI rfl 3 ?_
      show zSp _ 46 [.ref 26] σ (fun r σ' => σ'.2.2.2 = σ.2.2.2 + zAl 46 → V 104 [(0, .ref 0), (1, .int w)] (r.toList ++ []) σ')
      refine latest_ok (zR_of hI rfl rfl) (fun _ => ?_)
      refine zq (σ := σ) hV hI rfl 1 ?_
      show K (some (.int (σ.1 26 3))) σ
      obtain rfl : w = 6 := by rw [zeq, hx]; rfl
      exact hK
    · skip
      refine ⟨104, by rw [hx]; rfl, by decide, ?_⟩
      show V 105 [(0, .ref 0), (1, .int w)] [] σ
      refine zq (σ := σ) hV hI rfl 3 ?_
      show zSp _ 2 [.ref 24] σ (fun r σ' => σ'.2.2.2 = σ.2.2.2 + zAl 2 → V 112 [(0, .ref 0), (1, .int w)] (r.toList ++ []) σ')
      refine bsize_ok (zR_of hI rfl rfl) (fun _ => ?_)
      refine zq (σ := σ) hV hI rfl 1 ?_
      show K (some (.int (zBc (σ.1 24 1)))) σ
      obtain rfl : w = 7 := by rw [zeq, hx]; rfl
      exact hK
    · skip
      refine ⟨112, by rw [hx]; rfl, by decide, ?_⟩
      show V 113 [(0, .ref 0), (1, .int w)] [] σ
      refine zq (σ := σ) hV hI rfl 3 ?_
      show zSp _ 1 [.ref 24] σ (fun r σ' => σ'.2.2.2 = σ.2.2.2 + zAl 1 → V 120 [(0, .ref 0), (1, .int w)] (r.toList ++ []) σ')
      refine bdropped_ok (zR_of hI rfl rfl) (fun _ => ?_)
      refine zq (σ := σ) hV hI rfl 1 ?_
      show K (some (.int (σ.1 24 2))) σ
      obtain rfl : w = 8 := by rw [zeq, hx]; rfl
      exact hK
def zF1 (n : Nat) (X Y PX PY I : Nat → Int32) (l : Nat) (dx dy : Int32) (i : Nat) : Prop := i < l → (I i = 1 → ¬ zSide n X Y (8 * (PX i - dx)) (8 * (PY i - dy)) = 0) ∧ (I i = 0 → zSide n X Y (8 * (PX i - dx)) (8 * (PY i - dy)) = 0)
/-- whether a shift fits what was felt -/
def zFts (n : Nat) (X Y PX PY I : Nat → Int32) (l m : Nat) (dx dy : Int32) : Prop := ∀ i, i < m → zF1 n X Y PX PY I l dx dy i
set_option maxRecDepth 8000 in
set_option maxHeartbeats 4000000 in
theorem fits_ok {d : Nat} {σ : zSt} {K : Option Value → zSt → Prop} {dx dy : Int32} {n m l : Nat} (hI : zQI (kR 0 30) σ.2.2) (hn : σ.1 1 2 = nI n) (hn10 : n ≤ 10) (hp : σ.1 18 2 = nI m) (hm : m ≤ 20) (hl : σ.1 28 0 = nI l) (hl60 : l ≤ 60) (h1 : zFts n (σ.1 2) (σ.1 3) (σ.1 19) (σ.1 20) (fun j => σ.1 29 (0 * 60 + j)) l m dx dy → K (some (.int 1)) σ) (h0 : ¬ zFts n (σ.1 2) (σ.1 3) (σ.1 19) (σ.1 20) (fun j => σ.1 29 (0 * 60 + j)) l m dx dy → K (some (.int 0)) σ) : zSp (d + 4) mX8_fits [.ref 0, .int dx, .int dy] σ K := by
  refine ⟨⟨by decide, Nat.le_of_ble_eq_true rfl⟩, fun V hV => ?_⟩
  refine zq (σ := σ) hV hI rfl 2 ?_
  show V 2 [(3, .int 0), (0, .ref 0), (1, .int dx), (2, .int dy)] [] σ
  refine zwk hV [1, 2, 3, 0] rfl ?_
  have Hi : ∀ (r : Nat) (i : Nat), i + r = m → (∀ j, j < i → zF1 n (σ.1 2) (σ.1 3) (σ.1 19) (σ.1 20) (fun j => σ.1 29 (0 * 60 + j)) l dx dy j) → V 2 [(0, .ref 0), (1, .int dx), (2, .int dy), (3, .int (nI i))] [] σ := by
    intro r
    induction r with
    | zero =>
      intro i him hall
      refine zq (σ := σ) hV hI rfl 4 ?_
      show zSp _ 41 [.ref 18] σ (fun r σ' => σ'.2.2.2 = σ.2.2.2 + zAl 41 → V 10 [(0, .ref 0), (1, .int dx), (2, .int dy), (3, .int (nI i))] (r.toList ++ [.int (nI i)]) σ')
      refine psize_ok (zR_of hI rfl rfl) (fun _ => ?_)
      refine zq (σ := σ) hV hI rfl 1 ?_
      show ((σ.1 18 2) ≤ (nI i) → V 105 [(0, .ref 0), (1, .int dx), (2, .int dy), (3, .int (nI i))] [] σ) ∧ (¬ (σ.1 18 2) ≤ (nI i) → V 13 [(0, .ref 0), (1, .int dx), (2, .int dy), (3, .int (nI i))] [] σ)
      refine ⟨fun _ => ?_, fun hc => absurd (show (σ.1 18 2) ≤ nI i by rw [hp]; exact zge_self (by omega)) hc⟩
      refine zq (σ := σ) hV hI rfl 2 ?_
      show ((1 : Int32) = 0 ∨ (1 : Int32) = 1) ∧ K (some (.int 1)) σ
      refine ⟨by decide, ?_⟩
      obtain rfl : m = i := by omega
      exact h1 hall
    | succ r ihi =>
      intro i him hall
      refine zq (σ := σ) hV hI rfl 4 ?_
      show zSp _ 41 [.ref 18] σ (fun r σ' => σ'.2.2.2 = σ.2.2.2 + zAl 41 → V 10 [(0, .ref 0), (1, .int dx), (2, .int dy), (3, .int (nI i))] (r.toList ++ [.int (nI i)]) σ')
      refine psize_ok (zR_of hI rfl rfl) (fun _ => ?_)
      refine zq (σ := σ) hV hI rfl 1 ?_
      show ((σ.1 18 2) ≤ (nI i) → V 105 [(0, .ref 0), (1, .int dx), (2, .int dy), (3, .int (nI i))] [] σ) ∧ (¬ (σ.1 18 2) ≤ (nI i) → V 13 [(0, .ref 0), (1, .int dx), (2, .int dy), (3, .int (nI i))] [] σ)
      refine ⟨fun hc => absurd hc (show ¬ (σ.1 18 2) ≤ nI i by rw [hp]; exact nI_ge (by omega) (by omega)), fun _ => ?_⟩
      refine zq (σ := σ) hV hI rfl 6 ?_
      show zSp _ 54 [.ref 26, .int 0, .int (nI i), .int 1] σ (fun r σ' => σ'.2.2.2 = σ.2.2.2 + zAl 54 → V 23 [(0, .ref 0), (1, .int dx), (2, .int dy), (3, .int (nI i))] (r.toList ++ []) σ')
      refine hasValue_ok (zR_of hI rfl rfl) (k := 0) rfl (by omega) rfl (by omega) hl hl60 (fun hv1a hv1 _ => ?_) (fun hv1 _ => ?_)
      · skip
        refine zq (σ := σ) hV hI rfl 7 ?_
        show zSp _ 54 [.ref 26, .int 0, .int (nI i), .int 0] σ (fun r σ' => σ'.2.2.2 = σ.2.2.2 + zAl 54 → V 35 [(4, .int 1), (0, .ref 0), (1, .int dx), (2, .int dy), (3, .int (nI i))] (r.toList ++ []) σ')
        refine hasValue_ok (zR_of hI rfl rfl) (k := 0) rfl (by omega) rfl (by omega) hl hl60 (fun hv2a hv2 _ => ?_) (fun hv2 _ => ?_)
        · skip
          refine zq (σ := σ) hV hI rfl 3 ?_
          show (¬ (1 : Int32) = 0 → V 47 [(5, .int 1), (4, .int 1), (0, .ref 0), (1, .int dx), (2, .int dy), (3, .int (nI i))] [] σ) ∧ (¬ (¬ (1 : Int32) = 0) → V 42 [(5, .int 1), (4, .int 1), (0, .ref 0), (1, .int dx), (2, .int dy), (3, .int (nI i))] [] σ)
          refine ⟨fun _ => ?_, fun hc => absurd (by decide) hc⟩
          refine zq (σ := σ) hV hI rfl 7 ?_
          show zSp _ 42 [.ref 18, .int (nI i)] σ (fun r σ' => σ'.2.2.2 = σ.2.2.2 + zAl 42 → V 61 [(5, .int 1), (4, .int 1), (0, .ref 0), (1, .int dx), (2, .int dy), (3, .int (nI i))] (r.toList ++ [.int 8, .ref 1]) σ')
          refine px_ok (zR_of hI rfl rfl) rfl (by omega) (fun _ => ?_)
          refine zq (σ := σ) hV hI rfl 8 ?_
          show zSp _ 43 [.ref 18, .int (nI i)] σ (fun r σ' => σ'.2.2.2 = σ.2.2.2 + zAl 43 → V 74 [(5, .int 1), (4, .int 1), (0, .ref 0), (1, .int dx), (2, .int dy), (3, .int (nI i))] (r.toList ++ [.int 8, .int (8 * ((σ.1 19 i) - dx)), .ref 1]) σ')
          refine py_ok (zR_of hI rfl rfl) rfl (by omega) (fun _ => ?_)
          refine zq (σ := σ) hV hI rfl 4 ?_
          show zSp _ 36 [.ref 1, .int (8 * ((σ.1 19 i) - dx)), .int (8 * ((σ.1 20 i) - dy))] σ (fun r σ' => σ'.2.2.2 = σ.2.2.2 + zAl 36 → V 80 [(5, .int 1), (4, .int 1), (0, .ref 0), (1, .int dx), (2, .int dy), (3, .int (nI i))] (r.toList ++ []) σ')
          refine side_ok (zR_of hI rfl rfl) hn hn10 (fun _ => ?_)
          refine zq (σ := σ) hV hI rfl 4 ?_
          show ((zSide n (σ.1 2) (σ.1 3) (8 * ((σ.1 19 i) - dx)) (8 * ((σ.1 20 i) - dy))) = 0 → V 93 [(6, .int (zSide n (σ.1 2) (σ.1 3) (8 * ((σ.1 19 i) - dx)) (8 * ((σ.1 20 i) - dy)))), (5, .int 1), (4, .int 1), (0, .ref 0), (1, .int dx), (2, .int dy), (3, .int (nI i))] [.int 1] σ) ∧ (¬ (zSide n (σ.1 2) (σ.1 3) (8 * ((σ.1 19 i) - dx)) (8 * ((σ.1 20 i) - dy))) = 0 → V 89 [(6, .int (zSide n (σ.1 2) (σ.1 3) (8 * ((σ.1 19 i) - dx)) (8 * ((σ.1 20 i) - dy)))), (5, .int 1), (4, .int 1), (0, .ref 0), (1, .int dx), (2, .int dy), (3, .int (nI i))] [.int 1] σ)
          refine ⟨fun h_86 => ?_, fun h_86 => ?_⟩
          · skip
            refine zq (σ := σ) hV hI rfl 2 ?_
            show ((1 : Int32) = 0 → V 99 [(6, .int (zSide n (σ.1 2) (σ.1 3) (8 * ((σ.1 19 i) - dx)) (8 * ((σ.1 20 i) - dy)))), (5, .int 1), (4, .int 1), (0, .ref 0), (1, .int dx), (2, .int dy), (3, .int (nI i))] [] σ) ∧ (¬ (1 : Int32) = 0 → V 97 [(6, .int (zSide n (σ.1 2) (σ.1 3) (8 * ((σ.1 19 i) - dx)) (8 * ((σ.1 20 i) - dy)))), (5, .int 1), (4, .int 1), (0, .ref 0), (1, .int dx), (2, .int dy), (3, .int (nI i))] [] σ)
            refine ⟨fun hc => absurd hc (by decide), fun _ => ?_⟩
            refine zq (σ := σ) hV hI rfl 2 ?_
            show ((0 : Int32) = 0 ∨ (0 : Int32) = 1) ∧ K (some (.int 0)) σ
            refine ⟨by decide, ?_⟩
            exact h0 (fun x => ((x i (by omega)) hv1a).1 hv1 h_86)
          · skip
            refine zq (σ := σ) hV hI rfl 3 ?_
            show ((1 : Int32) = 1 → V 99 [(6, .int (zSide n (σ.1 2) (σ.1 3) (8 * ((σ.1 19 i) - dx)) (8 * ((σ.1 20 i) - dy)))), (5, .int 1), (4, .int 1), (0, .ref 0), (1, .int dx), (2, .int dy), (3, .int (nI i))] [] σ) ∧ (¬ (1 : Int32) = 1 → V 97 [(6, .int (zSide n (σ.1 2) (σ.1 3) (8 * ((σ.1 19 i) - dx)) (8 * ((σ.1 20 i) - dy)))), (5, .int 1), (4, .int 1), (0, .ref 0), (1, .int dx), (2, .int dy), (3, .int (nI i))] [] σ)
            refine ⟨fun _ => ?_, fun hc => absurd (by decide) hc⟩
            refine zq (σ := σ) hV hI rfl 2 ?_
            show V 2 [(3, .int ((nI i) + 1)), (6, .int (zSide n (σ.1 2) (σ.1 3) (8 * ((σ.1 19 i) - dx)) (8 * ((σ.1 20 i) - dy)))), (5, .int 1), (4, .int 1), (0, .ref 0), (1, .int dx), (2, .int dy)] [] σ
            refine zwk hV [4, 5, 6, 0] rfl ?_
            rw [nI_1]
            refine ihi (i + 1) (by omega) (fun j hj => ?_)
            by_cases e : j = i
            · subst e
              exact fun _ => ⟨fun _ => h_86, fun c => absurd (hv1.symm.trans c) (by decide)⟩
            · exact hall j (by omega)
        · skip
          refine zq (σ := σ) hV hI rfl 3 ?_
          show (¬ (1 : Int32) = 0 → V 47 [(5, .int 0), (4, .int 1), (0, .ref 0), (1, .int dx), (2, .int dy), (3, .int (nI i))] [] σ) ∧ (¬ (¬ (1 : Int32) = 0) → V 42 [(5, .int 0), (4, .int 1), (0, .ref 0), (1, .int dx), (2, .int dy), (3, .int (nI i))] [] σ)
          refine ⟨fun _ => ?_, fun hc => absurd (by decide) hc⟩
          refine zq (σ := σ) hV hI rfl 7 ?_
          show zSp _ 42 [.ref 18, .int (nI i)] σ (fun r σ' => σ'.2.2.2 = σ.2.2.2 + zAl 42 → V 61 [(5, .int 0), (4, .int 1), (0, .ref 0), (1, .int dx), (2, .int dy), (3, .int (nI i))] (r.toList ++ [.int 8, .ref 1]) σ')
          refine px_ok (zR_of hI rfl rfl) rfl (by omega) (fun _ => ?_)
          refine zq (σ := σ) hV hI rfl 8 ?_
          show zSp _ 43 [.ref 18, .int (nI i)] σ (fun r σ' => σ'.2.2.2 = σ.2.2.2 + zAl 43 → V 74 [(5, .int 0), (4, .int 1), (0, .ref 0), (1, .int dx), (2, .int dy), (3, .int (nI i))] (r.toList ++ [.int 8, .int (8 * ((σ.1 19 i) - dx)), .ref 1]) σ')
          refine py_ok (zR_of hI rfl rfl) rfl (by omega) (fun _ => ?_)
          refine zq (σ := σ) hV hI rfl 4 ?_
          show zSp _ 36 [.ref 1, .int (8 * ((σ.1 19 i) - dx)), .int (8 * ((σ.1 20 i) - dy))] σ (fun r σ' => σ'.2.2.2 = σ.2.2.2 + zAl 36 → V 80 [(5, .int 0), (4, .int 1), (0, .ref 0), (1, .int dx), (2, .int dy), (3, .int (nI i))] (r.toList ++ []) σ')
          refine side_ok (zR_of hI rfl rfl) hn hn10 (fun _ => ?_)
          refine zq (σ := σ) hV hI rfl 4 ?_
          show ((zSide n (σ.1 2) (σ.1 3) (8 * ((σ.1 19 i) - dx)) (8 * ((σ.1 20 i) - dy))) = 0 → V 93 [(6, .int (zSide n (σ.1 2) (σ.1 3) (8 * ((σ.1 19 i) - dx)) (8 * ((σ.1 20 i) - dy)))), (5, .int 0), (4, .int 1), (0, .ref 0), (1, .int dx), (2, .int dy), (3, .int (nI i))] [.int 1] σ) ∧ (¬ (zSide n (σ.1 2) (σ.1 3) (8 * ((σ.1 19 i) - dx)) (8 * ((σ.1 20 i) - dy))) = 0 → V 89 [(6, .int (zSide n (σ.1 2) (σ.1 3) (8 * ((σ.1 19 i) - dx)) (8 * ((σ.1 20 i) - dy)))), (5, .int 0), (4, .int 1), (0, .ref 0), (1, .int dx), (2, .int dy), (3, .int (nI i))] [.int 1] σ)
          refine ⟨fun h_86 => ?_, fun h_86 => ?_⟩
          · skip
            refine zq (σ := σ) hV hI rfl 2 ?_
            show ((1 : Int32) = 0 → V 99 [(6, .int (zSide n (σ.1 2) (σ.1 3) (8 * ((σ.1 19 i) - dx)) (8 * ((σ.1 20 i) - dy)))), (5, .int 0), (4, .int 1), (0, .ref 0), (1, .int dx), (2, .int dy), (3, .int (nI i))] [] σ) ∧ (¬ (1 : Int32) = 0 → V 97 [(6, .int (zSide n (σ.1 2) (σ.1 3) (8 * ((σ.1 19 i) - dx)) (8 * ((σ.1 20 i) - dy)))), (5, .int 0), (4, .int 1), (0, .ref 0), (1, .int dx), (2, .int dy), (3, .int (nI i))] [] σ)
            refine ⟨fun hc => absurd hc (by decide), fun _ => ?_⟩
            refine zq (σ := σ) hV hI rfl 2 ?_
            show ((0 : Int32) = 0 ∨ (0 : Int32) = 1) ∧ K (some (.int 0)) σ
            refine ⟨by decide, ?_⟩
            exact h0 (fun x => ((x i (by omega)) hv1a).1 hv1 h_86)
          · skip
            refine zq (σ := σ) hV hI rfl 3 ?_
            show ((1 : Int32) = 1 → V 99 [(6, .int (zSide n (σ.1 2) (σ.1 3) (8 * ((σ.1 19 i) - dx)) (8 * ((σ.1 20 i) - dy)))), (5, .int 0), (4, .int 1), (0, .ref 0), (1, .int dx), (2, .int dy), (3, .int (nI i))] [] σ) ∧ (¬ (1 : Int32) = 1 → V 97 [(6, .int (zSide n (σ.1 2) (σ.1 3) (8 * ((σ.1 19 i) - dx)) (8 * ((σ.1 20 i) - dy)))), (5, .int 0), (4, .int 1), (0, .ref 0), (1, .int dx), (2, .int dy), (3, .int (nI i))] [] σ)
            refine ⟨fun _ => ?_, fun hc => absurd (by decide) hc⟩
            refine zq (σ := σ) hV hI rfl 2 ?_
            show V 2 [(3, .int ((nI i) + 1)), (6, .int (zSide n (σ.1 2) (σ.1 3) (8 * ((σ.1 19 i) - dx)) (8 * ((σ.1 20 i) - dy)))), (5, .int 0), (4, .int 1), (0, .ref 0), (1, .int dx), (2, .int dy)] [] σ
            refine zwk hV [4, 5, 6, 0] rfl ?_
            rw [nI_1]
            refine ihi (i + 1) (by omega) (fun j hj => ?_)
            by_cases e : j = i
            · subst e
              exact fun _ => ⟨fun _ => h_86, fun c => absurd (hv1.symm.trans c) (by decide)⟩
            · exact hall j (by omega)
      · skip
        refine zq (σ := σ) hV hI rfl 7 ?_
        show zSp _ 54 [.ref 26, .int 0, .int (nI i), .int 0] σ (fun r σ' => σ'.2.2.2 = σ.2.2.2 + zAl 54 → V 35 [(4, .int 0), (0, .ref 0), (1, .int dx), (2, .int dy), (3, .int (nI i))] (r.toList ++ []) σ')
        refine hasValue_ok (zR_of hI rfl rfl) (k := 0) rfl (by omega) rfl (by omega) hl hl60 (fun hv3a hv3 _ => ?_) (fun hv3 _ => ?_)
        · skip
          refine zq (σ := σ) hV hI rfl 3 ?_
          show (¬ (0 : Int32) = 0 → V 47 [(5, .int 1), (4, .int 0), (0, .ref 0), (1, .int dx), (2, .int dy), (3, .int (nI i))] [] σ) ∧ (¬ (¬ (0 : Int32) = 0) → V 42 [(5, .int 1), (4, .int 0), (0, .ref 0), (1, .int dx), (2, .int dy), (3, .int (nI i))] [] σ)
          refine ⟨fun hc => absurd hc (by decide), fun _ => ?_⟩
          refine zq (σ := σ) hV hI rfl 2 ?_
          show ((1 : Int32) = 0 → V 99 [(5, .int 1), (4, .int 0), (0, .ref 0), (1, .int dx), (2, .int dy), (3, .int (nI i))] [] σ) ∧ (¬ (1 : Int32) = 0 → V 47 [(5, .int 1), (4, .int 0), (0, .ref 0), (1, .int dx), (2, .int dy), (3, .int (nI i))] [] σ)
          refine ⟨fun hc => absurd hc (by decide), fun _ => ?_⟩
          refine zq (σ := σ) hV hI rfl 7 ?_
          show zSp _ 42 [.ref 18, .int (nI i)] σ (fun r σ' => σ'.2.2.2 = σ.2.2.2 + zAl 42 → V 61 [(5, .int 1), (4, .int 0), (0, .ref 0), (1, .int dx), (2, .int dy), (3, .int (nI i))] (r.toList ++ [.int 8, .ref 1]) σ')
          refine px_ok (zR_of hI rfl rfl) rfl (by omega) (fun _ => ?_)
          refine zq (σ := σ) hV hI rfl 8 ?_
          show zSp _ 43 [.ref 18, .int (nI i)] σ (fun r σ' => σ'.2.2.2 = σ.2.2.2 + zAl 43 → V 74 [(5, .int 1), (4, .int 0), (0, .ref 0), (1, .int dx), (2, .int dy), (3, .int (nI i))] (r.toList ++ [.int 8, .int (8 * ((σ.1 19 i) - dx)), .ref 1]) σ')
          refine py_ok (zR_of hI rfl rfl) rfl (by omega) (fun _ => ?_)
          refine zq (σ := σ) hV hI rfl 4 ?_
          show zSp _ 36 [.ref 1, .int (8 * ((σ.1 19 i) - dx)), .int (8 * ((σ.1 20 i) - dy))] σ (fun r σ' => σ'.2.2.2 = σ.2.2.2 + zAl 36 → V 80 [(5, .int 1), (4, .int 0), (0, .ref 0), (1, .int dx), (2, .int dy), (3, .int (nI i))] (r.toList ++ []) σ')
          refine side_ok (zR_of hI rfl rfl) hn hn10 (fun _ => ?_)
          refine zq (σ := σ) hV hI rfl 4 ?_
          show ((zSide n (σ.1 2) (σ.1 3) (8 * ((σ.1 19 i) - dx)) (8 * ((σ.1 20 i) - dy))) = 0 → V 93 [(6, .int (zSide n (σ.1 2) (σ.1 3) (8 * ((σ.1 19 i) - dx)) (8 * ((σ.1 20 i) - dy)))), (5, .int 1), (4, .int 0), (0, .ref 0), (1, .int dx), (2, .int dy), (3, .int (nI i))] [.int 0] σ) ∧ (¬ (zSide n (σ.1 2) (σ.1 3) (8 * ((σ.1 19 i) - dx)) (8 * ((σ.1 20 i) - dy))) = 0 → V 89 [(6, .int (zSide n (σ.1 2) (σ.1 3) (8 * ((σ.1 19 i) - dx)) (8 * ((σ.1 20 i) - dy)))), (5, .int 1), (4, .int 0), (0, .ref 0), (1, .int dx), (2, .int dy), (3, .int (nI i))] [.int 0] σ)
          refine ⟨fun h_86 => ?_, fun h_86 => ?_⟩
          · skip
            refine zq (σ := σ) hV hI rfl 2 ?_
            show ((0 : Int32) = 0 → V 99 [(6, .int (zSide n (σ.1 2) (σ.1 3) (8 * ((σ.1 19 i) - dx)) (8 * ((σ.1 20 i) - dy)))), (5, .int 1), (4, .int 0), (0, .ref 0), (1, .int dx), (2, .int dy), (3, .int (nI i))] [] σ) ∧ (¬ (0 : Int32) = 0 → V 97 [(6, .int (zSide n (σ.1 2) (σ.1 3) (8 * ((σ.1 19 i) - dx)) (8 * ((σ.1 20 i) - dy)))), (5, .int 1), (4, .int 0), (0, .ref 0), (1, .int dx), (2, .int dy), (3, .int (nI i))] [] σ)
            refine ⟨fun _ => ?_, fun hc => absurd (by decide) hc⟩
            refine zq (σ := σ) hV hI rfl 2 ?_
            show V 2 [(3, .int ((nI i) + 1)), (6, .int (zSide n (σ.1 2) (σ.1 3) (8 * ((σ.1 19 i) - dx)) (8 * ((σ.1 20 i) - dy)))), (5, .int 1), (4, .int 0), (0, .ref 0), (1, .int dx), (2, .int dy)] [] σ
            refine zwk hV [4, 5, 6, 0] rfl ?_
            rw [nI_1]
            refine ihi (i + 1) (by omega) (fun j hj => ?_)
            by_cases e : j = i
            · subst e
              exact fun _ => ⟨fun c => absurd (hv3.symm.trans c) (by decide), fun _ => h_86⟩
            · exact hall j (by omega)
          · skip
            refine zq (σ := σ) hV hI rfl 3 ?_
            show ((0 : Int32) = 1 → V 99 [(6, .int (zSide n (σ.1 2) (σ.1 3) (8 * ((σ.1 19 i) - dx)) (8 * ((σ.1 20 i) - dy)))), (5, .int 1), (4, .int 0), (0, .ref 0), (1, .int dx), (2, .int dy), (3, .int (nI i))] [] σ) ∧ (¬ (0 : Int32) = 1 → V 97 [(6, .int (zSide n (σ.1 2) (σ.1 3) (8 * ((σ.1 19 i) - dx)) (8 * ((σ.1 20 i) - dy)))), (5, .int 1), (4, .int 0), (0, .ref 0), (1, .int dx), (2, .int dy), (3, .int (nI i))] [] σ)
            refine ⟨fun hc => absurd hc (by decide), fun _ => ?_⟩
            refine zq (σ := σ) hV hI rfl 2 ?_
            show ((0 : Int32) = 0 ∨ (0 : Int32) = 1) ∧ K (some (.int 0)) σ
            refine ⟨by decide, ?_⟩
            exact h0 (fun x => h_86 (((x i (by omega)) hv3a).2 hv3))
        · skip
          refine zq (σ := σ) hV hI rfl 3 ?_
          show (¬ (0 : Int32) = 0 → V 47 [(5, .int 0), (4, .int 0), (0, .ref 0), (1, .int dx), (2, .int dy), (3, .int (nI i))] [] σ) ∧ (¬ (¬ (0 : Int32) = 0) → V 42 [(5, .int 0), (4, .int 0), (0, .ref 0), (1, .int dx), (2, .int dy), (3, .int (nI i))] [] σ)
          refine ⟨fun hc => absurd hc (by decide), fun _ => ?_⟩
          refine zq (σ := σ) hV hI rfl 2 ?_
          show ((0 : Int32) = 0 → V 99 [(5, .int 0), (4, .int 0), (0, .ref 0), (1, .int dx), (2, .int dy), (3, .int (nI i))] [] σ) ∧ (¬ (0 : Int32) = 0 → V 47 [(5, .int 0), (4, .int 0), (0, .ref 0), (1, .int dx), (2, .int dy), (3, .int (nI i))] [] σ)
          refine ⟨fun _ => ?_, fun hc => absurd (by decide) hc⟩
          refine zq (σ := σ) hV hI rfl 2 ?_
          show V 2 [(3, .int ((nI i) + 1)), (5, .int 0), (4, .int 0), (0, .ref 0), (1, .int dx), (2, .int dy)] [] σ
          refine zwk hV [3, 4, 5, 0] rfl ?_
          rw [nI_1]
          refine ihi (i + 1) (by omega) (fun j hj => ?_)
          by_cases e : j = i
          · subst e
            exact fun q => ⟨fun c => absurd ⟨q, c⟩ hv1, fun c => absurd ⟨q, c⟩ hv3⟩
          · exact hall j (by omega)
  exact Hi m 0 (by omega) (fun j q => absurd q (Nat.not_lt_zero j))
def zCo (F : Nat → Bool) : Nat → Int32
  | 0 => 0
  | q + 1 => if F q = true then zCo F q + 1 else zCo F q
/-- the shifts in their order: 9 by 9 -/
noncomputable def zFp (n : Nat) (X Y PX PY I : Nat → Int32) (l m : Nat) (q : Nat) : Bool := zDc (zFts n X Y PX PY I l m (nI (q / 9) - 4) (nI (q % 9) - 4))
theorem z4n {i : Nat} : (nI i - 4) + 1 = nI (i + 1) - 4 := by
  rw [← nI_1, Int32.sub_eq_add_neg, Int32.sub_eq_add_neg, Int32.add_assoc, Int32.add_assoc, Int32.add_comm (-4) 1]
theorem z4gt {i : Nat} (h : i < 9) : ¬ (4 : Int32) < nI i - 4 := by
  rcases (show i = 0 ∨ i = 1 ∨ i = 2 ∨ i = 3 ∨ i = 4 ∨ i = 5 ∨ i = 6 ∨ i = 7 ∨ i = 8 by omega) with h | h | h | h | h | h | h | h | h <;> subst h <;> decide
theorem z10p {i j : Nat} : 10 * ((nI i - 4) + 4) + (nI j - 4) + 4 = nI (10 * i + j) := by
  rw [Int32.sub_add_cancel, Int32.add_assoc, Int32.sub_add_cancel, show (10 : Int32) = nI 10 from rfl, pk_mul, nI_add]
set_option maxRecDepth 8000 in
set_option maxHeartbeats 4000000 in
theorem poses_C {d : Nat} {σ : zSt} {K : Option Value → zSt → Prop} {n m l : Nat} (hI : zQI (kR 0 30) σ.2.2) (hn : σ.1 1 2 = nI n) (hn10 : n ≤ 10) (hp : σ.1 18 2 = nI m) (hm : m ≤ 20) (hl : σ.1 28 0 = nI l) (hl60 : l ≤ 60) (hK : K (some (.int (zCo (zFp n (σ.1 2) (σ.1 3) (σ.1 19) (σ.1 20) (fun j => σ.1 29 (0 * 60 + j)) l m) 81))) σ) : zSp (d + 5) mX8_poses [.ref 0] σ K := by
  refine ⟨⟨by decide, Nat.le_of_ble_eq_true rfl⟩, fun V hV => ?_⟩
  refine zq (σ := σ) hV hI rfl 4 ?_
  show V 5 [(2, .int (-4)), (1, .int 0), (0, .ref 0)] [] σ
  refine zwk hV [2, 1, 0] rfl ?_
  have Hi : ∀ (r : Nat) (i : Nat) (c : Int32), i + r = 9 → c = zCo (zFp n (σ.1 2) (σ.1 3) (σ.1 19) (σ.1 20) (fun j => σ.1 29 (0 * 60 + j)) l m) (9 * i) → V 5 [(0, .ref 0), (1, .int c), (2, .int (nI i - 4))] [] σ := by
    intro r
    induction r with
    | zero =>
      intro i c hir hc
      refine zq (σ := σ) hV hI rfl 3 ?_
      show (4 < (nI i - 4) → V 42 [(0, .ref 0), (1, .int c), (2, .int (nI i - 4))] [] σ) ∧ (¬ 4 < (nI i - 4) → V 10 [(0, .ref 0), (1, .int c), (2, .int (nI i - 4))] [] σ)
      refine ⟨fun _ => ?_, fun hc => absurd (show (4 : Int32) < nI i - 4 by rw [show i = 9 by omega]; decide) hc⟩
      refine zq (σ := σ) hV hI rfl 2 ?_
      show K (some (.int c)) σ
      obtain rfl : i = 9 := by omega
      rw [hc]
      exact hK
    | succ r ihi =>
      intro i c hir hc
      refine zq (σ := σ) hV hI rfl 3 ?_
      show (4 < (nI i - 4) → V 42 [(0, .ref 0), (1, .int c), (2, .int (nI i - 4))] [] σ) ∧ (¬ 4 < (nI i - 4) → V 10 [(0, .ref 0), (1, .int c), (2, .int (nI i - 4))] [] σ)
      refine ⟨fun hc => absurd hc (show ¬ (4 : Int32) < nI i - 4 from z4gt (by omega)), fun _ => ?_⟩
      refine zq (σ := σ) hV hI rfl 2 ?_
      show V 13 [(3, .int (-4)), (0, .ref 0), (1, .int c), (2, .int (nI i - 4))] [] σ
      refine zwk hV [1, 2, 3, 0] rfl ?_
      have Hj : ∀ (r : Nat) (j : Nat) (c2 : Int32), j + r = 9 → c2 = zCo (zFp n (σ.1 2) (σ.1 3) (σ.1 19) (σ.1 20) (fun j => σ.1 29 (0 * 60 + j)) l m) (9 * i + j) → V 13 [(0, .ref 0), (1, .int c2), (2, .int (nI i - 4)), (3, .int (nI j - 4))] [] σ := by
        intro r
        induction r with
        | zero =>
          intro j c2 hjr hc2
          refine zq (σ := σ) hV hI rfl 3 ?_
          show (4 < (nI j - 4) → V 36 [(0, .ref 0), (1, .int c2), (2, .int (nI i - 4)), (3, .int (nI j - 4))] [] σ) ∧ (¬ 4 < (nI j - 4) → V 18 [(0, .ref 0), (1, .int c2), (2, .int (nI i - 4)), (3, .int (nI j - 4))] [] σ)
          refine ⟨fun _ => ?_, fun hc => absurd (show (4 : Int32) < nI j - 4 by rw [show j = 9 by omega]; decide) hc⟩
          refine zq (σ := σ) hV hI rfl 2 ?_
          show V 5 [(2, .int ((nI i - 4) + 1)), (0, .ref 0), (1, .int c2), (3, .int (nI j - 4))] [] σ
          refine zwk hV [1, 2, 0] rfl ?_
          rw [z4n]
          exact ihi (i + 1) c2 (by omega) (by rw [hc2, show j = 9 by omega, show 9 * i + 9 = 9 * (i + 1) by omega])
        | succ r ihj =>
          intro j c2 hjr hc2
          refine zq (σ := σ) hV hI rfl 3 ?_
          show (4 < (nI j - 4) → V 36 [(0, .ref 0), (1, .int c2), (2, .int (nI i - 4)), (3, .int (nI j - 4))] [] σ) ∧ (¬ 4 < (nI j - 4) → V 18 [(0, .ref 0), (1, .int c2), (2, .int (nI i - 4)), (3, .int (nI j - 4))] [] σ)
          refine ⟨fun hc => absurd hc (show ¬ (4 : Int32) < nI j - 4 from z4gt (by omega)), fun _ => ?_⟩
          refine zq (σ := σ) hV hI rfl 4 ?_
          show zSp _ 101 [.ref 0, .int (nI i - 4), .int (nI j - 4)] σ (fun r σ' => σ'.2.2.2 = σ.2.2.2 + zAl 101 → V 24 [(0, .ref 0), (1, .int c2), (2, .int (nI i - 4)), (3, .int (nI j - 4))] (r.toList ++ []) σ')
          refine fits_ok hI hn hn10 hp hm hl hl60 (fun hb1 _ => ?_) (fun hb1 _ => ?_)
          · skip
            have hF : (zFp n (σ.1 2) (σ.1 3) (σ.1 19) (σ.1 20) (fun j => σ.1 29 (0 * 60 + j)) l m) (9 * i + j) = true := by unfold zFp; rw [show (9 * i + j) / 9 = i by omega, show (9 * i + j) % 9 = j by omega]; exact zDc_t hb1
            refine zq (σ := σ) hV hI rfl 1 ?_
            show ((1 : Int32) = 0 → V 30 [(0, .ref 0), (1, .int c2), (2, .int (nI i - 4)), (3, .int (nI j - 4))] [] σ) ∧ (¬ (1 : Int32) = 0 → V 27 [(0, .ref 0), (1, .int c2), (2, .int (nI i - 4)), (3, .int (nI j - 4))] [] σ)
            refine ⟨fun hc => absurd hc (by decide), fun _ => ?_⟩
            refine zq (σ := σ) hV hI rfl 3 ?_
            show V 13 [(3, .int ((nI j - 4) + 1)), (1, .int (c2 + 1)), (0, .ref 0), (2, .int (nI i - 4))] [] σ
            refine zwk hV [2, 1, 3, 0] rfl ?_
            rw [z4n]
            refine ihj (j + 1) _ (by omega) ?_
            show _ = (if (zFp n (σ.1 2) (σ.1 3) (σ.1 19) (σ.1 20) (fun j => σ.1 29 (0 * 60 + j)) l m) (9 * i + j) = true then zCo (zFp n (σ.1 2) (σ.1 3) (σ.1 19) (σ.1 20) (fun j => σ.1 29 (0 * 60 + j)) l m) (9 * i + j) + 1 else zCo (zFp n (σ.1 2) (σ.1 3) (σ.1 19) (σ.1 20) (fun j => σ.1 29 (0 * 60 + j)) l m) (9 * i + j))
            rw [hF]
            rw [if_pos rfl, hc2]
          · skip
            have hF : (zFp n (σ.1 2) (σ.1 3) (σ.1 19) (σ.1 20) (fun j => σ.1 29 (0 * 60 + j)) l m) (9 * i + j) = false := by unfold zFp; rw [show (9 * i + j) / 9 = i by omega, show (9 * i + j) % 9 = j by omega]; exact zDc_f hb1
            refine zq (σ := σ) hV hI rfl 1 ?_
            show ((0 : Int32) = 0 → V 30 [(0, .ref 0), (1, .int c2), (2, .int (nI i - 4)), (3, .int (nI j - 4))] [] σ) ∧ (¬ (0 : Int32) = 0 → V 27 [(0, .ref 0), (1, .int c2), (2, .int (nI i - 4)), (3, .int (nI j - 4))] [] σ)
            refine ⟨fun _ => ?_, fun hc => absurd (by decide) hc⟩
            refine zq (σ := σ) hV hI rfl 2 ?_
            show V 13 [(3, .int ((nI j - 4) + 1)), (0, .ref 0), (1, .int c2), (2, .int (nI i - 4))] [] σ
            refine zwk hV [1, 2, 3, 0] rfl ?_
            rw [z4n]
            refine ihj (j + 1) _ (by omega) ?_
            show _ = (if (zFp n (σ.1 2) (σ.1 3) (σ.1 19) (σ.1 20) (fun j => σ.1 29 (0 * 60 + j)) l m) (9 * i + j) = true then zCo (zFp n (σ.1 2) (σ.1 3) (σ.1 19) (σ.1 20) (fun j => σ.1 29 (0 * 60 + j)) l m) (9 * i + j) + 1 else zCo (zFp n (σ.1 2) (σ.1 3) (σ.1 19) (σ.1 20) (fun j => σ.1 29 (0 * 60 + j)) l m) (9 * i + j))
            rw [hF]
            rw [if_neg (by decide)]; exact hc2
      exact Hj 9 0 c rfl hc
  exact Hi 9 0 0 rfl rfl
set_option maxRecDepth 8000 in
set_option maxHeartbeats 4000000 in
theorem pose_C {d : Nat} {σ : zSt} {K : Option Value → zSt → Prop} {x : Int32} {n m l : Nat} (hI : zQI (kR 0 30) σ.2.2) (hn : σ.1 1 2 = nI n) (hn10 : n ≤ 10) (hp : σ.1 18 2 = nI m) (hm : m ≤ 20) (hl : σ.1 28 0 = nI l) (hl60 : l ≤ 60) (hBad : x < 0 → K (some (.int (-2))) σ) (hNo : (∀ q, q < 81 → ¬ ((zFp n (σ.1 2) (σ.1 3) (σ.1 19) (σ.1 20) (fun j => σ.1 29 (0 * 60 + j)) l m) q = true ∧ zCo (zFp n (σ.1 2) (σ.1 3) (σ.1 19) (σ.1 20) (fun j => σ.1 29 (0 * 60 + j)) l m) q = x)) → K (some (.int (-2))) σ) (hOk : ∀ i j, i < 9 → j < 9 → ((zFp n (σ.1 2) (σ.1 3) (σ.1 19) (σ.1 20) (fun j => σ.1 29 (0 * 60 + j)) l m) (9 * i + j) = true ∧ zCo (zFp n (σ.1 2) (σ.1 3) (σ.1 19) (σ.1 20) (fun j => σ.1 29 (0 * 60 + j)) l m) (9 * i + j) = x) → (∀ q, q < 9 * i + j → ¬ ((zFp n (σ.1 2) (σ.1 3) (σ.1 19) (σ.1 20) (fun j => σ.1 29 (0 * 60 + j)) l m) q = true ∧ zCo (zFp n (σ.1 2) (σ.1 3) (σ.1 19) (σ.1 20) (fun j => σ.1 29 (0 * 60 + j)) l m) q = x)) → K (some (.int (nI (10 * i + j)))) σ) : zSp (d + 5) mX8_pose [.ref 0, .int x] σ K := by
  refine ⟨⟨by decide, Nat.le_of_ble_eq_true rfl⟩, fun V hV => ?_⟩
  refine zq (σ := σ) hV hI rfl 2 ?_
  show (0 ≤ x → V 7 [(0, .ref 0), (1, .int x)] [] σ) ∧ (¬ 0 ≤ x → V 4 [(0, .ref 0), (1, .int x)] [] σ)
  refine ⟨fun h_1 => ?_, fun h_1 => ?_⟩
  · skip
    refine zq (σ := σ) hV hI rfl 4 ?_
    show V 12 [(3, .int (-4)), (2, .int 0), (0, .ref 0), (1, .int x)] [] σ
    refine zwk hV [2, 3, 1, 0] rfl ?_
    have Hi : ∀ (r : Nat) (i : Nat) (c : Int32), i + r = 9 → c = zCo (zFp n (σ.1 2) (σ.1 3) (σ.1 19) (σ.1 20) (fun j => σ.1 29 (0 * 60 + j)) l m) (9 * i) → (∀ q, q < 9 * i → ¬ ((zFp n (σ.1 2) (σ.1 3) (σ.1 19) (σ.1 20) (fun j => σ.1 29 (0 * 60 + j)) l m) q = true ∧ zCo (zFp n (σ.1 2) (σ.1 3) (σ.1 19) (σ.1 20) (fun j => σ.1 29 (0 * 60 + j)) l m) q = x)) → V 12 [(0, .ref 0), (1, .int x), (2, .int c), (3, .int (nI i - 4))] [] σ := by
      intro r
      induction r with
      | zero =>
        intro i c hir hc hno
        refine zq (σ := σ) hV hI rfl 3 ?_
        show (4 < (nI i - 4) → V 69 [(0, .ref 0), (1, .int x), (2, .int c), (3, .int (nI i - 4))] [] σ) ∧ (¬ 4 < (nI i - 4) → V 17 [(0, .ref 0), (1, .int x), (2, .int c), (3, .int (nI i - 4))] [] σ)
        refine ⟨fun _ => ?_, fun hc => absurd (show (4 : Int32) < nI i - 4 by rw [show i = 9 by omega]; decide) hc⟩
        refine zq (σ := σ) hV hI rfl 2 ?_
        show K (some (.int (-2))) σ
        exact hNo (fun q hq => hno q (by omega))
      | succ r ihi =>
        intro i c hir hc hno
        refine zq (σ := σ) hV hI rfl 3 ?_
        show (4 < (nI i - 4) → V 69 [(0, .ref 0), (1, .int x), (2, .int c), (3, .int (nI i - 4))] [] σ) ∧ (¬ 4 < (nI i - 4) → V 17 [(0, .ref 0), (1, .int x), (2, .int c), (3, .int (nI i - 4))] [] σ)
        refine ⟨fun hc => absurd hc (show ¬ (4 : Int32) < nI i - 4 from z4gt (by omega)), fun _ => ?_⟩
        refine zq (σ := σ) hV hI rfl 2 ?_
        show V 21 [(4, .int (-4)), (0, .ref 0), (1, .int x), (2, .int c), (3, .int (nI i - 4))] [] σ
        refine zwk hV [1, 2, 3, 4, 0] rfl ?_
        have Hj : ∀ (r : Nat) (j : Nat) (c2 : Int32), j + r = 9 → c2 = zCo (zFp n (σ.1 2) (σ.1 3) (σ.1 19) (σ.1 20) (fun j => σ.1 29 (0 * 60 + j)) l m) (9 * i + j) → (∀ q, q < 9 * i + j → ¬ ((zFp n (σ.1 2) (σ.1 3) (σ.1 19) (σ.1 20) (fun j => σ.1 29 (0 * 60 + j)) l m) q = true ∧ zCo (zFp n (σ.1 2) (σ.1 3) (σ.1 19) (σ.1 20) (fun j => σ.1 29 (0 * 60 + j)) l m) q = x)) → V 21 [(0, .ref 0), (1, .int x), (2, .int c2), (3, .int (nI i - 4)), (4, .int (nI j - 4))] [] σ := by
          intro r
          induction r with
          | zero =>
            intro j c2 hjr hc2 hno2
            refine zq (σ := σ) hV hI rfl 3 ?_
            show (4 < (nI j - 4) → V 63 [(0, .ref 0), (1, .int x), (2, .int c2), (3, .int (nI i - 4)), (4, .int (nI j - 4))] [] σ) ∧ (¬ 4 < (nI j - 4) → V 27 [(0, .ref 0), (1, .int x), (2, .int c2), (3, .int (nI i - 4)), (4, .int (nI j - 4))] [] σ)
            refine ⟨fun _ => ?_, fun hc => absurd (show (4 : Int32) < nI j - 4 by rw [show j = 9 by omega]; decide) hc⟩
            refine zq (σ := σ) hV hI rfl 2 ?_
            show V 12 [(3, .int ((nI i - 4) + 1)), (0, .ref 0), (1, .int x), (2, .int c2), (4, .int (nI j - 4))] [] σ
            refine zwk hV [1, 2, 3, 0] rfl ?_
            rw [z4n]
            exact ihi (i + 1) c2 (by omega) (by rw [hc2, show j = 9 by omega, show 9 * i + 9 = 9 * (i + 1) by omega]) (fun q hq => hno2 q (by omega))
          | succ r ihj =>
            intro j c2 hjr hc2 hno2
            refine zq (σ := σ) hV hI rfl 3 ?_
            show (4 < (nI j - 4) → V 63 [(0, .ref 0), (1, .int x), (2, .int c2), (3, .int (nI i - 4)), (4, .int (nI j - 4))] [] σ) ∧ (¬ 4 < (nI j - 4) → V 27 [(0, .ref 0), (1, .int x), (2, .int c2), (3, .int (nI i - 4)), (4, .int (nI j - 4))] [] σ)
            refine ⟨fun hc => absurd hc (show ¬ (4 : Int32) < nI j - 4 from z4gt (by omega)), fun _ => ?_⟩
            refine zq (σ := σ) hV hI rfl 4 ?_
            show zSp _ 101 [.ref 0, .int (nI i - 4), .int (nI j - 4)] σ (fun r σ' => σ'.2.2.2 = σ.2.2.2 + zAl 101 → V 34 [(0, .ref 0), (1, .int x), (2, .int c2), (3, .int (nI i - 4)), (4, .int (nI j - 4))] (r.toList ++ []) σ')
            refine fits_ok hI hn hn10 hp hm hl hl60 (fun hb1 _ => ?_) (fun hb1 _ => ?_)
            · skip
              have hF : (zFp n (σ.1 2) (σ.1 3) (σ.1 19) (σ.1 20) (fun j => σ.1 29 (0 * 60 + j)) l m) (9 * i + j) = true := by unfold zFp; rw [show (9 * i + j) / 9 = i by omega, show (9 * i + j) % 9 = j by omega]; exact zDc_t hb1
              refine zq (σ := σ) hV hI rfl 1 ?_
              show ((1 : Int32) = 0 → V 57 [(0, .ref 0), (1, .int x), (2, .int c2), (3, .int (nI i - 4)), (4, .int (nI j - 4))] [] σ) ∧ (¬ (1 : Int32) = 0 → V 37 [(0, .ref 0), (1, .int x), (2, .int c2), (3, .int (nI i - 4)), (4, .int (nI j - 4))] [] σ)
              refine ⟨fun hc => absurd hc (by decide), fun _ => ?_⟩
              refine zq (σ := σ) hV hI rfl 3 ?_
              show (¬ c2 = x → V 54 [(0, .ref 0), (1, .int x), (2, .int c2), (3, .int (nI i - 4)), (4, .int (nI j - 4))] [] σ) ∧ (¬ (¬ c2 = x) → V 42 [(0, .ref 0), (1, .int x), (2, .int c2), (3, .int (nI i - 4)), (4, .int (nI j - 4))] [] σ)
              refine ⟨fun h_39 => ?_, fun h_39 => ?_⟩
              · skip
                refine zq (σ := σ) hV hI rfl 3 ?_
                show V 21 [(4, .int ((nI j - 4) + 1)), (2, .int (c2 + 1)), (0, .ref 0), (1, .int x), (3, .int (nI i - 4))] [] σ
                refine zwk hV [2, 3, 1, 4, 0] rfl ?_
                rw [z4n]
                refine ihj (j + 1) _ (by omega) ?_ (fun q hq => ?_)
                · show _ = (if (zFp n (σ.1 2) (σ.1 3) (σ.1 19) (σ.1 20) (fun j => σ.1 29 (0 * 60 + j)) l m) (9 * i + j) = true then zCo (zFp n (σ.1 2) (σ.1 3) (σ.1 19) (σ.1 20) (fun j => σ.1 29 (0 * 60 + j)) l m) (9 * i + j) + 1 else zCo (zFp n (σ.1 2) (σ.1 3) (σ.1 19) (σ.1 20) (fun j => σ.1 29 (0 * 60 + j)) l m) (9 * i + j))
                  rw [hF]
                  rw [if_pos rfl, hc2]
                · by_cases e : q = 9 * i + j
                  · rw [e, ← hc2]; exact fun x => h_39 x.2
                  · exact hno2 q (by omega)
              · skip
                have h_39 := Classical.not_not.mp h_39
                refine zq (σ := σ) hV hI rfl 10 ?_
                show K (some (.int (((10 * ((nI i - 4) + 4)) + (nI j - 4)) + 4))) σ
                rw [z10p]
                refine hOk i j (by omega) (by omega) ⟨hF, hc2.symm.trans h_39⟩ hno2
            · skip
              have hF : (zFp n (σ.1 2) (σ.1 3) (σ.1 19) (σ.1 20) (fun j => σ.1 29 (0 * 60 + j)) l m) (9 * i + j) = false := by unfold zFp; rw [show (9 * i + j) / 9 = i by omega, show (9 * i + j) % 9 = j by omega]; exact zDc_f hb1
              refine zq (σ := σ) hV hI rfl 1 ?_
              show ((0 : Int32) = 0 → V 57 [(0, .ref 0), (1, .int x), (2, .int c2), (3, .int (nI i - 4)), (4, .int (nI j - 4))] [] σ) ∧ (¬ (0 : Int32) = 0 → V 37 [(0, .ref 0), (1, .int x), (2, .int c2), (3, .int (nI i - 4)), (4, .int (nI j - 4))] [] σ)
              refine ⟨fun _ => ?_, fun hc => absurd (by decide) hc⟩
              refine zq (σ := σ) hV hI rfl 2 ?_
              show V 21 [(4, .int ((nI j - 4) + 1)), (0, .ref 0), (1, .int x), (2, .int c2), (3, .int (nI i - 4))] [] σ
              refine zwk hV [1, 2, 3, 4, 0] rfl ?_
              rw [z4n]
              refine ihj (j + 1) _ (by omega) ?_ (fun q hq => ?_)
              · show _ = (if (zFp n (σ.1 2) (σ.1 3) (σ.1 19) (σ.1 20) (fun j => σ.1 29 (0 * 60 + j)) l m) (9 * i + j) = true then zCo (zFp n (σ.1 2) (σ.1 3) (σ.1 19) (σ.1 20) (fun j => σ.1 29 (0 * 60 + j)) l m) (9 * i + j) + 1 else zCo (zFp n (σ.1 2) (σ.1 3) (σ.1 19) (σ.1 20) (fun j => σ.1 29 (0 * 60 + j)) l m) (9 * i + j))
                rw [hF]
                rw [if_neg (by decide)]; exact hc2
              · by_cases e : q = 9 * i + j
                · rw [e, hF]; exact fun x => absurd x.1 (by decide)
                · exact hno2 q (by omega)
        exact Hj 9 0 c rfl hc hno
    exact Hi 9 0 0 rfl rfl (fun q hq => absurd hq (Nat.not_lt_zero q))
  · skip
    refine zq (σ := σ) hV hI rfl 2 ?_
    show K (some (.int (-2))) σ
    exact hBad (Int32.not_le.mp h_1)
