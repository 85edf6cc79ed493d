set_option maxRecDepth 8000 in
set_option maxHeartbeats 4000000 in
theorem x_ok {d : Nat} {σ : zSt} {K : Option Value → zSt → Prop} {i : Int32} {k : Nat} (hI : zQI (kR 1 4) σ.2.2) (e : i = nI k) (hk : k < 10) (hK : K (some (.int (σ.1 2 k))) σ) : zSp (d + 2) mX3_x [.ref 1, .int i] σ K := by
  refine ⟨⟨by decide, Nat.le_of_ble_eq_true rfl⟩, fun V hV => ?_⟩
  subst e
  refine zq (σ := σ) hV hI rfl 4 ?_
  show zSp _ 128 [.ref 2, .int (nI k)] σ (fun r σ' => σ'.2.2.2 = σ.2.2.2 + zAl 128 → V 8 [(0, .ref 1), (1, .int (nI k))] (r.toList ++ []) σ')
  refine item_2 (zA_of hI rfl) rfl (by omega) (fun _ => ?_)
  refine zq (σ := σ) hV hI rfl 1 ?_
  show K (some (.int (σ.1 2 k))) σ
  exact hK
set_option maxRecDepth 8000 in
set_option maxHeartbeats 4000000 in
theorem y_ok {d : Nat} {σ : zSt} {K : Option Value → zSt → Prop} {i : Int32} {k : Nat} (hI : zQI (kR 1 4) σ.2.2) (e : i = nI k) (hk : k < 10) (hK : K (some (.int (σ.1 3 k))) σ) : zSp (d + 2) mX3_y [.ref 1, .int i] σ K := by
  refine ⟨⟨by decide, Nat.le_of_ble_eq_true rfl⟩, fun V hV => ?_⟩
  subst e
  refine zq (σ := σ) hV hI rfl 4 ?_
  show zSp _ 128 [.ref 3, .int (nI k)] σ (fun r σ' => σ'.2.2.2 = σ.2.2.2 + zAl 128 → V 8 [(0, .ref 1), (1, .int (nI k))] (r.toList ++ []) σ')
  refine item_3 (zA_of hI rfl) rfl (by omega) (fun _ => ?_)
  refine zq (σ := σ) hV hI rfl 1 ?_
  show K (some (.int (σ.1 3 k))) σ
  exact hK
set_option maxRecDepth 8000 in
set_option maxHeartbeats 4000000 in
theorem corners_ok {d : Nat} {σ : zSt} {K : Option Value → zSt → Prop} (hI : zQI (kR 1 4) σ.2.2) (hK : K (some (.int (σ.1 1 2))) σ) : zSp (d + 1) mX3_corners [.ref 1] σ K := by
  refine ⟨⟨by decide, Nat.le_of_ble_eq_true rfl⟩, fun V hV => ?_⟩
  refine zq (σ := σ) hV hI rfl 3 ?_
  show K (some (.int (σ.1 1 2))) σ
  exact hK
set_option maxRecDepth 8000 in
set_option maxHeartbeats 4000000 in
theorem area_ok {d : Nat} {σ : zSt} {K : Option Value → zSt → Prop} (hI : zQI (kR 1 4) σ.2.2) (hK : K (some (.int (σ.1 1 3))) σ) : zSp (d + 1) mX3_area [.ref 1] σ K := by
  refine ⟨⟨by decide, Nat.le_of_ble_eq_true rfl⟩, fun V hV => ?_⟩
  refine zq (σ := σ) hV hI rfl 3 ?_
  show K (some (.int (σ.1 1 3))) σ
  exact hK
set_option maxRecDepth 8000 in
set_option maxHeartbeats 4000000 in
theorem momentX_ok {d : Nat} {σ : zSt} {K : Option Value → zSt → Prop} (hI : zQI (kR 1 4) σ.2.2) (hK : K (some (.int (σ.1 1 4))) σ) : zSp (d + 1) mX3_momentX [.ref 1] σ K := by
  refine ⟨⟨by decide, Nat.le_of_ble_eq_true rfl⟩, fun V hV => ?_⟩
  refine zq (σ := σ) hV hI rfl 3 ?_
  show K (some (.int (σ.1 1 4))) σ
  exact hK
set_option maxRecDepth 8000 in
set_option maxHeartbeats 4000000 in
theorem momentY_ok {d : Nat} {σ : zSt} {K : Option Value → zSt → Prop} (hI : zQI (kR 1 4) σ.2.2) (hK : K (some (.int (σ.1 1 5))) σ) : zSp (d + 1) mX3_momentY [.ref 1] σ K := by
  refine ⟨⟨by decide, Nat.le_of_ble_eq_true rfl⟩, fun V hV => ?_⟩
  refine zq (σ := σ) hV hI rfl 3 ?_
  show K (some (.int (σ.1 1 5))) σ
  exact hK
set_option maxRecDepth 8000 in
set_option maxHeartbeats 4000000 in
theorem next_ok {d : Nat} {σ : zSt} {K : Option Value → zSt → Prop} {i : Int32} {n k : Nat} (hI : zQI (kR 1 4) σ.2.2) (hn : σ.1 1 2 = nI n) (hn10 : n ≤ 10) (e : i = nI k) (hk : k < n) (hK : K (some (.int (nI (zNx n k)))) σ) : zSp (d + 1) mX3_next [.ref 1, .int i] σ K := by
  refine ⟨⟨by decide, Nat.le_of_ble_eq_true rfl⟩, fun V hV => ?_⟩
  subst e
  refine zq (σ := σ) hV hI rfl 6 ?_
  show ((σ.1 1 2) ≤ ((nI k) + 1) → V 16 [(0, .ref 1), (1, .int (nI k))] [] σ) ∧ (¬ (σ.1 1 2) ≤ ((nI k) + 1) → V 10 [(0, .ref 1), (1, .int (nI k))] [] σ)
  refine ⟨fun h_7 => ?_, fun h_7 => ?_⟩
  · skip
    refine zq (σ := σ) hV hI rfl 2 ?_
    show K (some (.int 0)) σ
    rw [hn, nI_1, nI_leI (by omega) (by omega)] at h_7
    have e : zNx n k = 0 := by unfold zNx; rw [if_neg (by omega)]
    rw [e] at hK
    exact hK
  · skip
    refine zq (σ := σ) hV hI rfl 5 ?_
    show K (some (.int ((nI k) + 1))) σ
    rw [hn, nI_1, nI_leI (by omega) (by omega)] at h_7
    have e : zNx n k = k + 1 := by unfold zNx; rw [if_pos (by omega)]
    rw [e] at hK
    rw [nI_1]
    exact hK
set_option maxRecDepth 8000 in
set_option maxHeartbeats 4000000 in
theorem dx_ok {d : Nat} {σ : zSt} {K : Option Value → zSt → Prop} {i : Int32} {n k : Nat} (hI : zQI (kR 1 4) σ.2.2) (hn : σ.1 1 2 = nI n) (hn10 : n ≤ 10) (e : i = nI k) (hk : k < n) (hK : K (some (.int (σ.1 2 (zNx n k) - σ.1 2 k))) σ) : zSp (d + 2) mX3_dx [.ref 1, .int i] σ K := by
  refine ⟨⟨by decide, Nat.le_of_ble_eq_true rfl⟩, fun V hV => ?_⟩
  subst e
  have hj := zNx_lt hk
  refine zq (σ := σ) hV hI rfl 5 ?_
  show zSp _ 33 [.ref 1, .int (nI k)] σ (fun r σ' => σ'.2.2.2 = σ.2.2.2 + zAl 33 → V 9 [(0, .ref 1), (1, .int (nI k))] (r.toList ++ [.ref 2]) σ')
  refine next_ok (zR_of hI rfl rfl) hn (by omega) rfl (by omega) (fun _ => ?_)
  refine zq (σ := σ) hV hI rfl 1 ?_
  show zSp _ 128 [.ref 2, .int (nI (zNx n k))] σ (fun r σ' => σ'.2.2.2 = σ.2.2.2 + zAl 128 → V 12 [(0, .ref 1), (1, .int (nI k))] (r.toList ++ []) σ')
  refine item_2 (zA_of hI rfl) rfl (by omega) (fun _ => ?_)
  refine zq (σ := σ) hV hI rfl 4 ?_
  show zSp _ 128 [.ref 2, .int (nI k)] σ (fun r σ' => σ'.2.2.2 = σ.2.2.2 + zAl 128 → V 20 [(0, .ref 1), (1, .int (nI k))] (r.toList ++ [.int (σ.1 2 (zNx n k))]) σ')
  refine item_2 (zA_of hI rfl) rfl (by omega) (fun _ => ?_)
  refine zq (σ := σ) hV hI rfl 2 ?_
  show K (some (.int ((σ.1 2 (zNx n k)) - (σ.1 2 k)))) σ
  exact hK
set_option maxRecDepth 8000 in
set_option maxHeartbeats 4000000 in
theorem dy_ok {d : Nat} {σ : zSt} {K : Option Value → zSt → Prop} {i : Int32} {n k : Nat} (hI : zQI (kR 1 4) σ.2.2) (hn : σ.1 1 2 = nI n) (hn10 : n ≤ 10) (e : i = nI k) (hk : k < n) (hK : K (some (.int (σ.1 3 (zNx n k) - σ.1 3 k))) σ) : zSp (d + 2) mX3_dy [.ref 1, .int i] σ K := by
  refine ⟨⟨by decide, Nat.le_of_ble_eq_true rfl⟩, fun V hV => ?_⟩
  subst e
  have hj := zNx_lt hk
  refine zq (σ := σ) hV hI rfl 5 ?_
  show zSp _ 33 [.ref 1, .int (nI k)] σ (fun r σ' => σ'.2.2.2 = σ.2.2.2 + zAl 33 → V 9 [(0, .ref 1), (1, .int (nI k))] (r.toList ++ [.ref 3]) σ')
  refine next_ok (zR_of hI rfl rfl) hn (by omega) rfl (by omega) (fun _ => ?_)
  refine zq (σ := σ) hV hI rfl 1 ?_
  show zSp _ 128 [.ref 3, .int (nI (zNx n k))] σ (fun r σ' => σ'.2.2.2 = σ.2.2.2 + zAl 128 → V 12 [(0, .ref 1), (1, .int (nI k))] (r.toList ++ []) σ')
  refine item_3 (zA_of hI rfl) rfl (by omega) (fun _ => ?_)
  refine zq (σ := σ) hV hI rfl 4 ?_
  show zSp _ 128 [.ref 3, .int (nI k)] σ (fun r σ' => σ'.2.2.2 = σ.2.2.2 + zAl 128 → V 20 [(0, .ref 1), (1, .int (nI k))] (r.toList ++ [.int (σ.1 3 (zNx n k))]) σ')
  refine item_3 (zA_of hI rfl) rfl (by omega) (fun _ => ?_)
  refine zq (σ := σ) hV hI rfl 2 ?_
  show K (some (.int ((σ.1 3 (zNx n k)) - (σ.1 3 k)))) σ
  exact hK
set_option maxRecDepth 8000 in
set_option maxHeartbeats 4000000 in
theorem setCorner_ok {d : Nat} {σ : zSt} {K : Option Value → zSt → Prop} {i x y : Int32} {k : Nat} (hI : zQI (kR 1 4) σ.2.2) (e : i = nI k) (hk : k < 10) (hK : K none (zuI (zuI σ 2 k x) 3 k y)) : zSp (d + 2) mX3_setCorner [.ref 1, .int i, .int x, .int y] σ K := by
  refine ⟨⟨by decide, Nat.le_of_ble_eq_true rfl⟩, fun V hV => ?_⟩
  subst e
  refine zq (σ := σ) hV hI rfl 5 ?_
  show zSp _ 129 [.ref 2, .int (nI k), .int x] σ (fun r σ' => σ'.2.2.2 = σ.2.2.2 + zAl 129 → V 9 [(0, .ref 1), (1, .int (nI k)), (2, .int x), (3, .int y)] (r.toList ++ []) σ')
  refine setItem_2 (zA_of hI rfl) rfl (by omega) (fun _ => ?_)
  refine zq (σ := (zuI σ 2 k x)) hV hI rfl 5 ?_
  show zSp _ 129 [.ref 3, .int (nI k), .int y] (zuI σ 2 k x) (fun r σ' => σ'.2.2.2 = (zuI σ 2 k x).2.2.2 + zAl 129 → V 18 [(0, .ref 1), (1, .int (nI k)), (2, .int x), (3, .int y)] (r.toList ++ []) σ')
  refine setItem_3 (zA_of hI rfl) rfl (by omega) (fun _ => ?_)
  refine zq (σ := (zuI (zuI σ 2 k x) 3 k y)) hV hI rfl 1 ?_
  show K none (zuI (zuI σ 2 k x) 3 k y)
  exact hK
def zPull (ar mx my px py w : Int32) : Int64 := (((Int32.toInt64 w) * (Int32.toInt64 w)) * (((((3 * (Int32.toInt64 ar)) * (Int32.toInt64 px)) - (8 * (Int32.toInt64 mx))) * (((3 * (Int32.toInt64 ar)) * (Int32.toInt64 px)) - (8 * (Int32.toInt64 mx)))) + ((((3 * (Int32.toInt64 ar)) * (Int32.toInt64 py)) - (8 * (Int32.toInt64 my))) * (((3 * (Int32.toInt64 ar)) * (Int32.toInt64 py)) - (8 * (Int32.toInt64 my))))))
set_option maxRecDepth 8000 in
set_option maxHeartbeats 4000000 in
theorem pull_ok {d : Nat} {σ : zSt} {K : Option Value → zSt → Prop} {px py w : Int32} (hI : zQI (kR 1 4) σ.2.2) (hK : K (some (.long (zPull (σ.1 1 3) (σ.1 1 4) (σ.1 1 5) px py w))) σ) : zSp (d + 1) mX3_pull [.ref 1, .int px, .int py, .int w] σ K := by
  refine ⟨⟨by decide, Nat.le_of_ble_eq_true rfl⟩, fun V hV => ?_⟩
  refine zq (σ := σ) hV hI rfl 44 ?_
  show K (some (.long (((Int32.toInt64 w) * (Int32.toInt64 w)) * (((((3 * (Int32.toInt64 (σ.1 1 3))) * (Int32.toInt64 px)) - (8 * (Int32.toInt64 (σ.1 1 4)))) * (((3 * (Int32.toInt64 (σ.1 1 3))) * (Int32.toInt64 px)) - (8 * (Int32.toInt64 (σ.1 1 4))))) + ((((3 * (Int32.toInt64 (σ.1 1 3))) * (Int32.toInt64 py)) - (8 * (Int32.toInt64 (σ.1 1 5)))) * (((3 * (Int32.toInt64 (σ.1 1 3))) * (Int32.toInt64 py)) - (8 * (Int32.toInt64 (σ.1 1 5))))))))) σ
  exact hK
def zStr (ar s : Int32) : Int64 := 3 * (Int32.toInt64 ar) * (Int32.toInt64 s)
def zSld (ar : Int32) (q : Int64) (s : Int32) : Prop := 2000000000 ≤ zStr ar s ∨ q ≤ zStr ar s * zStr ar s
set_option maxRecDepth 8000 in
set_option maxHeartbeats 4000000 in
theorem isSealed_ok {d : Nat} {σ : zSt} {K : Option Value → zSt → Prop} {q : Int64} {s : Int32} (hI : zQI (kR 1 4) σ.2.2) (h1 : zSld (σ.1 1 3) q s → K (some (.int 1)) σ) (h0 : ¬ zSld (σ.1 1 3) q s → K (some (.int 0)) σ) : zSp (d + 1) mX3_isSealed [.ref 1, .long q, .int s] σ K := by
  refine ⟨⟨by decide, Nat.le_of_ble_eq_true rfl⟩, fun V hV => ?_⟩
  refine zq (σ := σ) hV hI rfl 13 ?_
  show (0 ≤ (lg_cmp ((3 * (Int32.toInt64 (σ.1 1 3))) * (Int32.toInt64 s)) 2000000000) → V 33 [(4, .long ((3 * (Int32.toInt64 (σ.1 1 3))) * (Int32.toInt64 s))), (0, .ref 1), (1, .long q), (3, .int s)] [] σ) ∧ (¬ 0 ≤ (lg_cmp ((3 * (Int32.toInt64 (σ.1 1 3))) * (Int32.toInt64 s)) 2000000000) → V 23 [(4, .long ((3 * (Int32.toInt64 (σ.1 1 3))) * (Int32.toInt64 s))), (0, .ref 1), (1, .long q), (3, .int s)] [] σ)
  refine ⟨fun h_20 => ?_, fun h_20 => ?_⟩
  · skip
    refine zq (σ := σ) hV hI rfl 3 ?_
    show ((1 : Int32) = 0 ∨ (1 : Int32) = 1) ∧ K (some (.int 1)) σ
    refine ⟨by decide, ?_⟩
    first | exact h1 (Or.inl (zcmp_ge.mp h_20)) | exact h1 (Or.inr (Int64.not_lt.mp (fun hq => h_30 (zcmp_lt.mpr hq))))
  · skip
    refine zq (σ := σ) hV hI rfl 6 ?_
    show ((lg_cmp (((3 * (Int32.toInt64 (σ.1 1 3))) * (Int32.toInt64 s)) * ((3 * (Int32.toInt64 (σ.1 1 3))) * (Int32.toInt64 s))) q) < 0 → V 37 [(4, .long ((3 * (Int32.toInt64 (σ.1 1 3))) * (Int32.toInt64 s))), (0, .ref 1), (1, .long q), (3, .int s)] [] σ) ∧ (¬ (lg_cmp (((3 * (Int32.toInt64 (σ.1 1 3))) * (Int32.toInt64 s)) * ((3 * (Int32.toInt64 (σ.1 1 3))) * (Int32.toInt64 s))) q) < 0 → V 33 [(4, .long ((3 * (Int32.toInt64 (σ.1 1 3))) * (Int32.toInt64 s))), (0, .ref 1), (1, .long q), (3, .int s)] [] σ)
    refine ⟨fun h_30 => ?_, fun h_30 => ?_⟩
    · skip
      refine zq (σ := σ) hV hI rfl 2 ?_
      show ((0 : Int32) = 0 ∨ (0 : Int32) = 1) ∧ K (some (.int 0)) σ
      refine ⟨by decide, ?_⟩
      exact h0 (fun hq => hq.elim (fun hq => h_20 (zcmp_ge.mpr hq)) (fun hq => Int64.not_lt.mpr hq (zcmp_lt.mp h_30)))
    · skip
      refine zq (σ := σ) hV hI rfl 3 ?_
      show ((1 : Int32) = 0 ∨ (1 : Int32) = 1) ∧ K (some (.int 1)) σ
      refine ⟨by decide, ?_⟩
      first | exact h1 (Or.inl (zcmp_ge.mp h_20)) | exact h1 (Or.inr (Int64.not_lt.mp (fun hq => h_30 (zcmp_lt.mpr hq))))
theorem zSld_dec (ar : Int32) (q : Int64) (s : Int32) : zSld ar q s ∨ ¬ zSld ar q s := Classical.em _
/-- the search by halves, m rounds left -/
def zLs (ar : Int32) (q : Int64) : Nat → Int32 → Int32 → Int32
  | 0, _, hi => hi
  | m + 1, lo, hi => if hi ≤ lo then hi else if 2000000000 ≤ zStr ar (lo + (hi - lo) / 2) ∨ q ≤ zStr ar (lo + (hi - lo) / 2) * zStr ar (lo + (hi - lo) / 2) then zLs ar q m lo (lo + (hi - lo) / 2) else zLs ar q m (lo + (hi - lo) / 2 + 1) hi
set_option maxRecDepth 8000 in
set_option maxHeartbeats 4000000 in
theorem leastSeal_ok {d : Nat} {σ : zSt} {K : Option Value → zSt → Prop} {q : Int64} (hI : zQI (kR 1 4) σ.2.2) (hK : K (some (.int (zLs (σ.1 1 3) q 31 0 1073741824))) σ) : zSp (d + 2) mX3_leastSeal [.ref 1, .long q] σ K := by
  refine ⟨⟨by decide, Nat.le_of_ble_eq_true rfl⟩, fun V hV => ?_⟩
  refine zq (σ := σ) hV hI rfl 6 ?_
  show V 9 [(5, .int 0), (4, .int 1073741824), (3, .int 0), (0, .ref 1), (1, .long q)] [] σ
  refine zwk hV [3, 4, 2, 1, 0] rfl ?_
  have H : ∀ (m i : Nat) (lo hi : Int32), i + m = 31 → K (some (.int (zLs (σ.1 1 3) q m lo hi))) σ → V 9 [(0, .ref 1), (1, .long q), (3, .int lo), (4, .int hi), (5, .int (nI i))] [] σ := by
    intro m
    induction m with
    | zero =>
      intro i lo hi hi31 hK
      refine zq (σ := σ) hV hI rfl 3 ?_
      show (31 ≤ (nI i) → V 60 [(0, .ref 1), (1, .long q), (3, .int lo), (4, .int hi), (5, .int (nI i))] [] σ) ∧ (¬ 31 ≤ (nI i) → V 16 [(0, .ref 1), (1, .long q), (3, .int lo), (4, .int hi), (5, .int (nI i))] [] σ)
      refine ⟨fun _ => ?_, fun hc => absurd (show (31 : Int32) ≤ nI i by rw [show i = 31 by omega]; decide) hc⟩
      refine zq (σ := σ) hV hI rfl 2 ?_
      show K (some (.int hi)) σ
      exact hK
    | succ m ih =>
      intro i lo hi hi31 hK
      refine zq (σ := σ) hV hI rfl 3 ?_
      show (31 ≤ (nI i) → V 60 [(0, .ref 1), (1, .long q), (3, .int lo), (4, .int hi), (5, .int (nI i))] [] σ) ∧ (¬ 31 ≤ (nI i) → V 16 [(0, .ref 1), (1, .long q), (3, .int lo), (4, .int hi), (5, .int (nI i))] [] σ)
      refine ⟨fun hc => absurd hc (show ¬ nI 31 ≤ nI i from nI_ge (by omega) (by decide)), fun _ => ?_⟩
      refine zq (σ := σ) hV hI rfl 3 ?_
      show (hi ≤ lo → V 60 [(0, .ref 1), (1, .long q), (3, .int lo), (4, .int hi), (5, .int (nI i))] [] σ) ∧ (¬ hi ≤ lo → V 22 [(0, .ref 1), (1, .long q), (3, .int lo), (4, .int hi), (5, .int (nI i))] [] σ)
      refine ⟨fun h_19 => ?_, fun h_19 => ?_⟩
      · skip
        refine zq (σ := σ) hV hI rfl 2 ?_
        show K (some (.int hi)) σ
        unfold zLs at hK
        rw [if_pos h_19] at hK
        exact hK
      · skip
        refine zq (σ := σ) hV hI rfl 6 ?_
        show (¬ (2 : Int32) = 0) ∧ V 29 [(0, .ref 1), (1, .long q), (3, .int lo), (4, .int hi), (5, .int (nI i))] [.int ((hi - lo) / 2), .int lo] σ
        refine ⟨by decide, ?_⟩
        refine zq (σ := σ) hV hI rfl 6 ?_
        show zSp _ 38 [.ref 1, .long q, .int (lo + ((hi - lo) / 2))] σ (fun r σ' => σ'.2.2.2 = σ.2.2.2 + zAl 38 → V 39 [(6, .int (lo + ((hi - lo) / 2))), (0, .ref 1), (1, .long q), (3, .int lo), (4, .int hi), (5, .int (nI i))] (r.toList ++ []) σ')
        refine isSealed_ok (zR_of hI rfl rfl) (fun hb1 _ => ?_) (fun hb1 _ => ?_)
        · skip
          refine zq (σ := σ) hV hI rfl 1 ?_
          show ((1 : Int32) = 0 → V 49 [(6, .int (lo + ((hi - lo) / 2))), (0, .ref 1), (1, .long q), (3, .int lo), (4, .int hi), (5, .int (nI i))] [] σ) ∧ (¬ (1 : Int32) = 0 → V 42 [(6, .int (lo + ((hi - lo) / 2))), (0, .ref 1), (1, .long q), (3, .int lo), (4, .int hi), (5, .int (nI i))] [] σ)
          refine ⟨fun hc => absurd hc (by decide), fun _ => ?_⟩
          refine zq (σ := σ) hV hI rfl 5 ?_
          show V 9 [(5, .int ((nI i) + 1)), (4, .int (lo + ((hi - lo) / 2))), (6, .int (lo + ((hi - lo) / 2))), (0, .ref 1), (1, .long q), (3, .int lo)] [] σ
          refine zwk hV [3, 4, 5, 1, 0] rfl ?_
          rw [nI_1]
          refine ih (i + 1) _ _ (by omega) ?_
          unfold zLs at hK
          rw [if_neg h_19] at hK
          unfold zSld at hb1
          first | (rw [if_pos hb1] at hK; exact hK) | (rw [if_neg hb1] at hK; exact hK)
        · skip
          refine zq (σ := σ) hV hI rfl 1 ?_
          show ((0 : Int32) = 0 → V 49 [(6, .int (lo + ((hi - lo) / 2))), (0, .ref 1), (1, .long q), (3, .int lo), (4, .int hi), (5, .int (nI i))] [] σ) ∧ (¬ (0 : Int32) = 0 → V 42 [(6, .int (lo + ((hi - lo) / 2))), (0, .ref 1), (1, .long q), (3, .int lo), (4, .int hi), (5, .int (nI i))] [] σ)
          refine ⟨fun _ => ?_, fun hc => absurd (by decide) hc⟩
          refine zq (σ := σ) hV hI rfl 6 ?_
          show V 9 [(5, .int ((nI i) + 1)), (3, .int ((lo + ((hi - lo) / 2)) + 1)), (6, .int (lo + ((hi - lo) / 2))), (0, .ref 1), (1, .long q), (4, .int hi)] [] σ
          refine zwk hV [3, 4, 1, 5, 0] rfl ?_
          rw [nI_1]
          refine ih (i + 1) _ _ (by omega) ?_
          unfold zLs at hK
          rw [if_neg h_19] at hK
          unfold zSld at hb1
          first | (rw [if_pos hb1] at hK; exact hK) | (rw [if_neg hb1] at hK; exact hK)
  exact H 31 0 0 1073741824 rfl hK
set_option maxRecDepth 8000 in
set_option maxHeartbeats 4000000 in
theorem side_ok {d : Nat} {σ : zSt} {K : Option Value → zSt → Prop} {px py : Int32} {n : Nat} (hI : zQI (kR 1 4) σ.2.2) (hn : σ.1 1 2 = nI n) (hn10 : n ≤ 10) (hK : K (some (.int (zSide n (σ.1 2) (σ.1 3) px py))) σ) : zSp (d + 3) mX3_side [.ref 1, .int px, .int py] σ K := by
  refine ⟨⟨by decide, Nat.le_of_ble_eq_true rfl⟩, fun V hV => ?_⟩
  refine zq (σ := σ) hV hI rfl 4 ?_
  show V 5 [(4, .int 0), (3, .int 0), (0, .ref 1), (1, .int px), (2, .int py)] [] σ
  refine zwk hV [2, 3, 4, 1, 0] rfl ?_
  have H : ∀ (m i : Nat) (o : Bool), i + m = n → K (some (.int (zSd n (σ.1 2) (σ.1 3) px py m i o))) σ → V 5 [(0, .ref 1), (1, .int px), (2, .int py), (3, .int (zb o)), (4, .int (nI i))] [] σ := by
    intro m
    induction m with
    | zero =>
      intro i o hin hK
      cases o
      · skip
        refine zq (σ := σ) hV hI rfl 4 ?_
        show ((σ.1 1 2) ≤ (nI i) → V 154 [(0, .ref 1), (1, .int px), (2, .int py), (3, .int 0), (4, .int (nI i))] [] σ) ∧ (¬ (σ.1 1 2) ≤ (nI i) → V 14 [(0, .ref 1), (1, .int px), (2, .int py), (3, .int 0), (4, .int (nI i))] [] σ)
        refine ⟨fun _ => ?_, fun hc => absurd (show σ.1 1 2 ≤ nI i by rw [hn, show i = n by omega]; exact Int32.le_refl _) hc⟩
        refine zq (σ := σ) hV hI rfl 2 ?_
        show ((0 : Int32) = 0 → V 162 [(0, .ref 1), (1, .int px), (2, .int py), (3, .int 0), (4, .int (nI i))] [] σ) ∧ (¬ (0 : Int32) = 0 → V 158 [(0, .ref 1), (1, .int px), (2, .int py), (3, .int 0), (4, .int (nI i))] [] σ)
        refine ⟨fun _ => ?_, fun hc => absurd (by decide) hc⟩
        refine zq (σ := σ) hV hI rfl 2 ?_
        show K (some (.int 0)) σ
        exact hK
      · skip
        refine zq (σ := σ) hV hI rfl 4 ?_
        show ((σ.1 1 2) ≤ (nI i) → V 154 [(0, .ref 1), (1, .int px), (2, .int py), (3, .int 1), (4, .int (nI i))] [] σ) ∧ (¬ (σ.1 1 2) ≤ (nI i) → V 14 [(0, .ref 1), (1, .int px), (2, .int py), (3, .int 1), (4, .int (nI i))] [] σ)
        refine ⟨fun _ => ?_, fun hc => absurd (show σ.1 1 2 ≤ nI i by rw [hn, show i = n by omega]; exact Int32.le_refl _) hc⟩
        refine zq (σ := σ) hV hI rfl 2 ?_
        show ((1 : Int32) = 0 → V 162 [(0, .ref 1), (1, .int px), (2, .int py), (3, .int 1), (4, .int (nI i))] [] σ) ∧ (¬ (1 : Int32) = 0 → V 158 [(0, .ref 1), (1, .int px), (2, .int py), (3, .int 1), (4, .int (nI i))] [] σ)
        refine ⟨fun hc => absurd hc (by decide), fun _ => ?_⟩
        refine zq (σ := σ) hV hI rfl 3 ?_
        show K (some (.int 1)) σ
        exact hK
    | succ m ih =>
      intro i o hin hK
      have hin2 : i < n := by omega
      have hj := zNx_lt hin2
      refine zq (σ := σ) hV hI rfl 4 ?_
      show ((σ.1 1 2) ≤ (nI i) → V 154 [(0, .ref 1), (1, .int px), (2, .int py), (3, .int (zb o)), (4, .int (nI i))] [] σ) ∧ (¬ (σ.1 1 2) ≤ (nI i) → V 14 [(0, .ref 1), (1, .int px), (2, .int py), (3, .int (zb o)), (4, .int (nI i))] [] σ)
      refine ⟨fun hc => absurd hc (show ¬ σ.1 1 2 ≤ nI i by rw [hn]; exact nI_ge hin2 (by omega)), fun _ => ?_⟩
      refine zq (σ := σ) hV hI rfl 3 ?_
      show zSp _ 33 [.ref 1, .int (nI i)] σ (fun r σ' => σ'.2.2.2 = σ.2.2.2 + zAl 33 → V 20 [(0, .ref 1), (1, .int px), (2, .int py), (3, .int (zb o)), (4, .int (nI i))] (r.toList ++ []) σ')
      refine next_ok (zR_of hI rfl rfl) hn (by omega) rfl (by omega) (fun _ => ?_)
      refine zq (σ := σ) hV hI rfl 5 ?_
      show zSp _ 31 [.ref 1, .int (nI i)] σ (fun r σ' => σ'.2.2.2 = σ.2.2.2 + zAl 31 → V 30 [(5, .int (nI (zNx n i))), (0, .ref 1), (1, .int px), (2, .int py), (3, .int (zb o)), (4, .int (nI i))] (r.toList ++ [.int 8]) σ')
      refine x_ok (zR_of hI rfl rfl) rfl (by omega) (fun _ => ?_)
      refine zq (σ := σ) hV hI rfl 8 ?_
      show zSp _ 32 [.ref 1, .int (nI i)] σ (fun r σ' => σ'.2.2.2 = σ.2.2.2 + zAl 32 → V 43 [(6, .int ((8 * (σ.1 2 i)) - px)), (5, .int (nI (zNx n i))), (0, .ref 1), (1, .int px), (2, .int py), (3, .int (zb o)), (4, .int (nI i))] (r.toList ++ [.int 8]) σ')
      refine y_ok (zR_of hI rfl rfl) rfl (by omega) (fun _ => ?_)
      refine zq (σ := σ) hV hI rfl 8 ?_
      show zSp _ 31 [.ref 1, .int (nI (zNx n i))] σ (fun r σ' => σ'.2.2.2 = σ.2.2.2 + zAl 31 → V 56 [(7, .int ((8 * (σ.1 3 i)) - py)), (6, .int ((8 * (σ.1 2 i)) - px)), (5, .int (nI (zNx n i))), (0, .ref 1), (1, .int px), (2, .int py), (3, .int (zb o)), (4, .int (nI i))] (r.toList ++ [.int 8]) σ')
      refine x_ok (zR_of hI rfl rfl) rfl (by omega) (fun _ => ?_)
      refine zq (σ := σ) hV hI rfl 8 ?_
      show zSp _ 32 [.ref 1, .int (nI (zNx n i))] σ (fun r σ' => σ'.2.2.2 = σ.2.2.2 + zAl 32 → V 69 [(8, .int ((8 * (σ.1 2 (zNx n i))) - px)), (7, .int ((8 * (σ.1 3 i)) - py)), (6, .int ((8 * (σ.1 2 i)) - px)), (5, .int (nI (zNx n i))), (0, .ref 1), (1, .int px), (2, .int py), (3, .int (zb o)), (4, .int (nI i))] (r.toList ++ [.int 8]) σ')
      refine y_ok (zR_of hI rfl rfl) rfl (by omega) (fun _ => ?_)
      refine zq (σ := σ) hV hI rfl 12 ?_
      show V 87 [(10, .int ((((8 * (σ.1 2 i)) - px) * ((8 * (σ.1 3 (zNx n i))) - py)) - (((8 * (σ.1 3 i)) - py) * ((8 * (σ.1 2 (zNx n i))) - px)))), (9, .int ((8 * (σ.1 3 (zNx n i))) - py)), (8, .int ((8 * (σ.1 2 (zNx n i))) - px)), (7, .int ((8 * (σ.1 3 i)) - py)), (6, .int ((8 * (σ.1 2 i)) - px)), (5, .int (nI (zNx n i))), (0, .ref 1), (1, .int px), (2, .int py), (3, .int (zb o)), (4, .int (nI i))] [] σ
      refine zwk hV [6, 7, 8, 9, 10, 4, 3, 2, 1, 0] rfl ?_
      show V 87 [(0, .ref 1), (1, .int px), (2, .int py), (3, .int (zb o)), (4, .int (nI i)), (6, .int (zfx (σ.1 2) px i)), (7, .int (zfx (σ.1 3) py i)), (8, .int (zfx (σ.1 2) px (zNx n i))), (9, .int (zfx (σ.1 3) py (zNx n i))), (10, .int (zTn (σ.1 2) (σ.1 3) px py i (zNx n i)))] [] σ
      have HE : ∀ o2, K (some (.int (zSd n (σ.1 2) (σ.1 3) px py m (i + 1) o2))) σ → V 148 [(0, .ref 1), (1, .int px), (2, .int py), (3, .int (zb o2)), (4, .int (nI i)), (6, .int (zfx (σ.1 2) px i)), (7, .int (zfx (σ.1 3) py i)), (8, .int (zfx (σ.1 2) px (zNx n i))), (9, .int (zfx (σ.1 3) py (zNx n i))), (10, .int (zTn (σ.1 2) (σ.1 3) px py i (zNx n i)))] [] σ := by
        intro o2 hK2
        refine zq (σ := σ) hV hI rfl 2 ?_
        show V 5 [(4, .int ((nI i) + 1)), (0, .ref 1), (1, .int px), (2, .int py), (3, .int (zb o2)), (6, .int (zfx (σ.1 2) px i)), (7, .int (zfx (σ.1 3) py i)), (8, .int (zfx (σ.1 2) px (zNx n i))), (9, .int (zfx (σ.1 3) py (zNx n i))), (10, .int (zTn (σ.1 2) (σ.1 3) px py i (zNx n i)))] [] σ
        refine zwk hV [1, 2, 3, 4, 0] rfl ?_
        rw [nI_1]
        exact ih (i + 1) o2 (by omega) hK2
      have HC : zOn (zfx (σ.1 2) px i) (zfx (σ.1 3) py i) (zfx (σ.1 2) px (zNx n i)) (zfx (σ.1 3) py (zNx n i)) (zTn (σ.1 2) (σ.1 3) px py i (zNx n i)) = false → V 110 [(0, .ref 1), (1, .int px), (2, .int py), (3, .int (zb o)), (4, .int (nI i)), (6, .int (zfx (σ.1 2) px i)), (7, .int (zfx (σ.1 3) py i)), (8, .int (zfx (σ.1 2) px (zNx n i))), (9, .int (zfx (σ.1 3) py (zNx n i))), (10, .int (zTn (σ.1 2) (σ.1 3) px py i (zNx n i)))] [] σ := by
        intro hon
        rw [zSd, hon] at hK
        replace hK : K (some (.int (zSd n (σ.1 2) (σ.1 3) px py m (i + 1) (match zCr (zfx (σ.1 3) py i) (zfx (σ.1 3) py (zNx n i)) (zTn (σ.1 2) (σ.1 3) px py i (zNx n i)) with | true => !o | false => o)))) σ := hK
        refine zq (σ := σ) hV hI rfl 2 ?_
        show ((zfx (σ.1 3) py (zNx n i)) ≤ 0 → V 128 [(0, .ref 1), (1, .int px), (2, .int py), (3, .int (zb o)), (4, .int (nI i)), (6, .int (zfx (σ.1 2) px i)), (7, .int (zfx (σ.1 3) py i)), (8, .int (zfx (σ.1 2) px (zNx n i))), (9, .int (zfx (σ.1 3) py (zNx n i))), (10, .int (zTn (σ.1 2) (σ.1 3) px py i (zNx n i)))] [] σ) ∧ (¬ (zfx (σ.1 3) py (zNx n i)) ≤ 0 → V 115 [(0, .ref 1), (1, .int px), (2, .int py), (3, .int (zb o)), (4, .int (nI i)), (6, .int (zfx (σ.1 2) px i)), (7, .int (zfx (σ.1 3) py i)), (8, .int (zfx (σ.1 2) px (zNx n i))), (9, .int (zfx (σ.1 3) py (zNx n i))), (10, .int (zTn (σ.1 2) (σ.1 3) px py i (zNx n i)))] [] σ)
        refine ⟨fun h_112 => ?_, fun h_112 => ?_⟩
        · skip
          refine zq (σ := σ) hV hI rfl 2 ?_
          show ((zfx (σ.1 3) py i) ≤ 0 → V 148 [(0, .ref 1), (1, .int px), (2, .int py), (3, .int (zb o)), (4, .int (nI i)), (6, .int (zfx (σ.1 2) px i)), (7, .int (zfx (σ.1 3) py i)), (8, .int (zfx (σ.1 2) px (zNx n i))), (9, .int (zfx (σ.1 3) py (zNx n i))), (10, .int (zTn (σ.1 2) (σ.1 3) px py i (zNx n i)))] [] σ) ∧ (¬ (zfx (σ.1 3) py i) ≤ 0 → V 133 [(0, .ref 1), (1, .int px), (2, .int py), (3, .int (zb o)), (4, .int (nI i)), (6, .int (zfx (σ.1 2) px i)), (7, .int (zfx (σ.1 3) py i)), (8, .int (zfx (σ.1 2) px (zNx n i))), (9, .int (zfx (σ.1 3) py (zNx n i))), (10, .int (zTn (σ.1 2) (σ.1 3) px py i (zNx n i)))] [] σ)
          refine ⟨fun h_130 => ?_, fun h_130 => ?_⟩
          · skip
            refine zwk hV [0, 1, 2, 3, 4, 5, 6, 7, 8, 9] rfl ?_
            have hcr : zCr (zfx (σ.1 3) py i) (zfx (σ.1 3) py (zNx n i)) (zTn (σ.1 2) (σ.1 3) px py i (zNx n i)) = false := by
              unfold zCr
              refine decide_eq_false (fun hq => ?_)
              simp only [zlt, zle] at *
              omega
            rw [hcr] at hK
            exact HE _ hK
          · skip
            refine zq (σ := σ) hV hI rfl 2 ?_
            show (0 ≤ (zTn (σ.1 2) (σ.1 3) px py i (zNx n i)) → V 148 [(0, .ref 1), (1, .int px), (2, .int py), (3, .int (zb o)), (4, .int (nI i)), (6, .int (zfx (σ.1 2) px i)), (7, .int (zfx (σ.1 3) py i)), (8, .int (zfx (σ.1 2) px (zNx n i))), (9, .int (zfx (σ.1 3) py (zNx n i))), (10, .int (zTn (σ.1 2) (σ.1 3) px py i (zNx n i)))] [] σ) ∧ (¬ 0 ≤ (zTn (σ.1 2) (σ.1 3) px py i (zNx n i)) → V 138 [(0, .ref 1), (1, .int px), (2, .int py), (3, .int (zb o)), (4, .int (nI i)), (6, .int (zfx (σ.1 2) px i)), (7, .int (zfx (σ.1 3) py i)), (8, .int (zfx (σ.1 2) px (zNx n i))), (9, .int (zfx (σ.1 3) py (zNx n i))), (10, .int (zTn (σ.1 2) (σ.1 3) px py i (zNx n i)))] [] σ)
            refine ⟨fun h_135 => ?_, fun h_135 => ?_⟩
            · skip
              refine zwk hV [0, 1, 2, 3, 4, 5, 6, 7, 8, 9] rfl ?_
              have hcr : zCr (zfx (σ.1 3) py i) (zfx (σ.1 3) py (zNx n i)) (zTn (σ.1 2) (σ.1 3) px py i (zNx n i)) = false := by
                unfold zCr
                refine decide_eq_false (fun hq => ?_)
                simp only [zlt, zle] at *
                omega
              rw [hcr] at hK
              exact HE _ hK
            · skip
              refine zwk hV [0, 1, 2, 3, 4, 5, 6, 7, 8, 9] rfl ?_
              have hcr : zCr (zfx (σ.1 3) py i) (zfx (σ.1 3) py (zNx n i)) (zTn (σ.1 2) (σ.1 3) px py i (zNx n i)) = true := by
                unfold zCr
                first | exact decide_eq_true (Or.inl ⟨Int32.not_le.mp h_112, Int32.not_lt.mp h_117, Int32.not_le.mp h_122⟩) | exact decide_eq_true (Or.inr ⟨h_112, Int32.not_le.mp h_130, Int32.not_le.mp h_135⟩)
              rw [hcr] at hK
              cases o
              · skip
                refine zq (σ := σ) hV hI rfl 2 ?_
                show (¬ (0 : Int32) = 0 → V 146 [(0, .ref 1), (1, .int px), (2, .int py), (3, .int 0), (4, .int (nI i)), (6, .int (zfx (σ.1 2) px i)), (7, .int (zfx (σ.1 3) py i)), (8, .int (zfx (σ.1 2) px (zNx n i))), (9, .int (zfx (σ.1 3) py (zNx n i))), (10, .int (zTn (σ.1 2) (σ.1 3) px py i (zNx n i)))] [] σ) ∧ (¬ (¬ (0 : Int32) = 0) → V 142 [(0, .ref 1), (1, .int px), (2, .int py), (3, .int 0), (4, .int (nI i)), (6, .int (zfx (σ.1 2) px i)), (7, .int (zfx (σ.1 3) py i)), (8, .int (zfx (σ.1 2) px (zNx n i))), (9, .int (zfx (σ.1 3) py (zNx n i))), (10, .int (zTn (σ.1 2) (σ.1 3) px py i (zNx n i)))] [] σ)
                refine ⟨fun hc => absurd hc (by decide), fun _ => ?_⟩
                refine zq (σ := σ) hV hI rfl 3 ?_
                show V 148 [(3, .int 1), (0, .ref 1), (1, .int px), (2, .int py), (4, .int (nI i)), (6, .int (zfx (σ.1 2) px i)), (7, .int (zfx (σ.1 3) py i)), (8, .int (zfx (σ.1 2) px (zNx n i))), (9, .int (zfx (σ.1 3) py (zNx n i))), (10, .int (zTn (σ.1 2) (σ.1 3) px py i (zNx n i)))] [] σ
                refine zwk hV [1, 2, 3, 0, 4, 5, 6, 7, 8, 9] rfl ?_
                exact HE _ hK
              · skip
                refine zq (σ := σ) hV hI rfl 2 ?_
                show (¬ (1 : Int32) = 0 → V 146 [(0, .ref 1), (1, .int px), (2, .int py), (3, .int 1), (4, .int (nI i)), (6, .int (zfx (σ.1 2) px i)), (7, .int (zfx (σ.1 3) py i)), (8, .int (zfx (σ.1 2) px (zNx n i))), (9, .int (zfx (σ.1 3) py (zNx n i))), (10, .int (zTn (σ.1 2) (σ.1 3) px py i (zNx n i)))] [] σ) ∧ (¬ (¬ (1 : Int32) = 0) → V 142 [(0, .ref 1), (1, .int px), (2, .int py), (3, .int 1), (4, .int (nI i)), (6, .int (zfx (σ.1 2) px i)), (7, .int (zfx (σ.1 3) py i)), (8, .int (zfx (σ.1 2) px (zNx n i))), (9, .int (zfx (σ.1 3) py (zNx n i))), (10, .int (zTn (σ.1 2) (σ.1 3) px py i (zNx n i)))] [] σ)
                refine ⟨fun _ => ?_, fun hc => absurd (by decide) hc⟩
                refine zq (σ := σ) hV hI rfl 2 ?_
                show V 148 [(3, .int 0), (0, .ref 1), (1, .int px), (2, .int py), (4, .int (nI i)), (6, .int (zfx (σ.1 2) px i)), (7, .int (zfx (σ.1 3) py i)), (8, .int (zfx (σ.1 2) px (zNx n i))), (9, .int (zfx (σ.1 3) py (zNx n i))), (10, .int (zTn (σ.1 2) (σ.1 3) px py i (zNx n i)))] [] σ
                refine zwk hV [1, 2, 3, 0, 4, 5, 6, 7, 8, 9] rfl ?_
                exact HE _ hK
        · skip
          refine zq (σ := σ) hV hI rfl 2 ?_
          show (0 < (zfx (σ.1 3) py i) → V 148 [(0, .ref 1), (1, .int px), (2, .int py), (3, .int (zb o)), (4, .int (nI i)), (6, .int (zfx (σ.1 2) px i)), (7, .int (zfx (σ.1 3) py i)), (8, .int (zfx (σ.1 2) px (zNx n i))), (9, .int (zfx (σ.1 3) py (zNx n i))), (10, .int (zTn (σ.1 2) (σ.1 3) px py i (zNx n i)))] [] σ) ∧ (¬ 0 < (zfx (σ.1 3) py i) → V 120 [(0, .ref 1), (1, .int px), (2, .int py), (3, .int (zb o)), (4, .int (nI i)), (6, .int (zfx (σ.1 2) px i)), (7, .int (zfx (σ.1 3) py i)), (8, .int (zfx (σ.1 2) px (zNx n i))), (9, .int (zfx (σ.1 3) py (zNx n i))), (10, .int (zTn (σ.1 2) (σ.1 3) px py i (zNx n i)))] [] σ)
          refine ⟨fun h_117 => ?_, fun h_117 => ?_⟩
          · skip
            refine zwk hV [0, 1, 2, 3, 4, 5, 6, 7, 8, 9] rfl ?_
            have hcr : zCr (zfx (σ.1 3) py i) (zfx (σ.1 3) py (zNx n i)) (zTn (σ.1 2) (σ.1 3) px py i (zNx n i)) = false := by
              unfold zCr
              refine decide_eq_false (fun hq => ?_)
              simp only [zlt, zle] at *
              omega
            rw [hcr] at hK
            exact HE _ hK
          · skip
            refine zq (σ := σ) hV hI rfl 2 ?_
            show ((zTn (σ.1 2) (σ.1 3) px py i (zNx n i)) ≤ 0 → V 148 [(0, .ref 1), (1, .int px), (2, .int py), (3, .int (zb o)), (4, .int (nI i)), (6, .int (zfx (σ.1 2) px i)), (7, .int (zfx (σ.1 3) py i)), (8, .int (zfx (σ.1 2) px (zNx n i))), (9, .int (zfx (σ.1 3) py (zNx n i))), (10, .int (zTn (σ.1 2) (σ.1 3) px py i (zNx n i)))] [] σ) ∧ (¬ (zTn (σ.1 2) (σ.1 3) px py i (zNx n i)) ≤ 0 → V 125 [(0, .ref 1), (1, .int px), (2, .int py), (3, .int (zb o)), (4, .int (nI i)), (6, .int (zfx (σ.1 2) px i)), (7, .int (zfx (σ.1 3) py i)), (8, .int (zfx (σ.1 2) px (zNx n i))), (9, .int (zfx (σ.1 3) py (zNx n i))), (10, .int (zTn (σ.1 2) (σ.1 3) px py i (zNx n i)))] [] σ)
            refine ⟨fun h_122 => ?_, fun h_122 => ?_⟩
            · skip
              refine zwk hV [0, 1, 2, 3, 4, 5, 6, 7, 8, 9] rfl ?_
              have hcr : zCr (zfx (σ.1 3) py i) (zfx (σ.1 3) py (zNx n i)) (zTn (σ.1 2) (σ.1 3) px py i (zNx n i)) = false := by
                unfold zCr
                refine decide_eq_false (fun hq => ?_)
                simp only [zlt, zle] at *
                omega
              rw [hcr] at hK
              exact HE _ hK
            · skip
              refine zq (σ := σ) hV hI rfl 1 ?_
              show V 138 [(0, .ref 1), (1, .int px), (2, .int py), (3, .int (zb o)), (4, .int (nI i)), (6, .int (zfx (σ.1 2) px i)), (7, .int (zfx (σ.1 3) py i)), (8, .int (zfx (σ.1 2) px (zNx n i))), (9, .int (zfx (σ.1 3) py (zNx n i))), (10, .int (zTn (σ.1 2) (σ.1 3) px py i (zNx n i)))] [] σ
              refine zwk hV [0, 1, 2, 3, 4, 5, 6, 7, 8, 9] rfl ?_
              have hcr : zCr (zfx (σ.1 3) py i) (zfx (σ.1 3) py (zNx n i)) (zTn (σ.1 2) (σ.1 3) px py i (zNx n i)) = true := by
                unfold zCr
                first | exact decide_eq_true (Or.inl ⟨Int32.not_le.mp h_112, Int32.not_lt.mp h_117, Int32.not_le.mp h_122⟩) | exact decide_eq_true (Or.inr ⟨h_112, Int32.not_le.mp h_130, Int32.not_le.mp h_135⟩)
              rw [hcr] at hK
              cases o
              · skip
                refine zq (σ := σ) hV hI rfl 2 ?_
                show (¬ (0 : Int32) = 0 → V 146 [(0, .ref 1), (1, .int px), (2, .int py), (3, .int 0), (4, .int (nI i)), (6, .int (zfx (σ.1 2) px i)), (7, .int (zfx (σ.1 3) py i)), (8, .int (zfx (σ.1 2) px (zNx n i))), (9, .int (zfx (σ.1 3) py (zNx n i))), (10, .int (zTn (σ.1 2) (σ.1 3) px py i (zNx n i)))] [] σ) ∧ (¬ (¬ (0 : Int32) = 0) → V 142 [(0, .ref 1), (1, .int px), (2, .int py), (3, .int 0), (4, .int (nI i)), (6, .int (zfx (σ.1 2) px i)), (7, .int (zfx (σ.1 3) py i)), (8, .int (zfx (σ.1 2) px (zNx n i))), (9, .int (zfx (σ.1 3) py (zNx n i))), (10, .int (zTn (σ.1 2) (σ.1 3) px py i (zNx n i)))] [] σ)
                refine ⟨fun hc => absurd hc (by decide), fun _ => ?_⟩
                refine zq (σ := σ) hV hI rfl 3 ?_
                show V 148 [(3, .int 1), (0, .ref 1), (1, .int px), (2, .int py), (4, .int (nI i)), (6, .int (zfx (σ.1 2) px i)), (7, .int (zfx (σ.1 3) py i)), (8, .int (zfx (σ.1 2) px (zNx n i))), (9, .int (zfx (σ.1 3) py (zNx n i))), (10, .int (zTn (σ.1 2) (σ.1 3) px py i (zNx n i)))] [] σ
                refine zwk hV [1, 2, 3, 0, 4, 5, 6, 7, 8, 9] rfl ?_
                exact HE _ hK
              · skip
                refine zq (σ := σ) hV hI rfl 2 ?_
                show (¬ (1 : Int32) = 0 → V 146 [(0, .ref 1), (1, .int px), (2, .int py), (3, .int 1), (4, .int (nI i)), (6, .int (zfx (σ.1 2) px i)), (7, .int (zfx (σ.1 3) py i)), (8, .int (zfx (σ.1 2) px (zNx n i))), (9, .int (zfx (σ.1 3) py (zNx n i))), (10, .int (zTn (σ.1 2) (σ.1 3) px py i (zNx n i)))] [] σ) ∧ (¬ (¬ (1 : Int32) = 0) → V 142 [(0, .ref 1), (1, .int px), (2, .int py), (3, .int 1), (4, .int (nI i)), (6, .int (zfx (σ.1 2) px i)), (7, .int (zfx (σ.1 3) py i)), (8, .int (zfx (σ.1 2) px (zNx n i))), (9, .int (zfx (σ.1 3) py (zNx n i))), (10, .int (zTn (σ.1 2) (σ.1 3) px py i (zNx n i)))] [] σ)
                refine ⟨fun _ => ?_, fun hc => absurd (by decide) hc⟩
                refine zq (σ := σ) hV hI rfl 2 ?_
                show V 148 [(3, .int 0), (0, .ref 1), (1, .int px), (2, .int py), (4, .int (nI i)), (6, .int (zfx (σ.1 2) px i)), (7, .int (zfx (σ.1 3) py i)), (8, .int (zfx (σ.1 2) px (zNx n i))), (9, .int (zfx (σ.1 3) py (zNx n i))), (10, .int (zTn (σ.1 2) (σ.1 3) px py i (zNx n i)))] [] σ
                refine zwk hV [1, 2, 3, 0, 4, 5, 6, 7, 8, 9] rfl ?_
                exact HE _ hK
      refine zq (σ := σ) hV hI rfl 2 ?_
      show (¬ (zTn (σ.1 2) (σ.1 3) px py i (zNx n i)) = 0 → V 110 [(0, .ref 1), (1, .int px), (2, .int py), (3, .int (zb o)), (4, .int (nI i)), (6, .int (zfx (σ.1 2) px i)), (7, .int (zfx (σ.1 3) py i)), (8, .int (zfx (σ.1 2) px (zNx n i))), (9, .int (zfx (σ.1 3) py (zNx n i))), (10, .int (zTn (σ.1 2) (σ.1 3) px py i (zNx n i)))] [] σ) ∧ (¬ (¬ (zTn (σ.1 2) (σ.1 3) px py i (zNx n i)) = 0) → V 92 [(0, .ref 1), (1, .int px), (2, .int py), (3, .int (zb o)), (4, .int (nI i)), (6, .int (zfx (σ.1 2) px i)), (7, .int (zfx (σ.1 3) py i)), (8, .int (zfx (σ.1 2) px (zNx n i))), (9, .int (zfx (σ.1 3) py (zNx n i))), (10, .int (zTn (σ.1 2) (σ.1 3) px py i (zNx n i)))] [] σ)
      refine ⟨fun h_89 => ?_, fun h_89 => ?_⟩
      · skip
        refine HC ?_
        unfold zOn
        first | exact decide_eq_false (fun hq => h_89 hq.1) | exact decide_eq_false (fun hq => Int32.not_lt.mpr hq.2.1 h_97) | exact decide_eq_false (fun hq => Int32.not_lt.mpr hq.2.2 h_105)
      · skip
        have h_89 := Classical.not_not.mp h_89
        refine zq (σ := σ) hV hI rfl 4 ?_
        show (0 < ((zfx (σ.1 2) px i) * (zfx (σ.1 2) px (zNx n i))) → V 110 [(0, .ref 1), (1, .int px), (2, .int py), (3, .int (zb o)), (4, .int (nI i)), (6, .int (zfx (σ.1 2) px i)), (7, .int (zfx (σ.1 3) py i)), (8, .int (zfx (σ.1 2) px (zNx n i))), (9, .int (zfx (σ.1 3) py (zNx n i))), (10, .int (zTn (σ.1 2) (σ.1 3) px py i (zNx n i)))] [] σ) ∧ (¬ 0 < ((zfx (σ.1 2) px i) * (zfx (σ.1 2) px (zNx n i))) → V 100 [(0, .ref 1), (1, .int px), (2, .int py), (3, .int (zb o)), (4, .int (nI i)), (6, .int (zfx (σ.1 2) px i)), (7, .int (zfx (σ.1 3) py i)), (8, .int (zfx (σ.1 2) px (zNx n i))), (9, .int (zfx (σ.1 3) py (zNx n i))), (10, .int (zTn (σ.1 2) (σ.1 3) px py i (zNx n i)))] [] σ)
        refine ⟨fun h_97 => ?_, fun h_97 => ?_⟩
        · skip
          refine HC ?_
          unfold zOn
          first | exact decide_eq_false (fun hq => h_89 hq.1) | exact decide_eq_false (fun hq => Int32.not_lt.mpr hq.2.1 h_97) | exact decide_eq_false (fun hq => Int32.not_lt.mpr hq.2.2 h_105)
        · skip
          refine zq (σ := σ) hV hI rfl 4 ?_
          show (0 < ((zfx (σ.1 3) py i) * (zfx (σ.1 3) py (zNx n i))) → V 110 [(0, .ref 1), (1, .int px), (2, .int py), (3, .int (zb o)), (4, .int (nI i)), (6, .int (zfx (σ.1 2) px i)), (7, .int (zfx (σ.1 3) py i)), (8, .int (zfx (σ.1 2) px (zNx n i))), (9, .int (zfx (σ.1 3) py (zNx n i))), (10, .int (zTn (σ.1 2) (σ.1 3) px py i (zNx n i)))] [] σ) ∧ (¬ 0 < ((zfx (σ.1 3) py i) * (zfx (σ.1 3) py (zNx n i))) → V 108 [(0, .ref 1), (1, .int px), (2, .int py), (3, .int (zb o)), (4, .int (nI i)), (6, .int (zfx (σ.1 2) px i)), (7, .int (zfx (σ.1 3) py i)), (8, .int (zfx (σ.1 2) px (zNx n i))), (9, .int (zfx (σ.1 3) py (zNx n i))), (10, .int (zTn (σ.1 2) (σ.1 3) px py i (zNx n i)))] [] σ)
          refine ⟨fun h_105 => ?_, fun h_105 => ?_⟩
          · skip
            refine HC ?_
            unfold zOn
            first | exact decide_eq_false (fun hq => h_89 hq.1) | exact decide_eq_false (fun hq => Int32.not_lt.mpr hq.2.1 h_97) | exact decide_eq_false (fun hq => Int32.not_lt.mpr hq.2.2 h_105)
          · skip
            refine zq (σ := σ) hV hI rfl 2 ?_
            show K (some (.int 2)) σ
            have hon : zOn (zfx (σ.1 2) px i) (zfx (σ.1 3) py i) (zfx (σ.1 2) px (zNx n i)) (zfx (σ.1 3) py (zNx n i)) (zTn (σ.1 2) (σ.1 3) px py i (zNx n i)) = true := decide_eq_true ⟨h_89, Int32.not_lt.mp h_97, Int32.not_lt.mp h_105⟩
            rw [zSd, hon] at hK
            exact hK
  exact H n 0 false (by omega) hK
