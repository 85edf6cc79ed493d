theorem zge_self {n i : Nat} (h : n = i) : nI n ≤ nI i := by rw [h]; exact Int32.le_refl _
def zfa (a : Nat) (b _j : Nat) : Bool := Nat.beq b a
/-- one relaxation -/
def zRx (C W : Nat → Int32) (i j : Nat) : Nat → Int32 := if ¬ C (i * 10 + j) = 0 ∧ W i + C (i * 10 + j) < W j then upd W j (W i + C (i * 10 + j)) else W
def zRj (C : Nat → Int32) (i : Nat) : Nat → Nat → (Nat → Int32) → Nat → Int32
  | 0, _, W => W
  | r + 1, j, W => zRj C i r (j + 1) (zRx C W i j)
def zRi (C : Nat → Int32) (n : Nat) : Nat → Nat → (Nat → Int32) → Nat → Int32
  | 0, _, W => W
  | r + 1, i, W => zRi C n r (i + 1) (zRj C i n 0 W)
def zRm (C : Nat → Int32) (n : Nat) : Nat → (Nat → Int32) → Nat → Int32
  | 0, W => W
  | r + 1, W => zRm C n r (zRi C n n 0 W)
def zW0 (a : Int32) (j : Nat) : Int32 := if nI j = a then 0 else 1048576
def zWay (C : Nat → Int32) (n : Nat) (a : Int32) (b : Nat) : Int32 := if zRm C n (n - 1) (zW0 a) b < 1048576 then zRm C n (n - 1) (zW0 a) b else -1
theorem zix10 {i j : Nat} : nI i * 10 + nI j = nI (i * 10 + j) := by rw [show (10 : Int32) = nI 10 from rfl, pk_mul, nI_add]
set_option maxRecDepth 8000 in
set_option maxHeartbeats 4000000 in
theorem gadd_ok {d : Nat} {σ : zSt} {K : Option Value → zSt → Prop} (hI : zQI (kR 21 24) σ.2.2) (hK : K none (zuI σ 21 2 (σ.1 21 2 + 1))) : zSp (d + 1) mX1_add [.ref 21] σ K := by
  refine ⟨⟨by decide, Nat.le_of_ble_eq_true rfl⟩, fun V hV => ?_⟩
  refine zq (σ := σ) hV hI rfl 7 ?_
  show K none (zuI σ 21 2 ((σ.1 21 2) + 1))
  exact hK
set_option maxRecDepth 8000 in
set_option maxHeartbeats 4000000 in
theorem join_ok {d : Nat} {σ : zSt} {K : Option Value → zSt → Prop} {a b c : Int32} {i j : Nat} (hI : zQI (kR 21 24) σ.2.2) (ea : a = nI i) (hi : i < 10) (eb : b = nI j) (hj : j < 10) (hK : K none (zuI (zuI σ 22 (i * 10 + j) c) 22 (j * 10 + i) c)) : zSp (d + 2) mX1_join [.ref 21, .int a, .int b, .int c] σ K := by
  refine ⟨⟨by decide, Nat.le_of_ble_eq_true rfl⟩, fun V hV => ?_⟩
  subst ea
  subst eb
  refine zq (σ := σ) hV hI rfl 9 ?_
  show zSp _ 129 [.ref 22, .int (((nI i) * 10) + (nI j)), .int c] σ (fun r σ' => σ'.2.2.2 = σ.2.2.2 + zAl 129 → V 14 [(0, .ref 21), (1, .int (nI i)), (2, .int (nI j)), (3, .int c)] (r.toList ++ []) σ')
  refine setItem_22 (zA_of hI rfl) zix10 (by omega) (fun _ => ?_)
  refine zq (σ := (zuI σ 22 (i * 10 + j) c)) hV hI rfl 9 ?_
  show zSp _ 129 [.ref 22, .int (((nI j) * 10) + (nI i)), .int c] (zuI σ 22 (i * 10 + j) c) (fun r σ' => σ'.2.2.2 = (zuI σ 22 (i * 10 + j) c).2.2.2 + zAl 129 → V 28 [(0, .ref 21), (1, .int (nI i)), (2, .int (nI j)), (3, .int c)] (r.toList ++ []) σ')
  refine setItem_22 (zA_of hI rfl) zix10 (by omega) (fun _ => ?_)
  refine zq (σ := (zuI (zuI σ 22 (i * 10 + j) c) 22 (j * 10 + i) c)) hV hI rfl 1 ?_
  show K none (zuI (zuI σ 22 (i * 10 + j) c) 22 (j * 10 + i) c)
  exact hK
set_option maxRecDepth 8000 in
set_option maxHeartbeats 4000000 in
theorem goOne_ok {d : Nat} {σ : zSt} {K : Option Value → zSt → Prop} {n : Nat} {W0 Wf : Nat → Int32} (hI : zQI (kR 21 24) σ.2.2) (hs : σ.1 21 2 = nI n) (hn : n ≤ 10) (hW : ∀ q, q < n → σ.1 23 q = W0 q) (hf : zRi (σ.1 22) n n 0 W0 = Wf) (hK : ∀ τ, zOnly (zfa 23) σ τ → (∀ q, q < n → τ.1 23 q = Wf q) → K none τ) : zSp (d + 2) mX1_goOneMoveFarther [.ref 21] σ K := by
  refine ⟨⟨by decide, Nat.le_of_ble_eq_true rfl⟩, fun V hV => ?_⟩
  subst hf
  refine zq (σ := σ) hV hI rfl 2 ?_
  show V 2 [(1, .int 0), (0, .ref 21)] [] σ
  refine zwk hV [1, 0] rfl ?_
  have Hi : ∀ (r : Nat) (i : Nat) (τ : zSt) (W : Nat → Int32), i + r = n → zOnly (zfa 23) σ τ → (∀ q, q < n → τ.1 23 q = W q) → zRi (σ.1 22) n r i W = zRi (σ.1 22) n n 0 W0 → V 2 [(0, .ref 21), (1, .int (nI i))] [] τ := by
    intro r
    induction r with
    | zero =>
      intro i τ W hin ht hwt hfin
      have hIτ := zQI_eq hI ht.2.2
      have hnτ : τ.2.2.2 = σ.2.2.2 := congrArg Prod.snd ht.2.2
      have hst : τ.1 21 2 = nI n := (ht.1 21 2 rfl).trans hs
      refine zq (σ := τ) hV hIτ hnτ 4 ?_
      show ((τ.1 21 2) ≤ (nI i) → V 85 [(0, .ref 21), (1, .int (nI i))] [] τ) ∧ (¬ (τ.1 21 2) ≤ (nI i) → V 10 [(0, .ref 21), (1, .int (nI i))] [] τ)
      refine ⟨fun _ => ?_, fun hc => absurd (show (τ.1 21 2) ≤ nI i by rw [hst]; exact zge_self (by omega)) hc⟩
      refine zq (σ := τ) hV hIτ hnτ 1 ?_
      show K none τ
      exact hK τ ht (fun q hq => (hwt q hq).trans (congrFun hfin q))
    | succ r ihi =>
      intro i τ W hin ht hwt hfin
      have hIτ := zQI_eq hI ht.2.2
      have hnτ : τ.2.2.2 = σ.2.2.2 := congrArg Prod.snd ht.2.2
      have hst : τ.1 21 2 = nI n := (ht.1 21 2 rfl).trans hs
      refine zq (σ := τ) hV hIτ hnτ 4 ?_
      show ((τ.1 21 2) ≤ (nI i) → V 85 [(0, .ref 21), (1, .int (nI i))] [] τ) ∧ (¬ (τ.1 21 2) ≤ (nI i) → V 10 [(0, .ref 21), (1, .int (nI i))] [] τ)
      refine ⟨fun hc => absurd hc (show ¬ (τ.1 21 2) ≤ nI i by rw [hst]; exact nI_ge (by omega) (by omega)), fun _ => ?_⟩
      refine zq (σ := τ) hV hIτ hnτ 2 ?_
      show V 12 [(2, .int 0), (0, .ref 21), (1, .int (nI i))] [] τ
      refine zwk hV [1, 2, 0] rfl ?_
      have Hj : ∀ (r : Nat) (j : Nat) (υ : zSt) (U : Nat → Int32), j + r = n → zOnly (zfa 23) σ υ → (∀ q, q < n → υ.1 23 q = U q) → zRj (σ.1 22) i r j U = zRj (σ.1 22) i n 0 W → V 12 [(0, .ref 21), (1, .int (nI i)), (2, .int (nI j))] [] υ := by
        intro r
        induction r with
        | zero =>
          intro j υ U hjn hu hwu hend
          have hIυ := zQI_eq hI hu.2.2
          have hnυ : υ.2.2.2 = σ.2.2.2 := congrArg Prod.snd hu.2.2
          have hsu : υ.1 21 2 = nI n := (hu.1 21 2 rfl).trans hs
          replace hend : U = zRj (σ.1 22) i n 0 W := hend
          refine zq (σ := υ) hV hIυ hnυ 4 ?_
          show ((υ.1 21 2) ≤ (nI j) → V 79 [(0, .ref 21), (1, .int (nI i)), (2, .int (nI j))] [] υ) ∧ (¬ (υ.1 21 2) ≤ (nI j) → V 20 [(0, .ref 21), (1, .int (nI i)), (2, .int (nI j))] [] υ)
          refine ⟨fun _ => ?_, fun hc => absurd (show (υ.1 21 2) ≤ nI j by rw [hsu]; exact zge_self (by omega)) hc⟩
          refine zq (σ := υ) hV hIυ hnυ 2 ?_
          show V 2 [(1, .int ((nI i) + 1)), (0, .ref 21), (2, .int (nI j))] [] υ
          refine zwk hV [1, 0] rfl ?_
          rw [nI_1]
          exact ihi (i + 1) υ _ (by omega) hu hwu (by rw [← hfin, hend]; rfl)
        | succ r ihj =>
          intro j υ U hjn hu hwu hend
          have hIυ := zQI_eq hI hu.2.2
          have hnυ : υ.2.2.2 = σ.2.2.2 := congrArg Prod.snd hu.2.2
          have hsu : υ.1 21 2 = nI n := (hu.1 21 2 rfl).trans hs
          have hC : υ.1 22 (i * 10 + j) = σ.1 22 (i * 10 + j) := hu.1 22 _ rfl
          refine zq (σ := υ) hV hIυ hnυ 4 ?_
          show ((υ.1 21 2) ≤ (nI j) → V 79 [(0, .ref 21), (1, .int (nI i)), (2, .int (nI j))] [] υ) ∧ (¬ (υ.1 21 2) ≤ (nI j) → V 20 [(0, .ref 21), (1, .int (nI i)), (2, .int (nI j))] [] υ)
          refine ⟨fun hc => absurd hc (show ¬ (υ.1 21 2) ≤ nI j by rw [hsu]; exact nI_ge (by omega) (by omega)), fun _ => ?_⟩
          refine zq (σ := υ) hV hIυ hnυ 8 ?_
          show zSp _ 128 [.ref 22, .int (((nI i) * 10) + (nI j))] υ (fun r σ' => σ'.2.2.2 = υ.2.2.2 + zAl 128 → V 33 [(0, .ref 21), (1, .int (nI i)), (2, .int (nI j))] (r.toList ++ []) σ')
          refine item_22 (zA_of hIυ rfl) zix10 (by omega) (fun _ => ?_)
          refine zq (σ := υ) hV hIυ hnυ 5 ?_
          show zSp _ 128 [.ref 23, .int (nI i)] υ (fun r σ' => σ'.2.2.2 = υ.2.2.2 + zAl 128 → V 42 [(3, .int (υ.1 22 (i * 10 + j))), (0, .ref 21), (1, .int (nI i)), (2, .int (nI j))] (r.toList ++ []) σ')
          refine item_23 (zA_of hIυ rfl) rfl (by omega) (fun _ => ?_)
          refine zq (σ := υ) hV hIυ hnυ 5 ?_
          show ((υ.1 22 (i * 10 + j)) = 0 → V 73 [(4, .int ((υ.1 23 i) + (υ.1 22 (i * 10 + j)))), (3, .int (υ.1 22 (i * 10 + j))), (0, .ref 21), (1, .int (nI i)), (2, .int (nI j))] [] υ) ∧ (¬ (υ.1 22 (i * 10 + j)) = 0 → V 50 [(4, .int ((υ.1 23 i) + (υ.1 22 (i * 10 + j)))), (3, .int (υ.1 22 (i * 10 + j))), (0, .ref 21), (1, .int (nI i)), (2, .int (nI j))] [] υ)
          refine ⟨fun h_47 => ?_, fun h_47 => ?_⟩
          · skip
            refine zq (σ := υ) hV hIυ hnυ 2 ?_
            show V 12 [(2, .int ((nI j) + 1)), (4, .int ((υ.1 23 i) + (υ.1 22 (i * 10 + j)))), (3, .int (υ.1 22 (i * 10 + j))), (0, .ref 21), (1, .int (nI i))] [] υ
            refine zwk hV [3, 4, 0] rfl ?_
            rw [nI_1]
            refine ihj (j + 1) _ (zRx (σ.1 22) U i j) (by omega) hu (fun q hq => ?_) hend
            rw [hwu q hq]
            unfold zRx
            rw [if_neg]
            rintro ⟨x1, x2⟩
            rw [← hC] at x1 x2
            exact x1 h_47
          · skip
            refine zq (σ := υ) hV hIυ hnυ 5 ?_
            show zSp _ 128 [.ref 23, .int (nI j)] υ (fun r σ' => σ'.2.2.2 = υ.2.2.2 + zAl 128 → V 60 [(4, .int ((υ.1 23 i) + (υ.1 22 (i * 10 + j)))), (3, .int (υ.1 22 (i * 10 + j))), (0, .ref 21), (1, .int (nI i)), (2, .int (nI j))] (r.toList ++ [.int ((υ.1 23 i) + (υ.1 22 (i * 10 + j)))]) σ')
            refine item_23 (zA_of hIυ rfl) rfl (by omega) (fun _ => ?_)
            refine zq (σ := υ) hV hIυ hnυ 1 ?_
            show ((υ.1 23 j) ≤ ((υ.1 23 i) + (υ.1 22 (i * 10 + j))) → V 73 [(4, .int ((υ.1 23 i) + (υ.1 22 (i * 10 + j)))), (3, .int (υ.1 22 (i * 10 + j))), (0, .ref 21), (1, .int (nI i)), (2, .int (nI j))] [] υ) ∧ (¬ (υ.1 23 j) ≤ ((υ.1 23 i) + (υ.1 22 (i * 10 + j))) → V 63 [(4, .int ((υ.1 23 i) + (υ.1 22 (i * 10 + j)))), (3, .int (υ.1 22 (i * 10 + j))), (0, .ref 21), (1, .int (nI i)), (2, .int (nI j))] [] υ)
            refine ⟨fun h_60 => ?_, fun h_60 => ?_⟩
            · skip
              refine zq (σ := υ) hV hIυ hnυ 2 ?_
              show V 12 [(2, .int ((nI j) + 1)), (4, .int ((υ.1 23 i) + (υ.1 22 (i * 10 + j)))), (3, .int (υ.1 22 (i * 10 + j))), (0, .ref 21), (1, .int (nI i))] [] υ
              refine zwk hV [3, 4, 0] rfl ?_
              rw [nI_1]
              refine ihj (j + 1) _ (zRx (σ.1 22) U i j) (by omega) hu (fun q hq => ?_) hend
              rw [hwu q hq]
              unfold zRx
              rw [if_neg]
              rintro ⟨x1, x2⟩
              rw [← hC] at x1 x2
              rw [hwu i (by omega), hwu j (by omega)] at h_60
              exact Int32.not_le.mpr x2 h_60
            · skip
              refine zq (σ := υ) hV hIυ hnυ 5 ?_
              show zSp _ 129 [.ref 23, .int (nI j), .int ((υ.1 23 i) + (υ.1 22 (i * 10 + j)))] υ (fun r σ' => σ'.2.2.2 = υ.2.2.2 + zAl 129 → V 73 [(4, .int ((υ.1 23 i) + (υ.1 22 (i * 10 + j)))), (3, .int (υ.1 22 (i * 10 + j))), (0, .ref 21), (1, .int (nI i)), (2, .int (nI j))] (r.toList ++ []) σ')
              refine setItem_23 (zA_of hIυ rfl) rfl (by omega) (fun _ => ?_)
              refine zq (σ := (zuI υ 23 j ((υ.1 23 i) + (υ.1 22 (i * 10 + j))))) hV hIυ hnυ 2 ?_
              show V 12 [(2, .int ((nI j) + 1)), (4, .int ((υ.1 23 i) + (υ.1 22 (i * 10 + j)))), (3, .int (υ.1 22 (i * 10 + j))), (0, .ref 21), (1, .int (nI i))] [] (zuI υ 23 j ((υ.1 23 i) + (υ.1 22 (i * 10 + j))))
              refine zwk hV [3, 4, 0] rfl ?_
              rw [nI_1]
              refine ihj (j + 1) _ (zRx (σ.1 22) U i j) (by omega) (hu.uI rfl) (fun q hq => ?_) hend
              rw [zuI_get, hC, hwu i (by omega), hwu q hq]
              rw [hC, hwu i (by omega), hwu j (by omega)] at h_60
              rw [hC] at h_47
              have e9 : zRx (σ.1 22) U i j = upd U j (U i + σ.1 22 (i * 10 + j)) := if_pos ⟨h_47, Int32.not_le.mp h_60⟩
              rw [e9]
              unfold upd
              by_cases e : q = j
              · rw [if_pos e, if_pos ⟨rfl, e⟩]
              · rw [if_neg e, if_neg (fun x => e x.2)]
      exact Hj n 0 τ W (by omega) ht hwt rfl
  exact Hi n 0 σ W0 (by omega) zOnly.rf hW rfl
set_option maxRecDepth 8000 in
set_option maxHeartbeats 4000000 in
theorem leastCost_ok {d : Nat} {σ : zSt} {K : Option Value → zSt → Prop} {a b : Int32} {n k : Nat} (hI : zQI (kR 21 24) σ.2.2) (hs : σ.1 21 2 = nI n) (hn : n ≤ 10) (eb : b = nI k) (hk : k < n) (hK : ∀ τ, zOnly (zfa 23) σ τ → K (some (.int (zWay (σ.1 22) n a k))) τ) : zSp (d + 3) mX1_leastCost [.ref 21, .int a, .int b] σ K := by
  refine ⟨⟨by decide, Nat.le_of_ble_eq_true rfl⟩, fun V hV => ?_⟩
  subst eb
  refine zq (σ := σ) hV hI rfl 2 ?_
  show V 2 [(3, .int 0), (0, .ref 21), (1, .int a), (2, .int (nI k))] [] σ
  refine zwk hV [1, 2, 3, 0] rfl ?_
  have Ha : ∀ (r : Nat) (i : Nat) (τ : zSt), i + r = n → zOnly (zfa 23) σ τ → (∀ q, q < i → τ.1 23 q = zW0 a q) → V 2 [(0, .ref 21), (1, .int a), (2, .int (nI k)), (3, .int (nI i))] [] τ := by
    intro r
    induction r with
    | zero =>
      intro i τ hin ht hwt
      have hIτ := zQI_eq hI ht.2.2
      have hnτ : τ.2.2.2 = σ.2.2.2 := congrArg Prod.snd ht.2.2
      have hst : τ.1 21 2 = nI n := (ht.1 21 2 rfl).trans hs
      refine zq (σ := τ) hV hIτ hnτ 4 ?_
      show ((τ.1 21 2) ≤ (nI i) → V 35 [(0, .ref 21), (1, .int a), (2, .int (nI k)), (3, .int (nI i))] [] τ) ∧ (¬ (τ.1 21 2) ≤ (nI i) → V 10 [(0, .ref 21), (1, .int a), (2, .int (nI k)), (3, .int (nI i))] [] τ)
      refine ⟨fun _ => ?_, fun hc => absurd (show (τ.1 21 2) ≤ nI i by rw [hst]; exact zge_self (by omega)) hc⟩
      refine zq (σ := τ) hV hIτ hnτ 2 ?_
      show V 37 [(3, .int 1), (0, .ref 21), (1, .int a), (2, .int (nI k))] [] τ
      refine zwk hV [1, 2, 3, 0] rfl ?_
      have Hb : ∀ (r : Nat) (i : Nat) (τ : zSt) (W : Nat → Int32), i + r = n → zOnly (zfa 23) σ τ → (∀ q, q < n → τ.1 23 q = W q) → zRm (σ.1 22) n r W = zRm (σ.1 22) n (n - 1) (zW0 a) → V 37 [(0, .ref 21), (1, .int a), (2, .int (nI k)), (3, .int (nI i))] [] τ := by
        intro r
        induction r with
        | zero =>
          intro i τ W hin ht hwt hfin
          have hIτ := zQI_eq hI ht.2.2
          have hnτ : τ.2.2.2 = σ.2.2.2 := congrArg Prod.snd ht.2.2
          have hst : τ.1 21 2 = nI n := (ht.1 21 2 rfl).trans hs
          have hC : τ.1 22 = σ.1 22 := funext fun j => ht.1 22 j rfl
          refine zq (σ := τ) hV hIτ hnτ 4 ?_
          show ((τ.1 21 2) ≤ (nI i) → V 55 [(0, .ref 21), (1, .int a), (2, .int (nI k)), (3, .int (nI i))] [] τ) ∧ (¬ (τ.1 21 2) ≤ (nI i) → V 45 [(0, .ref 21), (1, .int a), (2, .int (nI k)), (3, .int (nI i))] [] τ)
          refine ⟨fun _ => ?_, fun hc => absurd (show (τ.1 21 2) ≤ nI i by rw [hst]; exact zge_self (by omega)) hc⟩
          refine zq (σ := τ) hV hIτ hnτ 4 ?_
          show zSp _ 128 [.ref 23, .int (nI k)] τ (fun r σ' => σ'.2.2.2 = τ.2.2.2 + zAl 128 → V 63 [(0, .ref 21), (1, .int a), (2, .int (nI k)), (3, .int (nI i))] (r.toList ++ []) σ')
          refine item_23 (zA_of hIτ rfl) rfl (by omega) (fun _ => ?_)
          refine zq (σ := τ) hV hIτ hnτ 4 ?_
          show (1048576 ≤ (τ.1 23 k) → V 74 [(3, .int (τ.1 23 k)), (0, .ref 21), (1, .int a), (2, .int (nI k))] [] τ) ∧ (¬ 1048576 ≤ (τ.1 23 k) → V 70 [(3, .int (τ.1 23 k)), (0, .ref 21), (1, .int a), (2, .int (nI k))] [] τ)
          refine ⟨fun h_67 => ?_, fun h_67 => ?_⟩
          · skip
            refine zq (σ := τ) hV hIτ hnτ 2 ?_
            show K (some (.int (-1))) τ
            replace hK := hK τ ht
            have e : τ.1 23 k = zRm (σ.1 22) n (n - 1) (zW0 a) k := (hwt k hk).trans (congrFun hfin k)
            rw [e] at h_67
            unfold zWay at hK
            first | (rw [if_pos (Int32.not_le.mp h_67)] at hK; exact hK) | (rw [if_neg (fun q => Int32.not_le.mpr q h_67)] at hK; exact hK)
          · skip
            refine zq (σ := τ) hV hIτ hnτ 3 ?_
            show K (some (.int (τ.1 23 k))) τ
            replace hK := hK τ ht
            have e : τ.1 23 k = zRm (σ.1 22) n (n - 1) (zW0 a) k := (hwt k hk).trans (congrFun hfin k)
            rw [e] at h_67
            rw [e]
            unfold zWay at hK
            first | (rw [if_pos (Int32.not_le.mp h_67)] at hK; exact hK) | (rw [if_neg (fun q => Int32.not_le.mpr q h_67)] at hK; exact hK)
        | succ r ihb =>
          intro i τ W hin ht hwt hfin
          have hIτ := zQI_eq hI ht.2.2
          have hnτ : τ.2.2.2 = σ.2.2.2 := congrArg Prod.snd ht.2.2
          have hst : τ.1 21 2 = nI n := (ht.1 21 2 rfl).trans hs
          have hC : τ.1 22 = σ.1 22 := funext fun j => ht.1 22 j rfl
          refine zq (σ := τ) hV hIτ hnτ 4 ?_
          show ((τ.1 21 2) ≤ (nI i) → V 55 [(0, .ref 21), (1, .int a), (2, .int (nI k)), (3, .int (nI i))] [] τ) ∧ (¬ (τ.1 21 2) ≤ (nI i) → V 45 [(0, .ref 21), (1, .int a), (2, .int (nI k)), (3, .int (nI i))] [] τ)
          refine ⟨fun hc => absurd hc (show ¬ (τ.1 21 2) ≤ nI i by rw [hst]; exact nI_ge (by omega) (by omega)), fun _ => ?_⟩
          refine zq (σ := τ) hV hIτ hnτ 2 ?_
          show zSp _ 15 [.ref 21] τ (fun r σ' => σ'.2.2.2 = τ.2.2.2 + zAl 15 → V 49 [(0, .ref 21), (1, .int a), (2, .int (nI k)), (3, .int (nI i))] (r.toList ++ []) σ')
          refine goOne_ok (zR_of hIτ rfl rfl) hst (by omega) hwt rfl (fun υ hu hwu _ => ?_)
          rw [hC] at hwu
          replace hu := ht.tr hu
          have hIυ := zQI_eq hI hu.2.2
          have hnυ : υ.2.2.2 = σ.2.2.2 := congrArg Prod.snd hu.2.2
          refine zq (σ := υ) hV hIυ hnυ 2 ?_
          show V 37 [(3, .int ((nI i) + 1)), (0, .ref 21), (1, .int a), (2, .int (nI k))] [] υ
          refine zwk hV [1, 2, 3, 0] rfl ?_
          rw [nI_1]
          exact ihb (i + 1) υ _ (by omega) hu hwu hfin
      exact Hb (n - 1) 1 τ _ (by omega) ht (fun q hq => hwt q (by omega)) rfl
    | succ r iha =>
      intro i τ hin ht hwt
      have hIτ := zQI_eq hI ht.2.2
      have hnτ : τ.2.2.2 = σ.2.2.2 := congrArg Prod.snd ht.2.2
      have hst : τ.1 21 2 = nI n := (ht.1 21 2 rfl).trans hs
      refine zq (σ := τ) hV hIτ hnτ 4 ?_
      show ((τ.1 21 2) ≤ (nI i) → V 35 [(0, .ref 21), (1, .int a), (2, .int (nI k)), (3, .int (nI i))] [] τ) ∧ (¬ (τ.1 21 2) ≤ (nI i) → V 10 [(0, .ref 21), (1, .int a), (2, .int (nI k)), (3, .int (nI i))] [] τ)
      refine ⟨fun hc => absurd hc (show ¬ (τ.1 21 2) ≤ nI i by rw [hst]; exact nI_ge (by omega) (by omega)), fun _ => ?_⟩
      refine zq (σ := τ) hV hIτ hnτ 6 ?_
      show (¬ (nI i) = a → V 24 [(0, .ref 21), (1, .int a), (2, .int (nI k)), (3, .int (nI i))] [.int (nI i), .ref 23] τ) ∧ (¬ (¬ (nI i) = a) → V 20 [(0, .ref 21), (1, .int a), (2, .int (nI k)), (3, .int (nI i))] [.int (nI i), .ref 23] τ)
      refine ⟨fun h_17 => ?_, fun h_17 => ?_⟩
      · skip
        refine zq (σ := τ) hV hIτ hnτ 2 ?_
        show zSp _ 129 [.ref 23, .int (nI i), .int 1048576] τ (fun r σ' => σ'.2.2.2 = τ.2.2.2 + zAl 129 → V 29 [(0, .ref 21), (1, .int a), (2, .int (nI k)), (3, .int (nI i))] (r.toList ++ []) σ')
        refine setItem_23 (zA_of hIτ rfl) rfl (by omega) (fun _ => ?_)
        refine zq (σ := (zuI τ 23 i 1048576)) hV hIτ hnτ 2 ?_
        show V 2 [(3, .int ((nI i) + 1)), (0, .ref 21), (1, .int a), (2, .int (nI k))] [] (zuI τ 23 i 1048576)
        refine zwk hV [1, 2, 3, 0] rfl ?_
        rw [nI_1]
        refine iha (i + 1) _ (by omega) (ht.uI rfl) (fun q hq => ?_)
        rw [zuI_get]
        by_cases e : q = i
        · subst e; rw [if_pos ⟨rfl, rfl⟩]; unfold zW0; first | (rw [if_pos h_17]) | (rw [if_neg h_17])
        · rw [if_neg (fun x => e x.2)]; exact hwt q (by omega)
      · skip
        have h_17 := Classical.not_not.mp h_17
        refine zq (σ := τ) hV hIτ hnτ 3 ?_
        show zSp _ 129 [.ref 23, .int (nI i), .int 0] τ (fun r σ' => σ'.2.2.2 = τ.2.2.2 + zAl 129 → V 29 [(0, .ref 21), (1, .int a), (2, .int (nI k)), (3, .int (nI i))] (r.toList ++ []) σ')
        refine setItem_23 (zA_of hIτ rfl) rfl (by omega) (fun _ => ?_)
        refine zq (σ := (zuI τ 23 i 0)) hV hIτ hnτ 2 ?_
        show V 2 [(3, .int ((nI i) + 1)), (0, .ref 21), (1, .int a), (2, .int (nI k))] [] (zuI τ 23 i 0)
        refine zwk hV [1, 2, 3, 0] rfl ?_
        rw [nI_1]
        refine iha (i + 1) _ (by omega) (ht.uI rfl) (fun q hq => ?_)
        rw [zuI_get]
        by_cases e : q = i
        · subst e; rw [if_pos ⟨rfl, rfl⟩]; unfold zW0; first | (rw [if_pos h_17]) | (rw [if_neg h_17])
        · rw [if_neg (fun x => e x.2)]; exact hwt q (by omega)
  exact Ha n 0 σ (by omega) zOnly.rf (fun q hq => absurd hq (Nat.not_lt_zero q))
set_option maxRecDepth 8000 in
set_option maxHeartbeats 4000000 in
theorem grip_C {d : Nat} {σ : zSt} {K : Option Value → zSt → Prop} {m : Nat} (hI : zQI (kR 0 30) σ.2.2) (hs : σ.1 21 2 = nI m) (hm : m ≤ 10) (hFull : m = 10 → K (some (.int (-4))) σ) (hOk : m < 10 → K (some (.int (nI m))) (zuI σ 21 2 (nI (m + 1)))) : zSp (d + 2) mX8_grip [.ref 0] σ K := by
  refine ⟨⟨by decide, Nat.le_of_ble_eq_true rfl⟩, fun V hV => ?_⟩
  have hmi := nI_toInt (show m < 2 ^ 31 by omega)
  refine zq (σ := σ) hV hI rfl 3 ?_
  show zSp _ 11 [.ref 21] σ (fun r σ' => σ'.2.2.2 = σ.2.2.2 + zAl 11 → V 7 [(0, .ref 0)] (r.toList ++ []) σ')
  refine gsize_ok (zR_of hI rfl rfl) (fun _ => ?_)
  refine zq (σ := σ) hV hI rfl 2 ?_
  show ((σ.1 21 2) < 10 → V 15 [(0, .ref 0)] [] σ) ∧ (¬ (σ.1 21 2) < 10 → V 12 [(0, .ref 0)] [] σ)
  refine ⟨fun h_9 => ?_, fun h_9 => ?_⟩
  · skip
    refine zq (σ := σ) hV hI rfl 3 ?_
    show zSp _ 12 [.ref 21] σ (fun r σ' => σ'.2.2.2 = σ.2.2.2 + zAl 12 → V 22 [(0, .ref 0)] (r.toList ++ []) σ')
    refine gadd_ok (zR_of hI rfl rfl) (fun _ => ?_)
    refine zq (σ := (zuI σ 21 2 ((σ.1 21 2) + 1))) hV hI rfl 3 ?_
    show zSp _ 11 [.ref 21] (zuI σ 21 2 ((σ.1 21 2) + 1)) (fun r σ' => σ'.2.2.2 = (zuI σ 21 2 ((σ.1 21 2) + 1)).2.2.2 + zAl 11 → V 29 [(0, .ref 0)] (r.toList ++ []) σ')
    refine gsize_ok (zR_of hI rfl rfl) (fun _ => ?_)
    refine zq (σ := (zuI σ 21 2 ((σ.1 21 2) + 1))) hV hI rfl 3 ?_
    show K (some (.int (((σ.1 21 2) + 1) - 1))) (zuI σ 21 2 ((σ.1 21 2) + 1))
    have hcap : m < 10 := by
      simp only [zlt, hs, hmi] at h_9
      simp at h_9
      omega
    rw [hs, nI_1, nI_pred]
    exact hOk hcap
  · skip
    refine zq (σ := σ) hV hI rfl 2 ?_
    show K (some (.int (-4))) σ
    refine hFull ?_
    simp only [zlt, hs, hmi] at h_9
    simp at h_9
    omega
set_option maxRecDepth 8000 in
set_option maxHeartbeats 4000000 in
theorem link_C {d : Nat} {σ : zSt} {K : Option Value → zSt → Prop} {a b c : Int32} {m : Nat} (hI : zQI (kR 0 30) σ.2.2) (hs : σ.1 21 2 = nI m) (hm : m ≤ 10) (hBad : ¬ (zBt 0 (m - 1) a ∧ zBt 0 (m - 1) b ∧ ¬ a = b ∧ zBt 1 1000 c) → K (some (.int (-2))) σ) (hOk : ∀ i j, a = nI i → i < m → b = nI j → j < m → (zBt 0 (m - 1) a ∧ zBt 0 (m - 1) b ∧ ¬ a = b ∧ zBt 1 1000 c) → K (some (.int 1)) (zuI (zuI σ 22 (i * 10 + j) c) 22 (j * 10 + i) c)) : zSp (d + 3) mX8_link [.ref 0, .int a, .int b, .int c] σ K := by
  refine ⟨⟨by decide, Nat.le_of_ble_eq_true rfl⟩, fun V hV => ?_⟩
  refine zq (σ := σ) hV hI rfl 3 ?_
  show zSp _ 126 [.ref 0, .int a] σ (fun r σ' => σ'.2.2.2 = σ.2.2.2 + zAl 126 → V 5 [(0, .ref 0), (1, .int a), (2, .int b), (3, .int c)] (r.toList ++ []) σ')
  refine isGrip_ok (zR_of hI rfl rfl) (by assumption) (by omega) (fun hb1 _ => ?_) (fun hb1 _ => ?_)
  · skip
    refine zq (σ := σ) hV hI rfl 1 ?_
    show ((1 : Int32) = 0 → V 33 [(0, .ref 0), (1, .int a), (2, .int b), (3, .int c)] [] σ) ∧ (¬ (1 : Int32) = 0 → V 8 [(0, .ref 0), (1, .int a), (2, .int b), (3, .int c)] [] σ)
    refine ⟨fun hc => absurd hc (by decide), fun _ => ?_⟩
    refine zq (σ := σ) hV hI rfl 3 ?_
    show zSp _ 126 [.ref 0, .int b] σ (fun r σ' => σ'.2.2.2 = σ.2.2.2 + zAl 126 → V 13 [(0, .ref 0), (1, .int a), (2, .int b), (3, .int c)] (r.toList ++ []) σ')
    refine isGrip_ok (zR_of hI rfl rfl) (by assumption) (by omega) (fun hb2 _ => ?_) (fun hb2 _ => ?_)
    · skip
      refine zq (σ := σ) hV hI rfl 1 ?_
      show ((1 : Int32) = 0 → V 33 [(0, .ref 0), (1, .int a), (2, .int b), (3, .int c)] [] σ) ∧ (¬ (1 : Int32) = 0 → V 16 [(0, .ref 0), (1, .int a), (2, .int b), (3, .int c)] [] σ)
      refine ⟨fun hc => absurd hc (by decide), fun _ => ?_⟩
      refine zq (σ := σ) hV hI rfl 3 ?_
      show (a = b → V 33 [(0, .ref 0), (1, .int a), (2, .int b), (3, .int c)] [] σ) ∧ (¬ a = b → V 21 [(0, .ref 0), (1, .int a), (2, .int b), (3, .int c)] [] σ)
      refine ⟨fun h_18 => ?_, fun h_18 => ?_⟩
      · skip
        refine zq (σ := σ) hV hI rfl 2 ?_
        show K (some (.int (-2))) σ
        exact hBad (fun q => q.2.2.1 h_18)
      · skip
        refine zq (σ := σ) hV hI rfl 3 ?_
        show (c < 1 → V 33 [(0, .ref 0), (1, .int a), (2, .int b), (3, .int c)] [] σ) ∧ (¬ c < 1 → V 26 [(0, .ref 0), (1, .int a), (2, .int b), (3, .int c)] [] σ)
        refine ⟨fun h_23 => ?_, fun h_23 => ?_⟩
        · skip
          refine zq (σ := σ) hV hI rfl 2 ?_
          show K (some (.int (-2))) σ
          refine hBad (fun q => ?_)
          have q4 := q.2.2.2
          unfold zBt at q4
          simp only [zlt, zle] at h_23
          simp at h_23
          omega
        · skip
          refine zq (σ := σ) hV hI rfl 3 ?_
          show (c ≤ 1000 → V 36 [(0, .ref 0), (1, .int a), (2, .int b), (3, .int c)] [] σ) ∧ (¬ c ≤ 1000 → V 33 [(0, .ref 0), (1, .int a), (2, .int b), (3, .int c)] [] σ)
          refine ⟨fun h_30 => ?_, fun h_30 => ?_⟩
          · skip
            refine zq (σ := σ) hV hI rfl 6 ?_
            show zSp _ 13 [.ref 21, .int a, .int b, .int c] σ (fun r σ' => σ'.2.2.2 = σ.2.2.2 + zAl 13 → V 46 [(0, .ref 0), (1, .int a), (2, .int b), (3, .int c)] (r.toList ++ []) σ')
            obtain ⟨i, hi, hi2, _⟩ := zNat (x := a) (by unfold zBt at hb1; omega)
            have him : i < m := by unfold zBt at hb1; omega
            obtain ⟨j, hj, hj2, _⟩ := zNat (x := b) (by unfold zBt at hb2; omega)
            have hjm : j < m := by unfold zBt at hb2; omega
            refine join_ok (zR_of hI rfl rfl) hi (by omega) hj (by omega) (fun _ => ?_)
            refine zq (σ := (zuI (zuI σ 22 (i * 10 + j) c) 22 (j * 10 + i) c)) hV hI rfl 2 ?_
            show K (some (.int 1)) (zuI (zuI σ 22 (i * 10 + j) c) 22 (j * 10 + i) c)
            exact hOk i j hi him hj hjm ⟨hb1, hb2, h_18, by
              unfold zBt
              simp only [zlt, zle] at h_23 h_30
              simp at h_23 h_30 ⊢
              omega⟩
          · skip
            refine zq (σ := σ) hV hI rfl 2 ?_
            show K (some (.int (-2))) σ
            refine hBad (fun q => ?_)
            have q4 := q.2.2.2
            unfold zBt at q4
            simp only [zlt, zle] at h_23 h_30
            simp at h_23 h_30
            omega
    · skip
      refine zq (σ := σ) hV hI rfl 1 ?_
      show ((0 : Int32) = 0 → V 33 [(0, .ref 0), (1, .int a), (2, .int b), (3, .int c)] [] σ) ∧ (¬ (0 : Int32) = 0 → V 16 [(0, .ref 0), (1, .int a), (2, .int b), (3, .int c)] [] σ)
      refine ⟨fun _ => ?_, fun hc => absurd (by decide) hc⟩
      refine zq (σ := σ) hV hI rfl 2 ?_
      show K (some (.int (-2))) σ
      exact hBad (fun q => hb2 q.2.1)
  · skip
    refine zq (σ := σ) hV hI rfl 1 ?_
    show ((0 : Int32) = 0 → V 33 [(0, .ref 0), (1, .int a), (2, .int b), (3, .int c)] [] σ) ∧ (¬ (0 : Int32) = 0 → V 8 [(0, .ref 0), (1, .int a), (2, .int b), (3, .int c)] [] σ)
    refine ⟨fun _ => ?_, fun hc => absurd (by decide) hc⟩
    refine zq (σ := σ) hV hI rfl 2 ?_
    show K (some (.int (-2))) σ
    exact hBad (fun q => hb1 q.1)
set_option maxRecDepth 8000 in
set_option maxHeartbeats 4000000 in
theorem way_C {d : Nat} {σ : zSt} {K : Option Value → zSt → Prop} {a b : Int32} {m : Nat} (hI : zQI (kR 0 30) σ.2.2) (hs : σ.1 21 2 = nI m) (hm : m ≤ 10) (hBad : ¬ (zBt 0 (m - 1) a ∧ zBt 0 (m - 1) b) → K (some (.int (-2))) σ) (hOk : ∀ τ j, zOnly (zfa 23) σ τ → b = nI j → j < m → (zBt 0 (m - 1) a ∧ zBt 0 (m - 1) b) → K (some (.int (zWay (σ.1 22) m a j))) τ) : zSp (d + 4) mX8_way [.ref 0, .int a, .int b] σ K := by
  refine ⟨⟨by decide, Nat.le_of_ble_eq_true rfl⟩, fun V hV => ?_⟩
  refine zq (σ := σ) hV hI rfl 3 ?_
  show zSp _ 126 [.ref 0, .int a] σ (fun r σ' => σ'.2.2.2 = σ.2.2.2 + zAl 126 → V 5 [(0, .ref 0), (1, .int a), (2, .int b)] (r.toList ++ []) σ')
  refine isGrip_ok (zR_of hI rfl rfl) (by assumption) (by omega) (fun hb1 _ => ?_) (fun hb1 _ => ?_)
  · skip
    refine zq (σ := σ) hV hI rfl 1 ?_
    show ((1 : Int32) = 0 → V 16 [(0, .ref 0), (1, .int a), (2, .int b)] [] σ) ∧ (¬ (1 : Int32) = 0 → V 8 [(0, .ref 0), (1, .int a), (2, .int b)] [] σ)
    refine ⟨fun hc => absurd hc (by decide), fun _ => ?_⟩
    refine zq (σ := σ) hV hI rfl 3 ?_
    show zSp _ 126 [.ref 0, .int b] σ (fun r σ' => σ'.2.2.2 = σ.2.2.2 + zAl 126 → V 13 [(0, .ref 0), (1, .int a), (2, .int b)] (r.toList ++ []) σ')
    refine isGrip_ok (zR_of hI rfl rfl) (by assumption) (by omega) (fun hb2 _ => ?_) (fun hb2 _ => ?_)
    · skip
      refine zq (σ := σ) hV hI rfl 1 ?_
      show (¬ (1 : Int32) = 0 → V 19 [(0, .ref 0), (1, .int a), (2, .int b)] [] σ) ∧ (¬ (¬ (1 : Int32) = 0) → V 16 [(0, .ref 0), (1, .int a), (2, .int b)] [] σ)
      refine ⟨fun _ => ?_, fun hc => absurd (by decide) hc⟩
      refine zq (σ := σ) hV hI rfl 5 ?_
      show zSp _ 14 [.ref 21, .int a, .int b] σ (fun r σ' => σ'.2.2.2 = σ.2.2.2 + zAl 14 → V 28 [(0, .ref 0), (1, .int a), (2, .int b)] (r.toList ++ []) σ')
      obtain ⟨j, hj, hj2, _⟩ := zNat (x := b) (by unfold zBt at hb2; omega)
      have hjm : j < m := by unfold zBt at hb2; omega
      refine leastCost_ok (zR_of hI rfl rfl) hs (by omega) hj hjm (fun τ ht _ => ?_)
      have hIτ := zQI_eq hI ht.2.2
      have hnτ : τ.2.2.2 = σ.2.2.2 := congrArg Prod.snd ht.2.2
      refine zq (σ := τ) hV hIτ hnτ 1 ?_
      show K (some (.int (zWay (σ.1 22) m a j))) τ
      exact hOk τ j ht hj hjm ⟨hb1, hb2⟩
    · skip
      refine zq (σ := σ) hV hI rfl 1 ?_
      show (¬ (0 : Int32) = 0 → V 19 [(0, .ref 0), (1, .int a), (2, .int b)] [] σ) ∧ (¬ (¬ (0 : Int32) = 0) → V 16 [(0, .ref 0), (1, .int a), (2, .int b)] [] σ)
      refine ⟨fun hc => absurd hc (by decide), fun _ => ?_⟩
      refine zq (σ := σ) hV hI rfl 2 ?_
      show K (some (.int (-2))) σ
      exact hBad (fun q => hb2 q.2)
  · skip
    refine zq (σ := σ) hV hI rfl 1 ?_
    show ((0 : Int32) = 0 → V 16 [(0, .ref 0), (1, .int a), (2, .int b)] [] σ) ∧ (¬ (0 : Int32) = 0 → V 8 [(0, .ref 0), (1, .int a), (2, .int b)] [] σ)
    refine ⟨fun _ => ?_, fun hc => absurd (by decide) hc⟩
    refine zq (σ := σ) hV hI rfl 2 ?_
    show K (some (.int (-2))) σ
    exact hBad (fun q => hb1 q.1)
