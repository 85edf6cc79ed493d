def zf36 (a j : Nat) : Bool := zfMh a j || Nat.beq a 36
theorem zfMh_36 (a j : Nat) (h : zf36 a j = false) : zfMh a j = false := (Bool.or_eq_false_iff.mp h).1
theorem zor0 (x : Int32) : x ||| 0 = x := Int32.or_zero
set_option maxRecDepth 8000 in
set_option maxHeartbeats 4000000 in
theorem free_M {d : Nat} {σ : zSt} {K : Option Value → zSt → Prop} {v : Int32} {n m : Nat} (hI : zQI (kR 30 52) σ.2.2) (hn : σ.1 30 0 = nI n) (hn10 : n ≤ 10) (hB : zHB n (σ.1 31) (σ.1 32)) (hfb : zBt 0 16 (σ.1 30 8)) (hs : σ.1 30 5 = nI m) (hm : m ≤ 8) (hE : ∀ i, i < m → ∃ e, σ.1 35 i = nI e ∧ e < n) (hS : ∀ i, i < m → zBt 0 8 (σ.1 36 i)) (hBad : ¬ zBt 0 (m - 1) v → K (some (.int (-2))) σ) (hOk : ∀ τ j, zOnly zfMh σ τ → v = nI j → j < m → K (some (.int (zFree n (σ.1 31) (σ.1 32) (σ.1 30 8) (σ.1 35) (σ.1 36) m j))) τ) : zSp (d + 4) mX9_free [.ref 30, .int v] σ K := by
  refine ⟨⟨by decide, Nat.le_of_ble_eq_true rfl⟩, fun V hV => ?_⟩
  refine zq (σ := σ) hV hI rfl 3 ?_
  show zSp _ 145 [.ref 30, .int v] σ (fun r σ' => σ'.2.2.2 = σ.2.2.2 + zAl 145 → V 5 [(0, .ref 30), (1, .int v)] (r.toList ++ []) σ')
  refine isFinger_M hI hs (by omega) (fun hb1 _ => ?_) (fun hb1 _ => ?_)
  · skip
    refine zq (σ := σ) hV hI rfl 1 ?_
    show (¬ (1 : Int32) = 0 → V 11 [(0, .ref 30), (1, .int v)] [] σ) ∧ (¬ (¬ (1 : Int32) = 0) → V 8 [(0, .ref 30), (1, .int v)] [] σ)
    refine ⟨fun _ => ?_, fun hc => absurd (by decide) hc⟩
    obtain ⟨j, hj, hj2, _⟩ := zNat (x := v) (by unfold zBt at hb1; omega)
    have hjm : j < m := by unfold zBt at hb1; omega
    refine zq (σ := σ) hV hI rfl 4 ?_
    show vp_in v 8 ∧ V 17 [(0, .ref 30), (1, .int v)] [.int (σ.1 36 (Int32.toNatClampNeg v))] σ
    refine ⟨zix (k := j) hj (by omega) (by decide), ?_⟩
    rw [zcl_k (i := v) (k := j) hj (by omega)]
    refine zq (σ := σ) hV hI rfl 5 ?_
    show V 23 [(4, .int 0), (3, .int 0), (2, .int (σ.1 36 j)), (0, .ref 30), (1, .int v)] [] σ
    refine zwk hV [3, 4, 2, 1, 0] rfl ?_
    have Hk : ∀ (r : Nat) (k : Nat) (x : Int32) (τ : zSt), k + r = 9 → zOnly zf36 σ τ → (∀ i, ¬ i = j → τ.1 36 i = σ.1 36 i) → (∀ a c, zfMh a c = false → τ.2.1 a c = σ.2.1 a c) → zFr (fun k => zDc (zHo n (σ.1 31) (σ.1 32) (σ.1 30 8) (σ.1 35) (upd (σ.1 36) j (nI k)) m)) r k x = zFree n (σ.1 31) (σ.1 32) (σ.1 30 8) (σ.1 35) (σ.1 36) m j → V 23 [(0, .ref 30), (1, .int v), (2, .int (σ.1 36 j)), (3, .int x), (4, .int (nI k))] [] τ := by
      intro r
      induction r with
      | zero =>
        intro k x τ hkr ht hun hJ hfin
        have hIτ := zQI_eq hI ht.2.2
        have hnτ : τ.2.2.2 = σ.2.2.2 := congrArg Prod.snd ht.2.2
        refine zq (σ := τ) hV hIτ hnτ 3 ?_
        show (9 ≤ (nI k) → V 66 [(0, .ref 30), (1, .int v), (2, .int (σ.1 36 j)), (3, .int x), (4, .int (nI k))] [] τ) ∧ (¬ 9 ≤ (nI k) → V 30 [(0, .ref 30), (1, .int v), (2, .int (σ.1 36 j)), (3, .int x), (4, .int (nI k))] [] τ)
        refine ⟨fun _ => ?_, fun hc => absurd (show (9 : Int32) ≤ nI k by rw [show k = 9 by omega]; decide) hc⟩
        refine zq (σ := τ) hV hIτ hnτ 5 ?_
        show vp_in v 8 ∧ V 73 [(0, .ref 30), (1, .int v), (2, .int (σ.1 36 j)), (3, .int x), (4, .int (nI k))] [] (zuI τ 36 (Int32.toNatClampNeg v) (σ.1 36 j))
        refine ⟨zix (k := j) hj (by omega) (by decide), ?_⟩
        rw [zcl_k (i := v) (k := j) hj (by omega)]
        refine zq (σ := (zuI τ 36 j (σ.1 36 j))) hV hIτ hnτ 2 ?_
        show K (some (.int x)) (zuI τ 36 j (σ.1 36 j))
        replace hfin : x = _ := hfin
        rw [hfin]
        refine hOk _ j ⟨fun a c q => ?_, fun a c q => ?_, ht.2.2⟩ hj hjm
        · rw [zuI_get]
          by_cases e : a = 36 ∧ c = j
          · rw [if_pos e, e.1, e.2]
          · rw [if_neg e]
            by_cases e2 : a = 36
            · rw [e2]; exact hun c (fun y => e ⟨e2, y⟩)
            · refine ht.1 a c ?_
              unfold zf36; rw [q, Bool.false_or, ← Bool.not_eq_true]; exact fun y => e2 (Nat.eq_of_beq_eq_true y)
        · exact hJ a c q
      | succ r ihk =>
        intro k x τ hkr ht hun hJ hfin
        have hIτ := zQI_eq hI ht.2.2
        have hnτ : τ.2.2.2 = σ.2.2.2 := congrArg Prod.snd ht.2.2
        refine zq (σ := τ) hV hIτ hnτ 3 ?_
        show (9 ≤ (nI k) → V 66 [(0, .ref 30), (1, .int v), (2, .int (σ.1 36 j)), (3, .int x), (4, .int (nI k))] [] τ) ∧ (¬ 9 ≤ (nI k) → V 30 [(0, .ref 30), (1, .int v), (2, .int (σ.1 36 j)), (3, .int x), (4, .int (nI k))] [] τ)
        refine ⟨fun hc => absurd hc (show ¬ nI 9 ≤ nI k from nI_ge (by omega) (by decide)), fun _ => ?_⟩
        refine zq (σ := τ) hV hIτ hnτ 5 ?_
        show vp_in v 8 ∧ V 38 [(0, .ref 30), (1, .int v), (2, .int (σ.1 36 j)), (3, .int x), (4, .int (nI k))] [] (zuI τ 36 (Int32.toNatClampNeg v) (nI k))
        refine ⟨zix (k := j) hj (by omega) (by decide), ?_⟩
        rw [zcl_k (i := v) (k := j) hj (by omega)]
        refine zq (σ := (zuI τ 36 j (nI k))) hV hIτ hnτ 2 ?_
        show zSp _ 152 [.ref 30] (zuI τ 36 j (nI k)) (fun r σ' => σ'.2.2.2 = (zuI τ 36 j (nI k)).2.2.2 + zAl 152 → V 42 [(0, .ref 30), (1, .int v), (2, .int (σ.1 36 j)), (3, .int x), (4, .int (nI k))] (r.toList ++ []) σ')
        have hk9 : k < 9 := by omega
        have f36 : (zuI τ 36 j (nI k)).1 36 = upd (σ.1 36) j (nI k) := by
          funext i; rw [zuI_get]; unfold upd
          by_cases e : i = j
          · rw [if_pos ⟨rfl, e⟩, if_pos e]
          · rw [if_neg (fun x => e x.2), if_neg e]; exact hun i e
        have e31 : (zuI τ 36 j (nI k)).1 31 = σ.1 31 := funext fun i => ht.1 31 i rfl
        have e32 : (zuI τ 36 j (nI k)).1 32 = σ.1 32 := funext fun i => ht.1 32 i rfl
        have e35 : (zuI τ 36 j (nI k)).1 35 = σ.1 35 := funext fun i => ht.1 35 i rfl
        have e8 : (zuI τ 36 j (nI k)).1 30 8 = σ.1 30 8 := ht.1 30 8 rfl
        refine layAll_M hIτ ((ht.1 30 0 rfl).trans hn) hn10 (by rw [e31, e32]; exact hB) (by rw [e8]; exact hfb) ((ht.1 30 5 rfl).trans hs) hm (by rw [e35]; exact hE) (fun i hi => ?_) (fun ρ hr h9 hT _ => ?_)
        · rw [f36]; unfold upd
          by_cases e : i = j
          · rw [if_pos e]; unfold zBt; rw [nI_toInt (by omega)]; omega
          · rw [if_neg e]; exact hS i hi
        rw [e31, e32, e8, e35, f36] at hT
        rw [e8] at h9
        have hml := @zMl_le (σ.1 30 8) m hm
        have h36 : zOnly zf36 σ (zuI τ 36 j (nI k)) := ht.uI rfl
        have hr2 : zOnly zf36 σ ρ := h36.tr (hr.wk (fun a c q => zfLy_M a c (zfMh_36 a c q)))
        have hIρ := zQI_eq hI hr2.2.2
        have hnρ : ρ.2.2.2 = σ.2.2.2 := congrArg Prod.snd hr2.2.2
        have r36 : ρ.1 36 = upd (σ.1 36) j (nI k) := (funext fun i => hr.1 36 i rfl).trans f36
        refine zq (σ := ρ) hV hIρ hnρ 3 ?_
        show zSp _ 155 [.ref 30] ρ (fun r σ' => σ'.2.2.2 = ρ.2.2.2 + zAl 155 → V 47 [(0, .ref 30), (1, .int v), (2, .int (σ.1 36 j)), (3, .int x), (4, .int (nI k))] (r.toList ++ [.int x]) σ')
        refine hold_M hIρ h9 hml (fun υ hu0 hq0 _ => ?_) (fun υ hu0 hq0 _ => ?_)
        · skip
          have hq : zHo n (σ.1 31) (σ.1 32) (σ.1 30 8) (σ.1 35) (upd (σ.1 36) j (nI k)) m := (zHold_congr hT).mp hq0
          have hu : zOnly zf36 σ υ := hr2.tr (hu0.wk (fun a c q => zfX_M a c (zfMh_36 a c q)))
          have hIυ := zQI_eq hI hu.2.2
          have hnυ : υ.2.2.2 = σ.2.2.2 := congrArg Prod.snd hu.2.2
          refine zq (σ := υ) hV hIυ hnυ 1 ?_
          show ((1 : Int32) = 0 → V 57 [(0, .ref 30), (1, .int v), (2, .int (σ.1 36 j)), (3, .int x), (4, .int (nI k))] [.int x] υ) ∧ (¬ (1 : Int32) = 0 → V 50 [(0, .ref 30), (1, .int v), (2, .int (σ.1 36 j)), (3, .int x), (4, .int (nI k))] [.int x] υ)
          refine ⟨fun hc => absurd hc (by decide), fun _ => ?_⟩
          refine zq (σ := υ) hV hIυ hnυ 8 ?_
          show V 23 [(4, .int ((nI k) + 1)), (3, .int (x ||| (1 <<< ((nI k) &&& 31)))), (0, .ref 30), (1, .int v), (2, .int (σ.1 36 j))] [] υ
          refine zwk hV [2, 3, 4, 1, 0] rfl ?_
          rw [nI_1]
          refine ihk (k + 1) _ υ (by omega) hu (fun i hi => ?_) (fun a c q => ((hu0.2.1 a c (zfX_M a c q)).trans (hr.2.1 a c (zfLy_M a c q))).trans (hJ a c q)) ?_
          · rw [show υ.1 36 i = ρ.1 36 i from hu0.1 36 i rfl, r36]; unfold upd; rw [if_neg hi]
          · rw [← hfin]
            show _ = zFr (fun k => zDc (zHo n (σ.1 31) (σ.1 32) (σ.1 30 8) (σ.1 35) (upd (σ.1 36) j (nI k)) m)) r (k + 1) (if zDc (zHo n (σ.1 31) (σ.1 32) (σ.1 30 8) (σ.1 35) (upd (σ.1 36) j (nI k)) m) = true then x ||| (1 <<< (nI k &&& 31)) else x)
            rw [zDc_t hq, if_pos rfl]
        · skip
          have hq : ¬ zHo n (σ.1 31) (σ.1 32) (σ.1 30 8) (σ.1 35) (upd (σ.1 36) j (nI k)) m := fun x => hq0 ((zHold_congr hT).mpr x)
          have hu : zOnly zf36 σ υ := hr2.tr (hu0.wk (fun a c q => zfX_M a c (zfMh_36 a c q)))
          have hIυ := zQI_eq hI hu.2.2
          have hnυ : υ.2.2.2 = σ.2.2.2 := congrArg Prod.snd hu.2.2
          refine zq (σ := υ) hV hIυ hnυ 1 ?_
          show ((0 : Int32) = 0 → V 57 [(0, .ref 30), (1, .int v), (2, .int (σ.1 36 j)), (3, .int x), (4, .int (nI k))] [.int x] υ) ∧ (¬ (0 : Int32) = 0 → V 50 [(0, .ref 30), (1, .int v), (2, .int (σ.1 36 j)), (3, .int x), (4, .int (nI k))] [.int x] υ)
          refine ⟨fun _ => ?_, fun hc => absurd (by decide) hc⟩
          refine zq (σ := υ) hV hIυ hnυ 5 ?_
          show V 23 [(4, .int ((nI k) + 1)), (3, .int (x ||| 0)), (0, .ref 30), (1, .int v), (2, .int (σ.1 36 j))] [] υ
          refine zwk hV [2, 3, 4, 1, 0] rfl ?_
          rw [nI_1]
          refine ihk (k + 1) _ υ (by omega) hu (fun i hi => ?_) (fun a c q => ((hu0.2.1 a c (zfX_M a c q)).trans (hr.2.1 a c (zfLy_M a c q))).trans (hJ a c q)) ?_
          · rw [show υ.1 36 i = ρ.1 36 i from hu0.1 36 i rfl, r36]; unfold upd; rw [if_neg hi]
          · rw [← hfin]
            show _ = zFr (fun k => zDc (zHo n (σ.1 31) (σ.1 32) (σ.1 30 8) (σ.1 35) (upd (σ.1 36) j (nI k)) m)) r (k + 1) (if zDc (zHo n (σ.1 31) (σ.1 32) (σ.1 30 8) (σ.1 35) (upd (σ.1 36) j (nI k)) m) = true then x ||| (1 <<< (nI k &&& 31)) else x)
            rw [zDc_f hq, if_neg (by decide), zor0]
    exact Hk 9 0 0 σ rfl zOnly.rf (fun i _ => rfl) (fun _ _ _ => rfl) rfl
  · skip
    refine zq (σ := σ) hV hI rfl 1 ?_
    show (¬ (0 : Int32) = 0 → V 11 [(0, .ref 30), (1, .int v)] [] σ) ∧ (¬ (¬ (0 : Int32) = 0) → V 8 [(0, .ref 30), (1, .int v)] [] σ)
    refine ⟨fun hc => absurd hc (by decide), fun _ => ?_⟩
    refine zq (σ := σ) hV hI rfl 2 ?_
    show K (some (.int (-2))) σ
    exact hBad hb1
theorem zCl_b (x : Int32) : zBt 0 8 (zCl x) := by
  unfold zCl zBt
  have z0 : (0 : Int32).toInt = 0 := rfl
  have z8 : (8 : Int32).toInt = 8 := rfl
  by_cases h1 : x < 0
  · rw [if_pos h1]; decide
  · rw [if_neg h1]
    by_cases h2 : 8 < x
    · rw [if_pos h2]; decide
    · rw [if_neg h2]; rw [zlt, z0] at h1; rw [zlt, z8] at h2; omega
theorem zHw_0 {n : Nat} {X Y : Nat → Int32} {f : Int32} {E S : Nat → Int32} {m : Nat} (hS : ∀ i, i < m → zBt 0 8 (S i)) : zHw n X Y f E S m 0 ↔ zHo n X Y f E S m := by
  have h1 : ∀ w i, i < m → zWy S 0 w i = S i := fun w i hi => by
    have hb := hS i hi
    unfold zBt at hb
    unfold zWy
    rw [Int32.mul_zero, Int32.add_zero]
    unfold zCl
    rw [if_neg (by rw [zlt, show (0 : Int32).toInt = 0 from rfl]; omega), if_neg (by rw [zlt, show (8 : Int32).toInt = 8 from rfl]; omega)]
  have h2 : ∀ w, zHo n X Y f E (zWy S 0 w) m ↔ zHo n X Y f E S m := fun w => zHo_congr (fun i hi => ⟨rfl, h1 w i hi⟩)
  unfold zHw
  exact ⟨fun h => (h2 0).mp (h 0 (Nat.pow_pos (by decide))), fun h w _ => (h2 w).mpr h⟩
set_option maxRecDepth 8000 in
set_option maxHeartbeats 4000000 in
theorem holdBy_M {d : Nat} {σ : zSt} {K : Option Value → zSt → Prop} {d0 : Int32} {n m : Nat} (hI : zQI (kR 30 52) σ.2.2) (hn : σ.1 30 0 = nI n) (hn10 : n ≤ 10) (hB : zHB n (σ.1 31) (σ.1 32)) (hfb : zBt 0 16 (σ.1 30 8)) (hs : σ.1 30 5 = nI m) (hm : m ≤ 8) (hE : ∀ i, i < m → ∃ e, σ.1 35 i = nI e ∧ e < n) (hS : ∀ i, i < m → zBt 0 8 (σ.1 36 i)) (hm4 : m ≤ 4) (h1 : ∀ τ, zOnly zfMh σ τ → zHw n (σ.1 31) (σ.1 32) (σ.1 30 8) (σ.1 35) (σ.1 36) m d0 → K (some (.int 1)) τ) (h0 : ∀ τ, zOnly zfMh σ τ → ¬ zHw n (σ.1 31) (σ.1 32) (σ.1 30 8) (σ.1 35) (σ.1 36) m d0 → K (some (.int 0)) τ) : zSp (d + 4) mX9_holdBy [.ref 30, .int d0] σ K := by
  refine ⟨⟨by decide, Nat.le_of_ble_eq_true rfl⟩, fun V hV => ?_⟩
  refine zq (σ := σ) hV hI rfl 4 ?_
  show V 4 [(3, .int 0), (2, .int 1), (0, .ref 30), (1, .int d0)] [] σ
  refine zwk hV [2, 3, 1, 0] rfl ?_
  have Ha : ∀ (r : Nat) (i : Nat), i + r = m → V 4 [(0, .ref 30), (1, .int d0), (2, .int (nI (3 ^ i))), (3, .int (nI i))] [] σ := by
    intro r
    induction r with
    | zero =>
      intro i hia
      refine zq (σ := σ) hV hI rfl 4 ?_
      show ((σ.1 30 5) ≤ (nI i) → V 22 [(0, .ref 30), (1, .int d0), (2, .int (nI (3 ^ i))), (3, .int (nI i))] [] σ) ∧ (¬ (σ.1 30 5) ≤ (nI i) → V 12 [(0, .ref 30), (1, .int d0), (2, .int (nI (3 ^ i))), (3, .int (nI i))] [] σ)
      refine ⟨fun _ => ?_, fun hc => absurd (show (σ.1 30 5) ≤ nI i by rw [hs]; exact zge_self (by omega)) hc⟩
      refine zq (σ := σ) hV hI rfl 2 ?_
      show V 24 [(3, .int 0), (0, .ref 30), (1, .int d0), (2, .int (nI (3 ^ i)))] [] σ
      refine zwk hV [1, 2, 3, 0] rfl ?_
      obtain rfl : m = i := by omega
      have h39 := z3k hm4
      have Hw : ∀ (r : Nat) (w : Nat) (ρ : zSt), w + r = 3 ^ m → zOnly zfMh σ ρ → (∀ j, j < w → zHo n (σ.1 31) (σ.1 32) (σ.1 30 8) (σ.1 35) (zWy (σ.1 36) d0 j) m) → V 24 [(0, .ref 30), (1, .int d0), (2, .int (nI (3 ^ m))), (3, .int (nI w))] [] ρ := by
        intro r
        induction r with
        | zero =>
          intro w ρ hwr hr hws
          have hIρ := zQI_eq hI hr.2.2
          have hnρ : ρ.2.2.2 = σ.2.2.2 := congrArg Prod.snd hr.2.2
          refine zq (σ := ρ) hV hIρ hnρ 3 ?_
          show ((nI (3 ^ m)) ≤ (nI w) → V 128 [(0, .ref 30), (1, .int d0), (2, .int (nI (3 ^ m))), (3, .int (nI w))] [] ρ) ∧ (¬ (nI (3 ^ m)) ≤ (nI w) → V 29 [(0, .ref 30), (1, .int d0), (2, .int (nI (3 ^ m))), (3, .int (nI w))] [] ρ)
          refine ⟨fun _ => ?_, fun hc => absurd (show nI (3 ^ m) ≤ nI w from zge_self (by omega)) hc⟩
          refine zq (σ := ρ) hV hIρ hnρ 2 ?_
          show ((1 : Int32) = 0 ∨ (1 : Int32) = 1) ∧ K (some (.int 1)) ρ
          refine ⟨by decide, ?_⟩
          exact h1 ρ hr (fun j hj => hws j (by omega))
        | succ r ihw =>
          intro w ρ hwr hr hws
          have hIρ := zQI_eq hI hr.2.2
          have hnρ : ρ.2.2.2 = σ.2.2.2 := congrArg Prod.snd hr.2.2
          refine zq (σ := ρ) hV hIρ hnρ 3 ?_
          show ((nI (3 ^ m)) ≤ (nI w) → V 128 [(0, .ref 30), (1, .int d0), (2, .int (nI (3 ^ m))), (3, .int (nI w))] [] ρ) ∧ (¬ (nI (3 ^ m)) ≤ (nI w) → V 29 [(0, .ref 30), (1, .int d0), (2, .int (nI (3 ^ m))), (3, .int (nI w))] [] ρ)
          refine ⟨fun hc => absurd hc (show ¬ nI (3 ^ m) ≤ nI w from nI_ge (by omega) (by omega)), fun _ => ?_⟩
          refine zq (σ := ρ) hV hIρ hnρ 7 ?_
          show V 40 [(5, .int 0), (4, .int (nI w)), (0, .ref 30), (1, .int d0), (2, .int (nI (3 ^ m))), (3, .int (nI w))] [] (zuI ρ 30 9 0)
          refine zwk hV [2, 3, 4, 5, 1, 0] rfl ?_
          have Hi : ∀ (r : Nat) (i q : Nat) (τ : zSt), i + r = m → q = w / 3 ^ i → zOnly zfMh σ τ → τ.1 30 9 = nI (zMl (σ.1 30 8) i) → zTkM n (σ.1 31) (σ.1 32) (σ.1 30 8) (σ.1 35) (zWy (σ.1 36) d0 w) (zMl (σ.1 30 8) i) τ → V 40 [(0, .ref 30), (1, .int d0), (2, .int (nI (3 ^ m))), (3, .int (nI w)), (4, .int (nI q)), (5, .int (nI i))] [] τ := by
            intro r
            induction r with
            | zero =>
              intro i q τ hir hq ht h9 hT
              have hIτ := zQI_eq hI ht.2.2
              have hnτ : τ.2.2.2 = σ.2.2.2 := congrArg Prod.snd ht.2.2
              have hst : τ.1 30 5 = nI m := (ht.1 30 5 rfl).trans hs
              refine zq (σ := τ) hV hIτ hnτ 4 ?_
              show ((τ.1 30 5) ≤ (nI i) → V 113 [(0, .ref 30), (1, .int d0), (2, .int (nI (3 ^ m))), (3, .int (nI w)), (4, .int (nI q)), (5, .int (nI i))] [] τ) ∧ (¬ (τ.1 30 5) ≤ (nI i) → V 49 [(0, .ref 30), (1, .int d0), (2, .int (nI (3 ^ m))), (3, .int (nI w)), (4, .int (nI q)), (5, .int (nI i))] [] τ)
              refine ⟨fun _ => ?_, fun hc => absurd (show (τ.1 30 5) ≤ nI i by rw [hst]; exact zge_self (by omega)) hc⟩
              refine zq (σ := τ) hV hIτ hnτ 2 ?_
              show zSp _ 155 [.ref 30] τ (fun r σ' => σ'.2.2.2 = τ.2.2.2 + zAl 155 → V 117 [(0, .ref 30), (1, .int d0), (2, .int (nI (3 ^ m))), (3, .int (nI w)), (4, .int (nI q)), (5, .int (nI i))] (r.toList ++ []) σ')
              obtain rfl : m = i := by omega
              have hml := @zMl_le (σ.1 30 8) m (by omega)
              refine hold_M hIτ h9 hml (fun φ hf0 hq0 _ => ?_) (fun φ hf0 hq0 _ => ?_)
              · skip
                have hq1 : zHo n (σ.1 31) (σ.1 32) (σ.1 30 8) (σ.1 35) (zWy (σ.1 36) d0 w) m := (zHold_congr hT).mp hq0
                have hf := ht.tr (hf0.wk zfX_M)
                have hIφ := zQI_eq hI hf.2.2
                have hnφ : φ.2.2.2 = σ.2.2.2 := congrArg Prod.snd hf.2.2
                refine zq (σ := φ) hV hIφ hnφ 1 ?_
                show (¬ (1 : Int32) = 0 → V 122 [(0, .ref 30), (1, .int d0), (2, .int (nI (3 ^ m))), (3, .int (nI w)), (4, .int (nI q)), (5, .int (nI i))] [] φ) ∧ (¬ (¬ (1 : Int32) = 0) → V 120 [(0, .ref 30), (1, .int d0), (2, .int (nI (3 ^ m))), (3, .int (nI w)), (4, .int (nI q)), (5, .int (nI i))] [] φ)
                refine ⟨fun _ => ?_, fun hc => absurd (by decide) hc⟩
                refine zq (σ := φ) hV hIφ hnφ 2 ?_
                show V 24 [(3, .int ((nI w) + 1)), (0, .ref 30), (1, .int d0), (2, .int (nI (3 ^ m))), (4, .int (nI q)), (5, .int (nI i))] [] φ
                refine zwk hV [1, 2, 3, 0] rfl ?_
                rw [nI_1]
                refine ihw (w + 1) φ (by omega) hf (fun j hj => ?_)
                by_cases e : j = w
                · rw [e]; exact hq1
                · exact hws j (by omega)
              · skip
                have hq1 : ¬ zHo n (σ.1 31) (σ.1 32) (σ.1 30 8) (σ.1 35) (zWy (σ.1 36) d0 w) m := fun x => hq0 ((zHold_congr hT).mpr x)
                have hf := ht.tr (hf0.wk zfX_M)
                have hIφ := zQI_eq hI hf.2.2
                have hnφ : φ.2.2.2 = σ.2.2.2 := congrArg Prod.snd hf.2.2
                refine zq (σ := φ) hV hIφ hnφ 1 ?_
                show (¬ (0 : Int32) = 0 → V 122 [(0, .ref 30), (1, .int d0), (2, .int (nI (3 ^ m))), (3, .int (nI w)), (4, .int (nI q)), (5, .int (nI i))] [] φ) ∧ (¬ (¬ (0 : Int32) = 0) → V 120 [(0, .ref 30), (1, .int d0), (2, .int (nI (3 ^ m))), (3, .int (nI w)), (4, .int (nI q)), (5, .int (nI i))] [] φ)
                refine ⟨fun hc => absurd hc (by decide), fun _ => ?_⟩
                refine zq (σ := φ) hV hIφ hnφ 2 ?_
                show ((0 : Int32) = 0 ∨ (0 : Int32) = 1) ∧ K (some (.int 0)) φ
                refine ⟨by decide, ?_⟩
                exact h0 φ hf (fun x => hq1 (x w (by omega)))
            | succ r ihi =>
              intro i q τ hir hq ht h9 hT
              have hIτ := zQI_eq hI ht.2.2
              have hnτ : τ.2.2.2 = σ.2.2.2 := congrArg Prod.snd ht.2.2
              have hst : τ.1 30 5 = nI m := (ht.1 30 5 rfl).trans hs
              have him : i < m := by omega
              have e31 : τ.1 31 = σ.1 31 := funext fun j => ht.1 31 j rfl
              have e32 : τ.1 32 = σ.1 32 := funext fun j => ht.1 32 j rfl
              have e8 : τ.1 30 8 = σ.1 30 8 := ht.1 30 8 rfl
              obtain ⟨e, he0, hen⟩ := hE i him
              have he : τ.1 35 i = nI e := (ht.1 35 i rfl).trans he0
              have he6 : τ.1 36 i = σ.1 36 i := ht.1 36 i rfl
              have hq3 : q ≤ w := by rw [hq]; exact Nat.div_le_self _ _
              refine zq (σ := τ) hV hIτ hnτ 4 ?_
              show ((τ.1 30 5) ≤ (nI i) → V 113 [(0, .ref 30), (1, .int d0), (2, .int (nI (3 ^ m))), (3, .int (nI w)), (4, .int (nI q)), (5, .int (nI i))] [] τ) ∧ (¬ (τ.1 30 5) ≤ (nI i) → V 49 [(0, .ref 30), (1, .int d0), (2, .int (nI (3 ^ m))), (3, .int (nI w)), (4, .int (nI q)), (5, .int (nI i))] [] τ)
              refine ⟨fun hc => absurd hc (show ¬ (τ.1 30 5) ≤ nI i by rw [hst]; exact nI_ge (by omega) (by omega)), fun _ => ?_⟩
              refine zq (σ := τ) hV hIτ hnτ 4 ?_
              show vp_in (nI i) 8 ∧ V 56 [(0, .ref 30), (1, .int d0), (2, .int (nI (3 ^ m))), (3, .int (nI w)), (4, .int (nI q)), (5, .int (nI i))] [.int (τ.1 36 (Int32.toNatClampNeg (nI i)))] τ
              refine ⟨zix (k := i) rfl (by omega) (by decide), ?_⟩
              rw [zcl_k (i := (nI i)) (k := i) rfl (by omega)]
              refine zq (σ := τ) hV hIτ hnτ 4 ?_
              show (¬ (3 : Int32) = 0) ∧ V 61 [(0, .ref 30), (1, .int d0), (2, .int (nI (3 ^ m))), (3, .int (nI w)), (4, .int (nI q)), (5, .int (nI i))] [.int ((nI q) - (nI q) / 3 * 3), .int d0, .int (τ.1 36 i)] τ
              refine ⟨by decide, ?_⟩
              refine zq (σ := τ) hV hIτ hnτ 10 ?_
              show vp_in (nI i) 8 ∧ V 75 [(6, .int ((τ.1 36 i) + (d0 * (((nI q) - (nI q) / 3 * 3) - 1)))), (0, .ref 30), (1, .int d0), (2, .int (nI (3 ^ m))), (3, .int (nI w)), (4, .int (nI q)), (5, .int (nI i))] [.int (τ.1 35 (Int32.toNatClampNeg (nI i))), .ref 30] τ
              refine ⟨zix (k := i) rfl (by omega) (by decide), ?_⟩
              rw [zcl_k (i := (nI i)) (k := i) rfl (by omega)]
              refine zq (σ := τ) hV hIτ hnτ 2 ?_
              show (0 ≤ ((τ.1 36 i) + (d0 * (((nI q) - (nI q) / 3 * 3) - 1))) → V 84 [(6, .int ((τ.1 36 i) + (d0 * (((nI q) - (nI q) / 3 * 3) - 1)))), (0, .ref 30), (1, .int d0), (2, .int (nI (3 ^ m))), (3, .int (nI w)), (4, .int (nI q)), (5, .int (nI i))] [.int (τ.1 35 i), .ref 30] τ) ∧ (¬ 0 ≤ ((τ.1 36 i) + (d0 * (((nI q) - (nI q) / 3 * 3) - 1))) → V 80 [(6, .int ((τ.1 36 i) + (d0 * (((nI q) - (nI q) / 3 * 3) - 1)))), (0, .ref 30), (1, .int d0), (2, .int (nI (3 ^ m))), (3, .int (nI w)), (4, .int (nI q)), (5, .int (nI i))] [.int (τ.1 35 i), .ref 30] τ)
              refine ⟨fun h_77 => ?_, fun h_77 => ?_⟩
              · skip
                refine zq (σ := τ) hV hIτ hnτ 3 ?_
                show (((τ.1 36 i) + (d0 * (((nI q) - (nI q) / 3 * 3) - 1))) ≤ 8 → V 96 [(6, .int ((τ.1 36 i) + (d0 * (((nI q) - (nI q) / 3 * 3) - 1)))), (0, .ref 30), (1, .int d0), (2, .int (nI (3 ^ m))), (3, .int (nI w)), (4, .int (nI q)), (5, .int (nI i))] [.int (τ.1 35 i), .ref 30] τ) ∧ (¬ ((τ.1 36 i) + (d0 * (((nI q) - (nI q) / 3 * 3) - 1))) ≤ 8 → V 91 [(6, .int ((τ.1 36 i) + (d0 * (((nI q) - (nI q) / 3 * 3) - 1)))), (0, .ref 30), (1, .int d0), (2, .int (nI (3 ^ m))), (3, .int (nI w)), (4, .int (nI q)), (5, .int (nI i))] [.int (τ.1 35 i), .ref 30] τ)
                refine ⟨fun h_88 => ?_, fun h_88 => ?_⟩
                · skip
                  refine zq (σ := τ) hV hIτ hnτ 2 ?_
                  show zSp _ 151 [.ref 30, .int (τ.1 35 i), .int ((τ.1 36 i) + (d0 * (((nI q) - (nI q) / 3 * 3) - 1)))] τ (fun r σ' => σ'.2.2.2 = τ.2.2.2 + zAl 151 → V 101 [(6, .int ((τ.1 36 i) + (d0 * (((nI q) - (nI q) / 3 * 3) - 1)))), (0, .ref 30), (1, .int d0), (2, .int (nI (3 ^ m))), (3, .int (nI w)), (4, .int (nI q)), (5, .int (nI i))] (r.toList ++ []) σ')
                  have hwy : zWy (σ.1 36) d0 w i = zCl ((τ.1 36 i) + (d0 * (((nI q) - (nI q) / 3 * 3) - 1))) := by unfold zWy; rw [show zdg w i = q % 3 by rw [hq]; rfl, ← zrem3 (by omega), Int32.mul_comm, ← he6]
                  have hcl : zWy (σ.1 36) d0 w i = ((τ.1 36 i) + (d0 * (((nI q) - (nI q) / 3 * 3) - 1))) := by rw [hwy]; unfold zCl; rw [if_neg (Int32.not_lt.mpr h_77), if_neg (Int32.not_lt.mpr h_88)]
                  rw [he, ← hcl]
                  refine lays_M (n := n) (i := i) (E := σ.1 35) (S := zWy (σ.1 36) d0 w) (X := σ.1 31) (Y := σ.1 32) (f := σ.1 30 8) hIτ ((ht.1 30 0 rfl).trans hn) hn10 e31 e32 e8 hB hfb he0 hen (zCl_b _) (by omega) h9 hT (fun υ hu h9u hTu _ => ?_)
                  have hu2 := ht.tr (hu.wk zfLy_M)
                  have hIυ := zQI_eq hI hu2.2.2
                  have hnυ : υ.2.2.2 = σ.2.2.2 := congrArg Prod.snd hu2.2.2
                  refine zq (σ := υ) hV hIυ hnυ 3 ?_
                  show (¬ (3 : Int32) = 0) ∧ V 105 [(6, .int ((τ.1 36 i) + (d0 * (((nI q) - (nI q) / 3 * 3) - 1)))), (0, .ref 30), (1, .int d0), (2, .int (nI (3 ^ m))), (3, .int (nI w)), (4, .int (nI q)), (5, .int (nI i))] [.int ((nI q) / 3)] υ
                  refine ⟨by decide, ?_⟩
                  refine zq (σ := υ) hV hIυ hnυ 3 ?_
                  show V 40 [(5, .int ((nI i) + 1)), (4, .int ((nI q) / 3)), (6, .int ((τ.1 36 i) + (d0 * (((nI q) - (nI q) / 3 * 3) - 1)))), (0, .ref 30), (1, .int d0), (2, .int (nI (3 ^ m))), (3, .int (nI w))] [] υ
                  refine zwk hV [3, 4, 5, 6, 1, 0] rfl ?_
                  rw [nI_1, zdiv3 (by omega)]
                  exact ihi (i + 1) (q / 3) υ (by omega) (by rw [hq, Nat.div_div_eq_div_mul, Nat.pow_succ]) hu2 h9u hTu
                · skip
                  refine zq (σ := τ) hV hIτ hnτ 3 ?_
                  show zSp _ 151 [.ref 30, .int (τ.1 35 i), .int 8] τ (fun r σ' => σ'.2.2.2 = τ.2.2.2 + zAl 151 → V 101 [(6, .int ((τ.1 36 i) + (d0 * (((nI q) - (nI q) / 3 * 3) - 1)))), (0, .ref 30), (1, .int d0), (2, .int (nI (3 ^ m))), (3, .int (nI w)), (4, .int (nI q)), (5, .int (nI i))] (r.toList ++ []) σ')
                  have hwy : zWy (σ.1 36) d0 w i = zCl ((τ.1 36 i) + (d0 * (((nI q) - (nI q) / 3 * 3) - 1))) := by unfold zWy; rw [show zdg w i = q % 3 by rw [hq]; rfl, ← zrem3 (by omega), Int32.mul_comm, ← he6]
                  have hcl : zWy (σ.1 36) d0 w i = 8 := by rw [hwy]; unfold zCl; rw [if_neg (Int32.not_lt.mpr h_77), if_pos (Int32.not_le.mp h_88)]
                  rw [he, ← hcl]
                  refine lays_M (n := n) (i := i) (E := σ.1 35) (S := zWy (σ.1 36) d0 w) (X := σ.1 31) (Y := σ.1 32) (f := σ.1 30 8) hIτ ((ht.1 30 0 rfl).trans hn) hn10 e31 e32 e8 hB hfb he0 hen (zCl_b _) (by omega) h9 hT (fun υ hu h9u hTu _ => ?_)
                  have hu2 := ht.tr (hu.wk zfLy_M)
                  have hIυ := zQI_eq hI hu2.2.2
                  have hnυ : υ.2.2.2 = σ.2.2.2 := congrArg Prod.snd hu2.2.2
                  refine zq (σ := υ) hV hIυ hnυ 3 ?_
                  show (¬ (3 : Int32) = 0) ∧ V 105 [(6, .int ((τ.1 36 i) + (d0 * (((nI q) - (nI q) / 3 * 3) - 1)))), (0, .ref 30), (1, .int d0), (2, .int (nI (3 ^ m))), (3, .int (nI w)), (4, .int (nI q)), (5, .int (nI i))] [.int ((nI q) / 3)] υ
                  refine ⟨by decide, ?_⟩
                  refine zq (σ := υ) hV hIυ hnυ 3 ?_
                  show V 40 [(5, .int ((nI i) + 1)), (4, .int ((nI q) / 3)), (6, .int ((τ.1 36 i) + (d0 * (((nI q) - (nI q) / 3 * 3) - 1)))), (0, .ref 30), (1, .int d0), (2, .int (nI (3 ^ m))), (3, .int (nI w))] [] υ
                  refine zwk hV [3, 4, 5, 6, 1, 0] rfl ?_
                  rw [nI_1, zdiv3 (by omega)]
                  exact ihi (i + 1) (q / 3) υ (by omega) (by rw [hq, Nat.div_div_eq_div_mul, Nat.pow_succ]) hu2 h9u hTu
              · skip
                refine zq (σ := τ) hV hIτ hnτ 3 ?_
                show zSp _ 151 [.ref 30, .int (τ.1 35 i), .int 0] τ (fun r σ' => σ'.2.2.2 = τ.2.2.2 + zAl 151 → V 101 [(6, .int ((τ.1 36 i) + (d0 * (((nI q) - (nI q) / 3 * 3) - 1)))), (0, .ref 30), (1, .int d0), (2, .int (nI (3 ^ m))), (3, .int (nI w)), (4, .int (nI q)), (5, .int (nI i))] (r.toList ++ []) σ')
                have hwy : zWy (σ.1 36) d0 w i = zCl ((τ.1 36 i) + (d0 * (((nI q) - (nI q) / 3 * 3) - 1))) := by unfold zWy; rw [show zdg w i = q % 3 by rw [hq]; rfl, ← zrem3 (by omega), Int32.mul_comm, ← he6]
                have hcl : zWy (σ.1 36) d0 w i = 0 := by rw [hwy]; unfold zCl; rw [if_pos (Int32.not_le.mp h_77)]
                rw [he, ← hcl]
                refine lays_M (n := n) (i := i) (E := σ.1 35) (S := zWy (σ.1 36) d0 w) (X := σ.1 31) (Y := σ.1 32) (f := σ.1 30 8) hIτ ((ht.1 30 0 rfl).trans hn) hn10 e31 e32 e8 hB hfb he0 hen (zCl_b _) (by omega) h9 hT (fun υ hu h9u hTu _ => ?_)
                have hu2 := ht.tr (hu.wk zfLy_M)
                have hIυ := zQI_eq hI hu2.2.2
                have hnυ : υ.2.2.2 = σ.2.2.2 := congrArg Prod.snd hu2.2.2
                refine zq (σ := υ) hV hIυ hnυ 3 ?_
                show (¬ (3 : Int32) = 0) ∧ V 105 [(6, .int ((τ.1 36 i) + (d0 * (((nI q) - (nI q) / 3 * 3) - 1)))), (0, .ref 30), (1, .int d0), (2, .int (nI (3 ^ m))), (3, .int (nI w)), (4, .int (nI q)), (5, .int (nI i))] [.int ((nI q) / 3)] υ
                refine ⟨by decide, ?_⟩
                refine zq (σ := υ) hV hIυ hnυ 3 ?_
                show V 40 [(5, .int ((nI i) + 1)), (4, .int ((nI q) / 3)), (6, .int ((τ.1 36 i) + (d0 * (((nI q) - (nI q) / 3 * 3) - 1)))), (0, .ref 30), (1, .int d0), (2, .int (nI (3 ^ m))), (3, .int (nI w))] [] υ
                refine zwk hV [3, 4, 5, 6, 1, 0] rfl ?_
                rw [nI_1, zdiv3 (by omega)]
                exact ihi (i + 1) (q / 3) υ (by omega) (by rw [hq, Nat.div_div_eq_div_mul, Nat.pow_succ]) hu2 h9u hTu
          refine Hi m 0 w _ (by omega) (by rw [Nat.pow_zero, Nat.div_one]) (hr.uI rfl) ?_ (fun t q => absurd q (by unfold zMl; split <;> omega))
          show nI 0 = _
          unfold zMl; split <;> rfl
      exact Hw (3 ^ m) 0 σ (by omega) zOnly.rf (fun j c => absurd c (Nat.not_lt_zero j))
    | succ r iha =>
      intro i hia
      refine zq (σ := σ) hV hI rfl 4 ?_
      show ((σ.1 30 5) ≤ (nI i) → V 22 [(0, .ref 30), (1, .int d0), (2, .int (nI (3 ^ i))), (3, .int (nI i))] [] σ) ∧ (¬ (σ.1 30 5) ≤ (nI i) → V 12 [(0, .ref 30), (1, .int d0), (2, .int (nI (3 ^ i))), (3, .int (nI i))] [] σ)
      refine ⟨fun hc => absurd hc (show ¬ (σ.1 30 5) ≤ nI i by rw [hs]; exact nI_ge (by omega) (by omega)), fun _ => ?_⟩
      refine zq (σ := σ) hV hI rfl 6 ?_
      show V 4 [(3, .int ((nI i) + 1)), (2, .int ((nI (3 ^ i)) * 3)), (0, .ref 30), (1, .int d0)] [] σ
      refine zwk hV [2, 3, 1, 0] rfl ?_
      rw [nI_1, show nI (3 ^ i) * 3 = nI (3 ^ (i + 1)) by rw [show (3 : Int32) = nI 3 from rfl, pk_mul, Nat.pow_succ]]
      exact iha (i + 1) (by omega)
  exact Ha m 0 (by omega)
set_option maxRecDepth 8000 in
set_option maxHeartbeats 4000000 in
theorem slip_M {d : Nat} {σ : zSt} {K : Option Value → zSt → Prop} {n m : Nat} (hI : zQI (kR 30 52) σ.2.2) (hn : σ.1 30 0 = nI n) (hn10 : n ≤ 10) (hB : zHB n (σ.1 31) (σ.1 32)) (hfb : zBt 0 16 (σ.1 30 8)) (hs : σ.1 30 5 = nI m) (hm : m ≤ 8) (hE : ∀ i, i < m → ∃ e, σ.1 35 i = nI e ∧ e < n) (hS : ∀ i, i < m → zBt 0 8 (σ.1 36 i)) (hNot : ¬ m ≤ 4 → K (some (.int (-3))) σ) (hNone : m ≤ 4 → ∀ τ, zOnly zfMh σ τ → ¬ zHo n (σ.1 31) (σ.1 32) (σ.1 30 8) (σ.1 35) (σ.1 36) m → K (some (.int (-1))) τ) (hOk : m ≤ 4 → zHo n (σ.1 31) (σ.1 32) (σ.1 30 8) (σ.1 35) (σ.1 36) m → ∀ τ r, zOnly zfMh σ τ → r ≤ 8 → (r = 0 ∨ zHw n (σ.1 31) (σ.1 32) (σ.1 30 8) (σ.1 35) (σ.1 36) m (nI r)) → (∀ j, r < j → j ≤ 8 → ¬ zHw n (σ.1 31) (σ.1 32) (σ.1 30 8) (σ.1 35) (σ.1 36) m (nI j)) → K (some (.int (nI r))) τ) : zSp (d + 5) mX9_slip [.ref 30] σ K := by
  refine ⟨⟨by decide, Nat.le_of_ble_eq_true rfl⟩, fun V hV => ?_⟩
  have hmi := nI_toInt (show m < 2 ^ 31 by omega)
  refine zq (σ := σ) hV hI rfl 4 ?_
  show ((σ.1 30 5) ≤ 4 → V 11 [(0, .ref 30)] [] σ) ∧ (¬ (σ.1 30 5) ≤ 4 → V 8 [(0, .ref 30)] [] σ)
  refine ⟨fun h_5 => ?_, fun h_5 => ?_⟩
  · skip
    have h4 : m ≤ 4 := by
      have e4 : (4 : Int32).toInt = 4 := rfl
      rw [zle, hs, hmi] at h_5
      omega
    refine zq (σ := σ) hV hI rfl 3 ?_
    show zSp _ 160 [.ref 30, .int 0] σ (fun r σ' => σ'.2.2.2 = σ.2.2.2 + zAl 160 → V 16 [(0, .ref 30)] (r.toList ++ []) σ')
    refine holdBy_M hI hn hn10 hB hfb hs hm hE hS h4 (fun φ hf hq _ => ?_) (fun φ hf hq _ => ?_)
    · skip
      rw [zHw_0 hS] at hq
      have hIφ := zQI_eq hI hf.2.2
      have hnφ : φ.2.2.2 = σ.2.2.2 := congrArg Prod.snd hf.2.2
      refine zq (σ := φ) hV hIφ hnφ 1 ?_
      show (¬ (1 : Int32) = 0 → V 21 [(0, .ref 30)] [] φ) ∧ (¬ (¬ (1 : Int32) = 0) → V 19 [(0, .ref 30)] [] φ)
      refine ⟨fun _ => ?_, fun hc => absurd (by decide) hc⟩
      refine zq (σ := φ) hV hIφ hnφ 4 ?_
      show V 25 [(2, .int 1), (1, .int 0), (0, .ref 30)] [] φ
      have hq0 := hq
      have hf1 := hf
      refine zwk hV [2, 1, 0] rfl ?_
      have Hk : ∀ (r : Nat) (k b : Nat) (τ : zSt), k + r = 9 → b < k → 1 ≤ k → zOnly zfMh σ τ → (b = 0 ∨ zHw n (σ.1 31) (σ.1 32) (σ.1 30 8) (σ.1 35) (σ.1 36) m (nI b)) → (∀ j, b < j → j < k → ¬ zHw n (σ.1 31) (σ.1 32) (σ.1 30 8) (σ.1 35) (σ.1 36) m (nI j)) → V 25 [(0, .ref 30), (1, .int (nI b)), (2, .int (nI k))] [] τ := by
        intro r
        induction r with
        | zero =>
          intro k b τ hkr hbk hk1 ht hbe hno
          have hIτ := zQI_eq hI ht.2.2
          have hnτ : τ.2.2.2 = σ.2.2.2 := congrArg Prod.snd ht.2.2
          have e31 : τ.1 31 = σ.1 31 := funext fun j => ht.1 31 j rfl
          have e32 : τ.1 32 = σ.1 32 := funext fun j => ht.1 32 j rfl
          have e35 : τ.1 35 = σ.1 35 := funext fun j => ht.1 35 j rfl
          have e36 : τ.1 36 = σ.1 36 := funext fun j => ht.1 36 j rfl
          have e8 : τ.1 30 8 = σ.1 30 8 := ht.1 30 8 rfl
          refine zq (σ := τ) hV hIτ hnτ 3 ?_
          show (9 ≤ (nI k) → V 51 [(0, .ref 30), (1, .int (nI b)), (2, .int (nI k))] [] τ) ∧ (¬ 9 ≤ (nI k) → V 31 [(0, .ref 30), (1, .int (nI b)), (2, .int (nI k))] [] τ)
          refine ⟨fun _ => ?_, fun hc => absurd (show (9 : Int32) ≤ nI k by rw [show k = 9 by omega]; decide) hc⟩
          refine zq (σ := τ) hV hIτ hnτ 2 ?_
          show K (some (.int (nI b))) τ
          exact hOk h4 hq0 τ b ht (by omega) hbe (fun j h1 h2 => hno j h1 (by omega))
        | succ r ihk =>
          intro k b τ hkr hbk hk1 ht hbe hno
          have hIτ := zQI_eq hI ht.2.2
          have hnτ : τ.2.2.2 = σ.2.2.2 := congrArg Prod.snd ht.2.2
          have e31 : τ.1 31 = σ.1 31 := funext fun j => ht.1 31 j rfl
          have e32 : τ.1 32 = σ.1 32 := funext fun j => ht.1 32 j rfl
          have e35 : τ.1 35 = σ.1 35 := funext fun j => ht.1 35 j rfl
          have e36 : τ.1 36 = σ.1 36 := funext fun j => ht.1 36 j rfl
          have e8 : τ.1 30 8 = σ.1 30 8 := ht.1 30 8 rfl
          refine zq (σ := τ) hV hIτ hnτ 3 ?_
          show (9 ≤ (nI k) → V 51 [(0, .ref 30), (1, .int (nI b)), (2, .int (nI k))] [] τ) ∧ (¬ 9 ≤ (nI k) → V 31 [(0, .ref 30), (1, .int (nI b)), (2, .int (nI k))] [] τ)
          refine ⟨fun hc => absurd hc (show ¬ nI 9 ≤ nI k from nI_ge (by omega) (by decide)), fun _ => ?_⟩
          refine zq (σ := τ) hV hIτ hnτ 3 ?_
          show zSp _ 160 [.ref 30, .int (nI k)] τ (fun r σ' => σ'.2.2.2 = τ.2.2.2 + zAl 160 → V 36 [(0, .ref 30), (1, .int (nI b)), (2, .int (nI k))] (r.toList ++ []) σ')
          refine holdBy_M hIτ ((ht.1 30 0 rfl).trans hn) hn10 (by rw [e31, e32]; exact hB) (by rw [e8]; exact hfb) ((ht.1 30 5 rfl).trans hs) hm (by rw [e35]; exact hE) (by rw [e36]; exact hS) h4 (fun φ hf0 hq _ => ?_) (fun φ hf0 hq _ => ?_)
          · skip
            have hf := ht.tr hf0
            rw [e31, e32, e8, e35, e36] at hq
            have hIφ := zQI_eq hI hf.2.2
            have hnφ : φ.2.2.2 = σ.2.2.2 := congrArg Prod.snd hf.2.2
            refine zq (σ := φ) hV hIφ hnφ 1 ?_
            show ((1 : Int32) = 0 → V 43 [(0, .ref 30), (1, .int (nI b)), (2, .int (nI k))] [] φ) ∧ (¬ (1 : Int32) = 0 → V 39 [(0, .ref 30), (1, .int (nI b)), (2, .int (nI k))] [] φ)
            refine ⟨fun hc => absurd hc (by decide), fun _ => ?_⟩
            refine zq (σ := φ) hV hIφ hnφ 5 ?_
            show V 25 [(2, .int ((nI k) + 1)), (1, .int (nI k)), (0, .ref 30)] [] φ
            refine zwk hV [2, 1, 0] rfl ?_
            rw [nI_1]
            refine ihk (k + 1) k φ (by omega) (by omega) (by omega) hf (Or.inr hq) (fun j h1 h2 => absurd h1 (by omega))
          · skip
            have hf := ht.tr hf0
            rw [e31, e32, e8, e35, e36] at hq
            have hIφ := zQI_eq hI hf.2.2
            have hnφ : φ.2.2.2 = σ.2.2.2 := congrArg Prod.snd hf.2.2
            refine zq (σ := φ) hV hIφ hnφ 1 ?_
            show ((0 : Int32) = 0 → V 43 [(0, .ref 30), (1, .int (nI b)), (2, .int (nI k))] [] φ) ∧ (¬ (0 : Int32) = 0 → V 39 [(0, .ref 30), (1, .int (nI b)), (2, .int (nI k))] [] φ)
            refine ⟨fun _ => ?_, fun hc => absurd (by decide) hc⟩
            refine zq (σ := φ) hV hIφ hnφ 4 ?_
            show V 25 [(2, .int ((nI k) + 1)), (1, .int (nI b)), (0, .ref 30)] [] φ
            refine zwk hV [2, 1, 0] rfl ?_
            rw [nI_1]
            refine ihk (k + 1) b φ (by omega) (by omega) (by omega) hf hbe (fun j h1 h2 => ?_)
            by_cases e : j = k
            · rw [e]; exact hq
            · exact hno j h1 (by omega)
      exact Hk 8 1 0 φ (by omega) (by omega) (by omega) hf (Or.inl rfl) (fun j h1 h2 => absurd h1 (by omega))
    · skip
      rw [zHw_0 hS] at hq
      have hIφ := zQI_eq hI hf.2.2
      have hnφ : φ.2.2.2 = σ.2.2.2 := congrArg Prod.snd hf.2.2
      refine zq (σ := φ) hV hIφ hnφ 1 ?_
      show (¬ (0 : Int32) = 0 → V 21 [(0, .ref 30)] [] φ) ∧ (¬ (¬ (0 : Int32) = 0) → V 19 [(0, .ref 30)] [] φ)
      refine ⟨fun hc => absurd hc (by decide), fun _ => ?_⟩
      refine zq (σ := φ) hV hIφ hnφ 2 ?_
      show K (some (.int (-1))) φ
      exact hNone h4 φ hf hq
  · skip
    refine zq (σ := σ) hV hI rfl 2 ?_
    show K (some (.int (-3))) σ
    exact hNot (fun q => h_5 (by rw [zle, hs, hmi]; have e4 : (4 : Int32).toInt = 4 := rfl; omega))
