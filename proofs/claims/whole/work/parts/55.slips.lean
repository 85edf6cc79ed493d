def zf36 (a j : Nat) : Bool := zfMh a j || Nat.beq a 36
theorem zfMh_36 (a j : Nat) (h : zf36 a j = false) : zfMh a j = false := (Bool.or_eq_false_iff.mp h).1
theorem zor0 (x : Int32) : x ||| 0 = x := Int32.or_zero
set_option maxRecDepth 8000 in
set_option maxHeartbeats 4000000 in
theorem free_M {d : Nat} {σ : zSt} {K : Option Value → zSt → Prop} {v : Int32} {n m : Nat} (hI : zQI (kR 30 52) σ.2.2) (hn : σ.1 30 0 = nI n) (hn10 : n ≤ 10) (hB : zHB n (σ.1 31) (σ.1 32)) (hfb : zBt 0 16 (σ.1 30 8)) (hs : σ.1 30 5 = nI m) (hm : m ≤ 8) (hE : ∀ i, i < m → ∃ e, σ.1 35 i = nI e ∧ e < n) (hS : ∀ i, i < m → zBt 0 8 (σ.1 36 i)) (hBad : ¬ zBt 0 (m - 1) v → K (some (.int (-2))) σ) (hOk : ∀ τ j, zOnly zfMh σ τ → v = nI j → j < m → K (some (.int (zFree n (σ.1 31) (σ.1 32) (σ.1 30 8) (σ.1 35) (σ.1 36) m j))) τ) : zSp (d + 4) mX9_free [.ref 30, .int v] σ K := by
  refine ⟨⟨by decide, Nat.le_of_ble_eq_true rfl⟩, fun V hV => ?_⟩
  refine zq (σ := σ) hV hI rfl 3 ?_
  show zSp _ 145 [.ref 30, .int v] σ (fun r_z σ' => σ'.2.2.2 = σ.2.2.2 + zAl 145 → V 5 [(0, .ref 30), (1, .int v)] (r_z.toList ++ []) σ')
  refine isFinger_M hI hs (by omega) (fun hb1 _ => ?_) (fun hb1 _ => ?_)
  · skip
    refine zq (σ := σ) hV hI rfl 1 ?_
    show (¬ (1 : Int32) = 0 → V 11 [(0, .ref 30), (1, .int v)] [] σ) ∧ (¬ (¬ (1 : Int32) = 0) → V 8 [(0, .ref 30), (1, .int v)] [] σ)
    refine ⟨fun _ => ?_, fun hc_z => absurd (by decide) hc_z⟩
    obtain ⟨j_z, hj, hj2, _⟩ := zNat (x := v) (by unfold zBt at hb1; omega)
    have hjm : j_z < m := by unfold zBt at hb1; omega
    refine zq (σ := σ) hV hI rfl 4 ?_
    show vp_in v 8 ∧ V 17 [(0, .ref 30), (1, .int v)] [.int (σ.1 36 (Int32.toNatClampNeg v))] σ
    refine ⟨zix (k := j_z) hj (by omega) (by decide), ?_⟩
    rw [zcl_k (i := v) (k := j_z) hj (by omega)]
    refine zq (σ := σ) hV hI rfl 5 ?_
    show V 23 [(4, .int 0), (3, .int 0), (2, .int (σ.1 36 j_z)), (0, .ref 30), (1, .int v)] [] σ
    refine zwk hV [3, 4, 2, 1, 0] rfl ?_
    have Hk : ∀ (r_z : Nat) (k_z : Nat) (x_z : Int32) (τ : zSt), k_z + r_z = 9 → zOnly zf36 σ τ → (∀ i_z, ¬ i_z = j_z → τ.1 36 i_z = σ.1 36 i_z) → (∀ a_z c_z, zfMh a_z c_z = false → τ.2.1 a_z c_z = σ.2.1 a_z c_z) → zFr (fun k_z => zDc (zHo n (σ.1 31) (σ.1 32) (σ.1 30 8) (σ.1 35) (upd (σ.1 36) j_z (nI k_z)) m)) r_z k_z x_z = zFree n (σ.1 31) (σ.1 32) (σ.1 30 8) (σ.1 35) (σ.1 36) m j_z → V 23 [(0, .ref 30), (1, .int v), (2, .int (σ.1 36 j_z)), (3, .int x_z), (4, .int (nI k_z))] [] τ := by
      intro r_z
      induction r_z with
      | zero =>
        intro k_z x_z τ hkr ht hun hJ hfin
        have hIτ := zQI_eq hI ht.2.2
        have hnτ : τ.2.2.2 = σ.2.2.2 := congrArg Prod.snd ht.2.2
        refine zq (σ := τ) hV hIτ hnτ 3 ?_
        show (9 ≤ (nI k_z) → V 66 [(0, .ref 30), (1, .int v), (2, .int (σ.1 36 j_z)), (3, .int x_z), (4, .int (nI k_z))] [] τ) ∧ (¬ 9 ≤ (nI k_z) → V 30 [(0, .ref 30), (1, .int v), (2, .int (σ.1 36 j_z)), (3, .int x_z), (4, .int (nI k_z))] [] τ)
        refine ⟨fun _ => ?_, fun hc_z => absurd (show (9 : Int32) ≤ nI k_z by rw [show k_z = 9 by omega]; decide) hc_z⟩
        refine zq (σ := τ) hV hIτ hnτ 5 ?_
        show vp_in v 8 ∧ V 73 [(0, .ref 30), (1, .int v), (2, .int (σ.1 36 j_z)), (3, .int x_z), (4, .int (nI k_z))] [] (zuI τ 36 (Int32.toNatClampNeg v) (σ.1 36 j_z))
        refine ⟨zix (k := j_z) hj (by omega) (by decide), ?_⟩
        rw [zcl_k (i := v) (k := j_z) hj (by omega)]
        refine zq (σ := (zuI τ 36 j_z (σ.1 36 j_z))) hV hIτ hnτ 2 ?_
        show K (some (.int x_z)) (zuI τ 36 j_z (σ.1 36 j_z))
        replace hfin : x_z = _ := hfin
        rw [hfin]
        refine hOk _ j_z ⟨fun a_z c_z q_z => ?_, fun a_z c_z q_z => ?_, ht.2.2⟩ hj hjm
        · rw [zuI_get]
          by_cases e_z : a_z = 36 ∧ c_z = j_z
          · rw [if_pos e_z, e_z.1, e_z.2]
          · rw [if_neg e_z]
            by_cases e2_z : a_z = 36
            · rw [e2_z]; exact hun c_z (fun y_z => e_z ⟨e2_z, y_z⟩)
            · refine ht.1 a_z c_z ?_
              unfold zf36; rw [q_z, Bool.false_or, ← Bool.not_eq_true]; exact fun y_z => e2_z (Nat.eq_of_beq_eq_true y_z)
        · exact hJ a_z c_z q_z
      | succ r_z ihk =>
        intro k_z x_z τ hkr ht hun hJ hfin
        have hIτ := zQI_eq hI ht.2.2
        have hnτ : τ.2.2.2 = σ.2.2.2 := congrArg Prod.snd ht.2.2
        refine zq (σ := τ) hV hIτ hnτ 3 ?_
        show (9 ≤ (nI k_z) → V 66 [(0, .ref 30), (1, .int v), (2, .int (σ.1 36 j_z)), (3, .int x_z), (4, .int (nI k_z))] [] τ) ∧ (¬ 9 ≤ (nI k_z) → V 30 [(0, .ref 30), (1, .int v), (2, .int (σ.1 36 j_z)), (3, .int x_z), (4, .int (nI k_z))] [] τ)
        refine ⟨fun hc_z => absurd hc_z (show ¬ nI 9 ≤ nI k_z from nI_ge (by omega) (by decide)), fun _ => ?_⟩
        refine zq (σ := τ) hV hIτ hnτ 5 ?_
        show vp_in v 8 ∧ V 38 [(0, .ref 30), (1, .int v), (2, .int (σ.1 36 j_z)), (3, .int x_z), (4, .int (nI k_z))] [] (zuI τ 36 (Int32.toNatClampNeg v) (nI k_z))
        refine ⟨zix (k := j_z) hj (by omega) (by decide), ?_⟩
        rw [zcl_k (i := v) (k := j_z) hj (by omega)]
        refine zq (σ := (zuI τ 36 j_z (nI k_z))) hV hIτ hnτ 2 ?_
        show zSp _ 152 [.ref 30] (zuI τ 36 j_z (nI k_z)) (fun r_z σ' => σ'.2.2.2 = (zuI τ 36 j_z (nI k_z)).2.2.2 + zAl 152 → V 42 [(0, .ref 30), (1, .int v), (2, .int (σ.1 36 j_z)), (3, .int x_z), (4, .int (nI k_z))] (r_z.toList ++ []) σ')
        have hk9 : k_z < 9 := by omega
        have f36 : (zuI τ 36 j_z (nI k_z)).1 36 = upd (σ.1 36) j_z (nI k_z) := by
          funext i_z; rw [zuI_get]; unfold upd
          by_cases e_z : i_z = j_z
          · rw [if_pos ⟨rfl, e_z⟩, if_pos e_z]
          · rw [if_neg (fun x_z => e_z x_z.2), if_neg e_z]; exact hun i_z e_z
        have e31_z : (zuI τ 36 j_z (nI k_z)).1 31 = σ.1 31 := funext fun i_z => ht.1 31 i_z rfl
        have e32 : (zuI τ 36 j_z (nI k_z)).1 32 = σ.1 32 := funext fun i_z => ht.1 32 i_z rfl
        have e35 : (zuI τ 36 j_z (nI k_z)).1 35 = σ.1 35 := funext fun i_z => ht.1 35 i_z rfl
        have e8 : (zuI τ 36 j_z (nI k_z)).1 30 8 = σ.1 30 8 := ht.1 30 8 rfl
        refine layAll_M hIτ ((ht.1 30 0 rfl).trans hn) hn10 (by rw [e31_z, e32]; exact hB) (by rw [e8]; exact hfb) ((ht.1 30 5 rfl).trans hs) hm (by rw [e35]; exact hE) (fun i_z hi_z => ?_) (fun ρ hr h9 hT_z _ => ?_)
        · rw [f36]; unfold upd
          by_cases e_z : i_z = j_z
          · rw [if_pos e_z]; unfold zBt; rw [nI_toInt (by omega)]; omega
          · rw [if_neg e_z]; exact hS i_z hi_z
        rw [e31_z, e32, e8, e35, f36] at hT_z
        rw [e8] at h9
        have hml := @zMl_le (σ.1 30 8) m hm
        have h36 : zOnly zf36 σ (zuI τ 36 j_z (nI k_z)) := ht.uI rfl
        have hr2 : zOnly zf36 σ ρ := h36.tr (hr.wk (fun a_z c_z q_z => zfLy_M a_z c_z (zfMh_36 a_z c_z q_z)))
        have hIρ := zQI_eq hI hr2.2.2
        have hnρ : ρ.2.2.2 = σ.2.2.2 := congrArg Prod.snd hr2.2.2
        have r36 : ρ.1 36 = upd (σ.1 36) j_z (nI k_z) := (funext fun i_z => hr.1 36 i_z rfl).trans f36
        refine zq (σ := ρ) hV hIρ hnρ 3 ?_
        show zSp _ 155 [.ref 30] ρ (fun r_z σ' => σ'.2.2.2 = ρ.2.2.2 + zAl 155 → V 47 [(0, .ref 30), (1, .int v), (2, .int (σ.1 36 j_z)), (3, .int x_z), (4, .int (nI k_z))] (r_z.toList ++ [.int x_z]) σ')
        refine hold_M hIρ h9 hml (fun υ hu0 hq0 _ => ?_) (fun υ hu0 hq0 _ => ?_)
        · skip
          have hq : zHo n (σ.1 31) (σ.1 32) (σ.1 30 8) (σ.1 35) (upd (σ.1 36) j_z (nI k_z)) m := (zHold_congr hT_z).mp hq0
          have hu : zOnly zf36 σ υ := hr2.tr (hu0.wk (fun a_z c_z q_z => zfX_M a_z c_z (zfMh_36 a_z c_z q_z)))
          have hIυ := zQI_eq hI hu.2.2
          have hnυ : υ.2.2.2 = σ.2.2.2 := congrArg Prod.snd hu.2.2
          refine zq (σ := υ) hV hIυ hnυ 1 ?_
          show ((1 : Int32) = 0 → V 57 [(0, .ref 30), (1, .int v), (2, .int (σ.1 36 j_z)), (3, .int x_z), (4, .int (nI k_z))] [.int x_z] υ) ∧ (¬ (1 : Int32) = 0 → V 50 [(0, .ref 30), (1, .int v), (2, .int (σ.1 36 j_z)), (3, .int x_z), (4, .int (nI k_z))] [.int x_z] υ)
          refine ⟨fun hc_z => absurd hc_z (by decide), fun _ => ?_⟩
          refine zq (σ := υ) hV hIυ hnυ 8 ?_
          show V 23 [(4, .int ((nI k_z) + 1)), (3, .int (x_z ||| (1 <<< ((nI k_z) &&& 31)))), (0, .ref 30), (1, .int v), (2, .int (σ.1 36 j_z))] [] υ
          refine zwk hV [2, 3, 4, 1, 0] rfl ?_
          rw [nI_1]
          refine ihk (k_z + 1) _ υ (by omega) hu (fun i_z hi_z => ?_) (fun a_z c_z q_z => ((hu0.2.1 a_z c_z (zfX_M a_z c_z q_z)).trans (hr.2.1 a_z c_z (zfLy_M a_z c_z q_z))).trans (hJ a_z c_z q_z)) ?_
          · rw [show υ.1 36 i_z = ρ.1 36 i_z from hu0.1 36 i_z rfl, r36]; unfold upd; rw [if_neg hi_z]
          · rw [← hfin]
            show _ = zFr (fun k_z => zDc (zHo n (σ.1 31) (σ.1 32) (σ.1 30 8) (σ.1 35) (upd (σ.1 36) j_z (nI k_z)) m)) r_z (k_z + 1) (if zDc (zHo n (σ.1 31) (σ.1 32) (σ.1 30 8) (σ.1 35) (upd (σ.1 36) j_z (nI k_z)) m) = true then x_z ||| (1 <<< (nI k_z &&& 31)) else x_z)
            rw [zDc_t hq, if_pos rfl]
        · skip
          have hq : ¬ zHo n (σ.1 31) (σ.1 32) (σ.1 30 8) (σ.1 35) (upd (σ.1 36) j_z (nI k_z)) m := fun x_z => hq0 ((zHold_congr hT_z).mpr x_z)
          have hu : zOnly zf36 σ υ := hr2.tr (hu0.wk (fun a_z c_z q_z => zfX_M a_z c_z (zfMh_36 a_z c_z q_z)))
          have hIυ := zQI_eq hI hu.2.2
          have hnυ : υ.2.2.2 = σ.2.2.2 := congrArg Prod.snd hu.2.2
          refine zq (σ := υ) hV hIυ hnυ 1 ?_
          show ((0 : Int32) = 0 → V 57 [(0, .ref 30), (1, .int v), (2, .int (σ.1 36 j_z)), (3, .int x_z), (4, .int (nI k_z))] [.int x_z] υ) ∧ (¬ (0 : Int32) = 0 → V 50 [(0, .ref 30), (1, .int v), (2, .int (σ.1 36 j_z)), (3, .int x_z), (4, .int (nI k_z))] [.int x_z] υ)
          refine ⟨fun _ => ?_, fun hc_z => absurd (by decide) hc_z⟩
          refine zq (σ := υ) hV hIυ hnυ 5 ?_
          show V 23 [(4, .int ((nI k_z) + 1)), (3, .int (x_z ||| 0)), (0, .ref 30), (1, .int v), (2, .int (σ.1 36 j_z))] [] υ
          refine zwk hV [2, 3, 4, 1, 0] rfl ?_
          rw [nI_1]
          refine ihk (k_z + 1) _ υ (by omega) hu (fun i_z hi_z => ?_) (fun a_z c_z q_z => ((hu0.2.1 a_z c_z (zfX_M a_z c_z q_z)).trans (hr.2.1 a_z c_z (zfLy_M a_z c_z q_z))).trans (hJ a_z c_z q_z)) ?_
          · rw [show υ.1 36 i_z = ρ.1 36 i_z from hu0.1 36 i_z rfl, r36]; unfold upd; rw [if_neg hi_z]
          · rw [← hfin]
            show _ = zFr (fun k_z => zDc (zHo n (σ.1 31) (σ.1 32) (σ.1 30 8) (σ.1 35) (upd (σ.1 36) j_z (nI k_z)) m)) r_z (k_z + 1) (if zDc (zHo n (σ.1 31) (σ.1 32) (σ.1 30 8) (σ.1 35) (upd (σ.1 36) j_z (nI k_z)) m) = true then x_z ||| (1 <<< (nI k_z &&& 31)) else x_z)
            rw [zDc_f hq, if_neg (by decide), zor0]
    exact Hk 9 0 0 σ rfl zOnly.rf (fun i_z _ => rfl) (fun _ _ _ => rfl) rfl
  · skip
    refine zq (σ := σ) hV hI rfl 1 ?_
    show (¬ (0 : Int32) = 0 → V 11 [(0, .ref 30), (1, .int v)] [] σ) ∧ (¬ (¬ (0 : Int32) = 0) → V 8 [(0, .ref 30), (1, .int v)] [] σ)
    refine ⟨fun hc_z => absurd hc_z (by decide), fun _ => ?_⟩
    refine zq (σ := σ) hV hI rfl 2 ?_
    show K (some (.int (-2))) σ
    exact hBad hb1
theorem zCl_b (x : Int32) : zBt 0 8 (zCl x) := by
  unfold zCl zBt
  have z0 : (0 : Int32).toInt = 0 := rfl
  have z8 : (8 : Int32).toInt = 8 := rfl
  by_cases h1 : x < 0
  · rw [if_pos h1]; decide
  · rw [if_neg h1]
    by_cases h2 : 8 < x
    · rw [if_pos h2]; decide
    · rw [if_neg h2]; rw [zlt, z0] at h1; rw [zlt, z8] at h2; omega
theorem zHw_0 {n : Nat} {X Y : Nat → Int32} {f : Int32} {E S : Nat → Int32} {m : Nat} (hS : ∀ i, i < m → zBt 0 8 (S i)) : zHw n X Y f E S m 0 ↔ zHo n X Y f E S m := by
  have h1 : ∀ w_z i_z, i_z < m → zWy S 0 w_z i_z = S i_z := fun w_z i_z hi_z => by
    have hb_z := hS i_z hi_z
    unfold zBt at hb_z
    unfold zWy
    rw [Int32.mul_zero, Int32.add_zero]
    unfold zCl
    rw [if_neg (by rw [zlt, show (0 : Int32).toInt = 0 from rfl]; omega), if_neg (by rw [zlt, show (8 : Int32).toInt = 8 from rfl]; omega)]
  have h2 : ∀ w_z, zHo n X Y f E (zWy S 0 w_z) m ↔ zHo n X Y f E S m := fun w_z => zHo_congr (fun i_z hi_z => ⟨rfl, h1 w_z i_z hi_z⟩)
  unfold zHw
  exact ⟨fun h_z => (h2 0).mp (h_z 0 (Nat.pow_pos (by decide))), fun h_z w_z _ => (h2 w_z).mpr h_z⟩
set_option maxRecDepth 8000 in
set_option maxHeartbeats 4000000 in
theorem holdBy_M {d : Nat} {σ : zSt} {K : Option Value → zSt → Prop} {d0 : Int32} {n m : Nat} (hI : zQI (kR 30 52) σ.2.2) (hn : σ.1 30 0 = nI n) (hn10 : n ≤ 10) (hB : zHB n (σ.1 31) (σ.1 32)) (hfb : zBt 0 16 (σ.1 30 8)) (hs : σ.1 30 5 = nI m) (hm : m ≤ 8) (hE : ∀ i, i < m → ∃ e, σ.1 35 i = nI e ∧ e < n) (hS : ∀ i, i < m → zBt 0 8 (σ.1 36 i)) (hm4 : m ≤ 4) (h1 : ∀ τ, zOnly zfMh σ τ → zHw n (σ.1 31) (σ.1 32) (σ.1 30 8) (σ.1 35) (σ.1 36) m d0 → K (some (.int 1)) τ) (h0 : ∀ τ, zOnly zfMh σ τ → ¬ zHw n (σ.1 31) (σ.1 32) (σ.1 30 8) (σ.1 35) (σ.1 36) m d0 → K (some (.int 0)) τ) : zSp (d + 4) mX9_holdBy [.ref 30, .int d0] σ K := by
  refine ⟨⟨by decide, Nat.le_of_ble_eq_true rfl⟩, fun V hV => ?_⟩
  refine zq (σ := σ) hV hI rfl 4 ?_
  show V 4 [(3, .int 0), (2, .int 1), (0, .ref 30), (1, .int d0)] [] σ
  refine zwk hV [2, 3, 1, 0] rfl ?_
  have Ha : ∀ (r_z : Nat) (i_z : Nat), i_z + r_z = m → V 4 [(0, .ref 30), (1, .int d0), (2, .int (nI (3 ^ i_z))), (3, .int (nI i_z))] [] σ := by
    intro r_z
    induction r_z with
    | zero =>
      intro i_z hia
      refine zq (σ := σ) hV hI rfl 4 ?_
      show ((σ.1 30 5) ≤ (nI i_z) → V 22 [(0, .ref 30), (1, .int d0), (2, .int (nI (3 ^ i_z))), (3, .int (nI i_z))] [] σ) ∧ (¬ (σ.1 30 5) ≤ (nI i_z) → V 12 [(0, .ref 30), (1, .int d0), (2, .int (nI (3 ^ i_z))), (3, .int (nI i_z))] [] σ)
      refine ⟨fun _ => ?_, fun hc_z => absurd (show (σ.1 30 5) ≤ nI i_z by rw [hs]; exact zge_self (by omega)) hc_z⟩
      refine zq (σ := σ) hV hI rfl 2 ?_
      show V 24 [(3, .int 0), (0, .ref 30), (1, .int d0), (2, .int (nI (3 ^ i_z)))] [] σ
      refine zwk hV [1, 2, 3, 0] rfl ?_
      obtain rfl : m = i_z := by omega
      have h39 := z3k hm4
      have Hw : ∀ (r_z : Nat) (w_z : Nat) (ρ : zSt), w_z + r_z = 3 ^ m → zOnly zfMh σ ρ → (∀ j_z, j_z < w_z → zHo n (σ.1 31) (σ.1 32) (σ.1 30 8) (σ.1 35) (zWy (σ.1 36) d0 j_z) m) → V 24 [(0, .ref 30), (1, .int d0), (2, .int (nI (3 ^ m))), (3, .int (nI w_z))] [] ρ := by
        intro r_z
        induction r_z with
        | zero =>
          intro w_z ρ hwr hr hws
          have hIρ := zQI_eq hI hr.2.2
          have hnρ : ρ.2.2.2 = σ.2.2.2 := congrArg Prod.snd hr.2.2
          refine zq (σ := ρ) hV hIρ hnρ 3 ?_
          show ((nI (3 ^ m)) ≤ (nI w_z) → V 128 [(0, .ref 30), (1, .int d0), (2, .int (nI (3 ^ m))), (3, .int (nI w_z))] [] ρ) ∧ (¬ (nI (3 ^ m)) ≤ (nI w_z) → V 29 [(0, .ref 30), (1, .int d0), (2, .int (nI (3 ^ m))), (3, .int (nI w_z))] [] ρ)
          refine ⟨fun _ => ?_, fun hc_z => absurd (show nI (3 ^ m) ≤ nI w_z from zge_self (by omega)) hc_z⟩
          refine zq (σ := ρ) hV hIρ hnρ 2 ?_
          show ((1 : Int32) = 0 ∨ (1 : Int32) = 1) ∧ K (some (.int 1)) ρ
          refine ⟨by decide, ?_⟩
          exact h1 ρ hr (fun j_z hj => hws j_z (by omega))
        | succ r_z ihw =>
          intro w_z ρ hwr hr hws
          have hIρ := zQI_eq hI hr.2.2
          have hnρ : ρ.2.2.2 = σ.2.2.2 := congrArg Prod.snd hr.2.2
          refine zq (σ := ρ) hV hIρ hnρ 3 ?_
          show ((nI (3 ^ m)) ≤ (nI w_z) → V 128 [(0, .ref 30), (1, .int d0), (2, .int (nI (3 ^ m))), (3, .int (nI w_z))] [] ρ) ∧ (¬ (nI (3 ^ m)) ≤ (nI w_z) → V 29 [(0, .ref 30), (1, .int d0), (2, .int (nI (3 ^ m))), (3, .int (nI w_z))] [] ρ)
          refine ⟨fun hc_z => absurd hc_z (show ¬ nI (3 ^ m) ≤ nI w_z from nI_ge (by omega) (by omega)), fun _ => ?_⟩
          refine zq (σ := ρ) hV hIρ hnρ 7 ?_
          show V 40 [(5, .int 0), (4, .int (nI w_z)), (0, .ref 30), (1, .int d0), (2, .int (nI (3 ^ m))), (3, .int (nI w_z))] [] (zuI ρ 30 9 0)
          refine zwk hV [2, 3, 4, 5, 1, 0] rfl ?_
          have Hi : ∀ (r_z : Nat) (i_z q_z : Nat) (τ : zSt), i_z + r_z = m → q_z = w_z / 3 ^ i_z → zOnly zfMh σ τ → τ.1 30 9 = nI (zMl (σ.1 30 8) i_z) → zTkM n (σ.1 31) (σ.1 32) (σ.1 30 8) (σ.1 35) (zWy (σ.1 36) d0 w_z) (zMl (σ.1 30 8) i_z) τ → V 40 [(0, .ref 30), (1, .int d0), (2, .int (nI (3 ^ m))), (3, .int (nI w_z)), (4, .int (nI q_z)), (5, .int (nI i_z))] [] τ := by
            intro r_z
            induction r_z with
            | zero =>
              intro i_z q_z τ hir hq ht h9 hT_z
              have hIτ := zQI_eq hI ht.2.2
              have hnτ : τ.2.2.2 = σ.2.2.2 := congrArg Prod.snd ht.2.2
              have hst : τ.1 30 5 = nI m := (ht.1 30 5 rfl).trans hs
              refine zq (σ := τ) hV hIτ hnτ 4 ?_
              show ((τ.1 30 5) ≤ (nI i_z) → V 113 [(0, .ref 30), (1, .int d0), (2, .int (nI (3 ^ m))), (3, .int (nI w_z)), (4, .int (nI q_z)), (5, .int (nI i_z))] [] τ) ∧ (¬ (τ.1 30 5) ≤ (nI i_z) → V 49 [(0, .ref 30), (1, .int d0), (2, .int (nI (3 ^ m))), (3, .int (nI w_z)), (4, .int (nI q_z)), (5, .int (nI i_z))] [] τ)
              refine ⟨fun _ => ?_, fun hc_z => absurd (show (τ.1 30 5) ≤ nI i_z by rw [hst]; exact zge_self (by omega)) hc_z⟩
              refine zq (σ := τ) hV hIτ hnτ 2 ?_
              show zSp _ 155 [.ref 30] τ (fun r_z σ' => σ'.2.2.2 = τ.2.2.2 + zAl 155 → V 117 [(0, .ref 30), (1, .int d0), (2, .int (nI (3 ^ m))), (3, .int (nI w_z)), (4, .int (nI q_z)), (5, .int (nI i_z))] (r_z.toList ++ []) σ')
              have him2 : i_z = m := by omega
              rw [him2] at h9 hT_z
              have hml := @zMl_le (σ.1 30 8) m (by omega)
              refine hold_M hIτ h9 hml (fun φ hf0 hq0 _ => ?_) (fun φ hf0 hq0 _ => ?_)
              · skip
                have hq1 : zHo n (σ.1 31) (σ.1 32) (σ.1 30 8) (σ.1 35) (zWy (σ.1 36) d0 w_z) m := (zHold_congr hT_z).mp hq0
                have hf := ht.tr (hf0.wk zfX_M)
                have hIφ := zQI_eq hI hf.2.2
                have hnφ : φ.2.2.2 = σ.2.2.2 := congrArg Prod.snd hf.2.2
                refine zq (σ := φ) hV hIφ hnφ 1 ?_
                show (¬ (1 : Int32) = 0 → V 122 [(0, .ref 30), (1, .int d0), (2, .int (nI (3 ^ m))), (3, .int (nI w_z)), (4, .int (nI q_z)), (5, .int (nI i_z))] [] φ) ∧ (¬ (¬ (1 : Int32) = 0) → V 120 [(0, .ref 30), (1, .int d0), (2, .int (nI (3 ^ m))), (3, .int (nI w_z)), (4, .int (nI q_z)), (5, .int (nI i_z))] [] φ)
                refine ⟨fun _ => ?_, fun hc_z => absurd (by decide) hc_z⟩
                refine zq (σ := φ) hV hIφ hnφ 2 ?_
                show V 24 [(3, .int ((nI w_z) + 1)), (0, .ref 30), (1, .int d0), (2, .int (nI (3 ^ m))), (4, .int (nI q_z)), (5, .int (nI i_z))] [] φ
                refine zwk hV [1, 2, 3, 0] rfl ?_
                rw [nI_1]
                refine ihw (w_z + 1) φ (by omega) hf (fun j_z hj => ?_)
                by_cases e_z : j_z = w_z
                · rw [e_z]; exact hq1
                · exact hws j_z (by omega)
              · skip
                have hq1 : ¬ zHo n (σ.1 31) (σ.1 32) (σ.1 30 8) (σ.1 35) (zWy (σ.1 36) d0 w_z) m := fun x_z => hq0 ((zHold_congr hT_z).mpr x_z)
                have hf := ht.tr (hf0.wk zfX_M)
                have hIφ := zQI_eq hI hf.2.2
                have hnφ : φ.2.2.2 = σ.2.2.2 := congrArg Prod.snd hf.2.2
                refine zq (σ := φ) hV hIφ hnφ 1 ?_
                show (¬ (0 : Int32) = 0 → V 122 [(0, .ref 30), (1, .int d0), (2, .int (nI (3 ^ m))), (3, .int (nI w_z)), (4, .int (nI q_z)), (5, .int (nI i_z))] [] φ) ∧ (¬ (¬ (0 : Int32) = 0) → V 120 [(0, .ref 30), (1, .int d0), (2, .int (nI (3 ^ m))), (3, .int (nI w_z)), (4, .int (nI q_z)), (5, .int (nI i_z))] [] φ)
                refine ⟨fun hc_z => absurd hc_z (by decide), fun _ => ?_⟩
                refine zq (σ := φ) hV hIφ hnφ 2 ?_
                show ((0 : Int32) = 0 ∨ (0 : Int32) = 1) ∧ K (some (.int 0)) φ
                refine ⟨by decide, ?_⟩
                exact h0 φ hf (fun x_z => hq1 (x_z w_z (by omega)))
            | succ r_z ihi =>
              intro i_z q_z τ hir hq ht h9 hT_z
              have hIτ := zQI_eq hI ht.2.2
              have hnτ : τ.2.2.2 = σ.2.2.2 := congrArg Prod.snd ht.2.2
              have hst : τ.1 30 5 = nI m := (ht.1 30 5 rfl).trans hs
              have him : i_z < m := by omega
              have e31_z : τ.1 31 = σ.1 31 := funext fun j_z => ht.1 31 j_z rfl
              have e32 : τ.1 32 = σ.1 32 := funext fun j_z => ht.1 32 j_z rfl
              have e8 : τ.1 30 8 = σ.1 30 8 := ht.1 30 8 rfl
              obtain ⟨e_z, he0, hen⟩ := hE i_z him
              have he : τ.1 35 i_z = nI e_z := (ht.1 35 i_z rfl).trans he0
              have he6 : τ.1 36 i_z = σ.1 36 i_z := ht.1 36 i_z rfl
              have hq3 : q_z ≤ w_z := by rw [hq]; exact Nat.div_le_self _ _
              refine zq (σ := τ) hV hIτ hnτ 4 ?_
              show ((τ.1 30 5) ≤ (nI i_z) → V 113 [(0, .ref 30), (1, .int d0), (2, .int (nI (3 ^ m))), (3, .int (nI w_z)), (4, .int (nI q_z)), (5, .int (nI i_z))] [] τ) ∧ (¬ (τ.1 30 5) ≤ (nI i_z) → V 49 [(0, .ref 30), (1, .int d0), (2, .int (nI (3 ^ m))), (3, .int (nI w_z)), (4, .int (nI q_z)), (5, .int (nI i_z))] [] τ)
              refine ⟨fun hc_z => absurd hc_z (show ¬ (τ.1 30 5) ≤ nI i_z by rw [hst]; exact nI_ge (by omega) (by omega)), fun _ => ?_⟩
              refine zq (σ := τ) hV hIτ hnτ 4 ?_
              show vp_in (nI i_z) 8 ∧ V 56 [(0, .ref 30), (1, .int d0), (2, .int (nI (3 ^ m))), (3, .int (nI w_z)), (4, .int (nI q_z)), (5, .int (nI i_z))] [.int (τ.1 36 (Int32.toNatClampNeg (nI i_z)))] τ
              refine ⟨zix (k := i_z) rfl (by omega) (by decide), ?_⟩
              rw [zcl_k (i := (nI i_z)) (k := i_z) rfl (by omega)]
              refine zq (σ := τ) hV hIτ hnτ 4 ?_
              show (¬ (3 : Int32) = 0) ∧ V 61 [(0, .ref 30), (1, .int d0), (2, .int (nI (3 ^ m))), (3, .int (nI w_z)), (4, .int (nI q_z)), (5, .int (nI i_z))] [.int ((nI q_z) - (nI q_z) / 3 * 3), .int d0, .int (τ.1 36 i_z)] τ
              refine ⟨by decide, ?_⟩
              refine zq (σ := τ) hV hIτ hnτ 10 ?_
              show vp_in (nI i_z) 8 ∧ V 75 [(6, .int ((τ.1 36 i_z) + (d0 * (((nI q_z) - (nI q_z) / 3 * 3) - 1)))), (0, .ref 30), (1, .int d0), (2, .int (nI (3 ^ m))), (3, .int (nI w_z)), (4, .int (nI q_z)), (5, .int (nI i_z))] [.int (τ.1 35 (Int32.toNatClampNeg (nI i_z))), .ref 30] τ
              refine ⟨zix (k := i_z) rfl (by omega) (by decide), ?_⟩
              rw [zcl_k (i := (nI i_z)) (k := i_z) rfl (by omega)]
              refine zq (σ := τ) hV hIτ hnτ 2 ?_
              show (0 ≤ ((τ.1 36 i_z) + (d0 * (((nI q_z) - (nI q_z) / 3 * 3) - 1))) → V 84 [(6, .int ((τ.1 36 i_z) + (d0 * (((nI q_z) - (nI q_z) / 3 * 3) - 1)))), (0, .ref 30), (1, .int d0), (2, .int (nI (3 ^ m))), (3, .int (nI w_z)), (4, .int (nI q_z)), (5, .int (nI i_z))] [.int (τ.1 35 i_z), .ref 30] τ) ∧ (¬ 0 ≤ ((τ.1 36 i_z) + (d0 * (((nI q_z) - (nI q_z) / 3 * 3) - 1))) → V 80 [(6, .int ((τ.1 36 i_z) + (d0 * (((nI q_z) - (nI q_z) / 3 * 3) - 1)))), (0, .ref 30), (1, .int d0), (2, .int (nI (3 ^ m))), (3, .int (nI w_z)), (4, .int (nI q_z)), (5, .int (nI i_z))] [.int (τ.1 35 i_z), .ref 30] τ)
              refine ⟨fun h_77 => ?_, fun h_77 => ?_⟩
              · skip
                refine zq (σ := τ) hV hIτ hnτ 3 ?_
                show (((τ.1 36 i_z) + (d0 * (((nI q_z) - (nI q_z) / 3 * 3) - 1))) ≤ 8 → V 96 [(6, .int ((τ.1 36 i_z) + (d0 * (((nI q_z) - (nI q_z) / 3 * 3) - 1)))), (0, .ref 30), (1, .int d0), (2, .int (nI (3 ^ m))), (3, .int (nI w_z)), (4, .int (nI q_z)), (5, .int (nI i_z))] [.int (τ.1 35 i_z), .ref 30] τ) ∧ (¬ ((τ.1 36 i_z) + (d0 * (((nI q_z) - (nI q_z) / 3 * 3) - 1))) ≤ 8 → V 91 [(6, .int ((τ.1 36 i_z) + (d0 * (((nI q_z) - (nI q_z) / 3 * 3) - 1)))), (0, .ref 30), (1, .int d0), (2, .int (nI (3 ^ m))), (3, .int (nI w_z)), (4, .int (nI q_z)), (5, .int (nI i_z))] [.int (τ.1 35 i_z), .ref 30] τ)
                refine ⟨fun h_88 => ?_, fun h_88 => ?_⟩
                · skip
                  refine zq (σ := τ) hV hIτ hnτ 2 ?_
                  show zSp _ 151 [.ref 30, .int (τ.1 35 i_z), .int ((τ.1 36 i_z) + (d0 * (((nI q_z) - (nI q_z) / 3 * 3) - 1)))] τ (fun r_z σ' => σ'.2.2.2 = τ.2.2.2 + zAl 151 → V 101 [(6, .int ((τ.1 36 i_z) + (d0 * (((nI q_z) - (nI q_z) / 3 * 3) - 1)))), (0, .ref 30), (1, .int d0), (2, .int (nI (3 ^ m))), (3, .int (nI w_z)), (4, .int (nI q_z)), (5, .int (nI i_z))] (r_z.toList ++ []) σ')
                  have hwy : zWy (σ.1 36) d0 w_z i_z = zCl ((τ.1 36 i_z) + (d0 * (((nI q_z) - (nI q_z) / 3 * 3) - 1))) := by unfold zWy; rw [show zdg w_z i_z = q_z % 3 by rw [hq]; rfl, ← zrem3 (by omega), Int32.mul_comm, ← he6]
                  have hcl : zWy (σ.1 36) d0 w_z i_z = ((τ.1 36 i_z) + (d0 * (((nI q_z) - (nI q_z) / 3 * 3) - 1))) := by rw [hwy]; unfold zCl; rw [if_neg (Int32.not_lt.mpr h_77), if_neg (Int32.not_lt.mpr h_88)]
                  rw [he, ← hcl]
                  refine lays_M (n := n) (i := i_z) (E := σ.1 35) (S := zWy (σ.1 36) d0 w_z) (X := σ.1 31) (Y := σ.1 32) (f := σ.1 30 8) hIτ ((ht.1 30 0 rfl).trans hn) hn10 e31_z e32 e8 hB hfb he0 hen (zCl_b _) (by omega) h9 hT_z (fun υ hu h9u hTu _ => ?_)
                  have hu2 := ht.tr (hu.wk zfLy_M)
                  have hIυ := zQI_eq hI hu2.2.2
                  have hnυ : υ.2.2.2 = σ.2.2.2 := congrArg Prod.snd hu2.2.2
                  refine zq (σ := υ) hV hIυ hnυ 3 ?_
                  show (¬ (3 : Int32) = 0) ∧ V 105 [(6, .int (zWy (σ.1 36) d0 w_z i_z)), (0, .ref 30), (1, .int d0), (2, .int (nI (3 ^ m))), (3, .int (nI w_z)), (4, .int (nI q_z)), (5, .int (nI i_z))] [.int ((nI q_z) / 3)] υ
                  refine ⟨by decide, ?_⟩
                  refine zq (σ := υ) hV hIυ hnυ 3 ?_
                  show V 40 [(5, .int ((nI i_z) + 1)), (4, .int ((nI q_z) / 3)), (6, .int (zWy (σ.1 36) d0 w_z i_z)), (0, .ref 30), (1, .int d0), (2, .int (nI (3 ^ m))), (3, .int (nI w_z))] [] υ
                  refine zwk hV [3, 4, 5, 6, 1, 0] rfl ?_
                  rw [nI_1, zdiv3 (by omega)]
                  exact ihi (i_z + 1) (q_z / 3) υ (by omega) (by rw [hq, Nat.div_div_eq_div_mul, Nat.pow_succ]) hu2 h9u hTu
                · skip
                  refine zq (σ := τ) hV hIτ hnτ 3 ?_
                  show zSp _ 151 [.ref 30, .int (τ.1 35 i_z), .int 8] τ (fun r_z σ' => σ'.2.2.2 = τ.2.2.2 + zAl 151 → V 101 [(6, .int ((τ.1 36 i_z) + (d0 * (((nI q_z) - (nI q_z) / 3 * 3) - 1)))), (0, .ref 30), (1, .int d0), (2, .int (nI (3 ^ m))), (3, .int (nI w_z)), (4, .int (nI q_z)), (5, .int (nI i_z))] (r_z.toList ++ []) σ')
                  have hwy : zWy (σ.1 36) d0 w_z i_z = zCl ((τ.1 36 i_z) + (d0 * (((nI q_z) - (nI q_z) / 3 * 3) - 1))) := by unfold zWy; rw [show zdg w_z i_z = q_z % 3 by rw [hq]; rfl, ← zrem3 (by omega), Int32.mul_comm, ← he6]
                  have hcl : zWy (σ.1 36) d0 w_z i_z = 8 := by rw [hwy]; unfold zCl; rw [if_neg (Int32.not_lt.mpr h_77), if_pos (Int32.not_le.mp h_88)]
                  rw [he, ← hcl]
                  refine lays_M (n := n) (i := i_z) (E := σ.1 35) (S := zWy (σ.1 36) d0 w_z) (X := σ.1 31) (Y := σ.1 32) (f := σ.1 30 8) hIτ ((ht.1 30 0 rfl).trans hn) hn10 e31_z e32 e8 hB hfb he0 hen (zCl_b _) (by omega) h9 hT_z (fun υ hu h9u hTu _ => ?_)
                  have hu2 := ht.tr (hu.wk zfLy_M)
                  have hIυ := zQI_eq hI hu2.2.2
                  have hnυ : υ.2.2.2 = σ.2.2.2 := congrArg Prod.snd hu2.2.2
                  refine zq (σ := υ) hV hIυ hnυ 3 ?_
                  show (¬ (3 : Int32) = 0) ∧ V 105 [(6, .int ((τ.1 36 i_z) + (d0 * (((nI q_z) - (nI q_z) / 3 * 3) - 1)))), (0, .ref 30), (1, .int d0), (2, .int (nI (3 ^ m))), (3, .int (nI w_z)), (4, .int (nI q_z)), (5, .int (nI i_z))] [.int ((nI q_z) / 3)] υ
                  refine ⟨by decide, ?_⟩
                  refine zq (σ := υ) hV hIυ hnυ 3 ?_
                  show V 40 [(5, .int ((nI i_z) + 1)), (4, .int ((nI q_z) / 3)), (6, .int ((τ.1 36 i_z) + (d0 * (((nI q_z) - (nI q_z) / 3 * 3) - 1)))), (0, .ref 30), (1, .int d0), (2, .int (nI (3 ^ m))), (3, .int (nI w_z))] [] υ
                  refine zwk hV [3, 4, 5, 6, 1, 0] rfl ?_
                  rw [nI_1, zdiv3 (by omega)]
                  exact ihi (i_z + 1) (q_z / 3) υ (by omega) (by rw [hq, Nat.div_div_eq_div_mul, Nat.pow_succ]) hu2 h9u hTu
              · skip
                refine zq (σ := τ) hV hIτ hnτ 3 ?_
                show zSp _ 151 [.ref 30, .int (τ.1 35 i_z), .int 0] τ (fun r_z σ' => σ'.2.2.2 = τ.2.2.2 + zAl 151 → V 101 [(6, .int ((τ.1 36 i_z) + (d0 * (((nI q_z) - (nI q_z) / 3 * 3) - 1)))), (0, .ref 30), (1, .int d0), (2, .int (nI (3 ^ m))), (3, .int (nI w_z)), (4, .int (nI q_z)), (5, .int (nI i_z))] (r_z.toList ++ []) σ')
                have hwy : zWy (σ.1 36) d0 w_z i_z = zCl ((τ.1 36 i_z) + (d0 * (((nI q_z) - (nI q_z) / 3 * 3) - 1))) := by unfold zWy; rw [show zdg w_z i_z = q_z % 3 by rw [hq]; rfl, ← zrem3 (by omega), Int32.mul_comm, ← he6]
                have hcl : zWy (σ.1 36) d0 w_z i_z = 0 := by rw [hwy]; unfold zCl; rw [if_pos (Int32.not_le.mp h_77)]
                rw [he, ← hcl]
                refine lays_M (n := n) (i := i_z) (E := σ.1 35) (S := zWy (σ.1 36) d0 w_z) (X := σ.1 31) (Y := σ.1 32) (f := σ.1 30 8) hIτ ((ht.1 30 0 rfl).trans hn) hn10 e31_z e32 e8 hB hfb he0 hen (zCl_b _) (by omega) h9 hT_z (fun υ hu h9u hTu _ => ?_)
                have hu2 := ht.tr (hu.wk zfLy_M)
                have hIυ := zQI_eq hI hu2.2.2
                have hnυ : υ.2.2.2 = σ.2.2.2 := congrArg Prod.snd hu2.2.2
                refine zq (σ := υ) hV hIυ hnυ 3 ?_
                show (¬ (3 : Int32) = 0) ∧ V 105 [(6, .int ((τ.1 36 i_z) + (d0 * (((nI q_z) - (nI q_z) / 3 * 3) - 1)))), (0, .ref 30), (1, .int d0), (2, .int (nI (3 ^ m))), (3, .int (nI w_z)), (4, .int (nI q_z)), (5, .int (nI i_z))] [.int ((nI q_z) / 3)] υ
                refine ⟨by decide, ?_⟩
                refine zq (σ := υ) hV hIυ hnυ 3 ?_
                show V 40 [(5, .int ((nI i_z) + 1)), (4, .int ((nI q_z) / 3)), (6, .int ((τ.1 36 i_z) + (d0 * (((nI q_z) - (nI q_z) / 3 * 3) - 1)))), (0, .ref 30), (1, .int d0), (2, .int (nI (3 ^ m))), (3, .int (nI w_z))] [] υ
                refine zwk hV [3, 4, 5, 6, 1, 0] rfl ?_
                rw [nI_1, zdiv3 (by omega)]
                exact ihi (i_z + 1) (q_z / 3) υ (by omega) (by rw [hq, Nat.div_div_eq_div_mul, Nat.pow_succ]) hu2 h9u hTu
          refine Hi m 0 w_z _ (by omega) (by rw [Nat.pow_zero, Nat.div_one]) (hr.uI rfl) ?_ (fun t_z q_z => absurd q_z (by unfold zMl; split <;> omega))
          show nI 0 = _
          unfold zMl; split <;> rfl
      exact Hw (3 ^ m) 0 σ (by omega) zOnly.rf (fun j_z c_z => absurd c_z (Nat.not_lt_zero j_z))
    | succ r_z iha =>
      intro i_z hia
      refine zq (σ := σ) hV hI rfl 4 ?_
      show ((σ.1 30 5) ≤ (nI i_z) → V 22 [(0, .ref 30), (1, .int d0), (2, .int (nI (3 ^ i_z))), (3, .int (nI i_z))] [] σ) ∧ (¬ (σ.1 30 5) ≤ (nI i_z) → V 12 [(0, .ref 30), (1, .int d0), (2, .int (nI (3 ^ i_z))), (3, .int (nI i_z))] [] σ)
      refine ⟨fun hc_z => absurd hc_z (show ¬ (σ.1 30 5) ≤ nI i_z by rw [hs]; exact nI_ge (by omega) (by omega)), fun _ => ?_⟩
      refine zq (σ := σ) hV hI rfl 6 ?_
      show V 4 [(3, .int ((nI i_z) + 1)), (2, .int ((nI (3 ^ i_z)) * 3)), (0, .ref 30), (1, .int d0)] [] σ
      refine zwk hV [2, 3, 1, 0] rfl ?_
      rw [nI_1, show nI (3 ^ i_z) * 3 = nI (3 ^ (i_z + 1)) by rw [show (3 : Int32) = nI 3 from rfl, pk_mul, Nat.pow_succ]]
      exact iha (i_z + 1) (by omega)
  exact Ha m 0 (by omega)
set_option maxRecDepth 8000 in
set_option maxHeartbeats 4000000 in
theorem slip_M {d : Nat} {σ : zSt} {K : Option Value → zSt → Prop} {n m : Nat} (hI : zQI (kR 30 52) σ.2.2) (hn : σ.1 30 0 = nI n) (hn10 : n ≤ 10) (hB : zHB n (σ.1 31) (σ.1 32)) (hfb : zBt 0 16 (σ.1 30 8)) (hs : σ.1 30 5 = nI m) (hm : m ≤ 8) (hE : ∀ i, i < m → ∃ e, σ.1 35 i = nI e ∧ e < n) (hS : ∀ i, i < m → zBt 0 8 (σ.1 36 i)) (hNot : ¬ m ≤ 4 → K (some (.int (-3))) σ) (hNone : m ≤ 4 → ∀ τ, zOnly zfMh σ τ → ¬ zHo n (σ.1 31) (σ.1 32) (σ.1 30 8) (σ.1 35) (σ.1 36) m → K (some (.int (-1))) τ) (hOk : m ≤ 4 → zHo n (σ.1 31) (σ.1 32) (σ.1 30 8) (σ.1 35) (σ.1 36) m → ∀ τ r, zOnly zfMh σ τ → r ≤ 8 → (r = 0 ∨ zHw n (σ.1 31) (σ.1 32) (σ.1 30 8) (σ.1 35) (σ.1 36) m (nI r)) → (∀ j, r < j → j ≤ 8 → ¬ zHw n (σ.1 31) (σ.1 32) (σ.1 30 8) (σ.1 35) (σ.1 36) m (nI j)) → K (some (.int (nI r))) τ) : zSp (d + 5) mX9_slip [.ref 30] σ K := by
  refine ⟨⟨by decide, Nat.le_of_ble_eq_true rfl⟩, fun V hV => ?_⟩
  have hmi := nI_toInt (show m < 2 ^ 31 by omega)
  refine zq (σ := σ) hV hI rfl 4 ?_
  show ((σ.1 30 5) ≤ 4 → V 11 [(0, .ref 30)] [] σ) ∧ (¬ (σ.1 30 5) ≤ 4 → V 8 [(0, .ref 30)] [] σ)
  refine ⟨fun h_5 => ?_, fun h_5 => ?_⟩
  · skip
    have h4 : m ≤ 4 := by
      have e4_z : (4 : Int32).toInt = 4 := rfl
      rw [zle, hs, hmi] at h_5
      omega
    refine zq (σ := σ) hV hI rfl 3 ?_
    show zSp _ 160 [.ref 30, .int 0] σ (fun r_z σ' => σ'.2.2.2 = σ.2.2.2 + zAl 160 → V 16 [(0, .ref 30)] (r_z.toList ++ []) σ')
    refine holdBy_M hI hn hn10 hB hfb hs hm hE hS h4 (fun φ hf hq _ => ?_) (fun φ hf hq _ => ?_)
    · skip
      rw [zHw_0 hS] at hq
      have hIφ := zQI_eq hI hf.2.2
      have hnφ : φ.2.2.2 = σ.2.2.2 := congrArg Prod.snd hf.2.2
      refine zq (σ := φ) hV hIφ hnφ 1 ?_
      show (¬ (1 : Int32) = 0 → V 21 [(0, .ref 30)] [] φ) ∧ (¬ (¬ (1 : Int32) = 0) → V 19 [(0, .ref 30)] [] φ)
      refine ⟨fun _ => ?_, fun hc_z => absurd (by decide) hc_z⟩
      refine zq (σ := φ) hV hIφ hnφ 4 ?_
      show V 25 [(2, .int 1), (1, .int 0), (0, .ref 30)] [] φ
      have hq0 := hq
      have hf1 := hf
      refine zwk hV [2, 1, 0] rfl ?_
      have Hk : ∀ (r_z : Nat) (k_z b_z : Nat) (τ : zSt), k_z + r_z = 9 → b_z < k_z → 1 ≤ k_z → zOnly zfMh σ τ → (b_z = 0 ∨ zHw n (σ.1 31) (σ.1 32) (σ.1 30 8) (σ.1 35) (σ.1 36) m (nI b_z)) → (∀ j_z, b_z < j_z → j_z < k_z → ¬ zHw n (σ.1 31) (σ.1 32) (σ.1 30 8) (σ.1 35) (σ.1 36) m (nI j_z)) → V 25 [(0, .ref 30), (1, .int (nI b_z)), (2, .int (nI k_z))] [] τ := by
        intro r_z
        induction r_z with
        | zero =>
          intro k_z b_z τ hkr hbk hk1 ht hbe hno
          have hIτ := zQI_eq hI ht.2.2
          have hnτ : τ.2.2.2 = σ.2.2.2 := congrArg Prod.snd ht.2.2
          have e31_z : τ.1 31 = σ.1 31 := funext fun j_z => ht.1 31 j_z rfl
          have e32 : τ.1 32 = σ.1 32 := funext fun j_z => ht.1 32 j_z rfl
          have e35 : τ.1 35 = σ.1 35 := funext fun j_z => ht.1 35 j_z rfl
          have e36 : τ.1 36 = σ.1 36 := funext fun j_z => ht.1 36 j_z rfl
          have e8 : τ.1 30 8 = σ.1 30 8 := ht.1 30 8 rfl
          refine zq (σ := τ) hV hIτ hnτ 3 ?_
          show (9 ≤ (nI k_z) → V 51 [(0, .ref 30), (1, .int (nI b_z)), (2, .int (nI k_z))] [] τ) ∧ (¬ 9 ≤ (nI k_z) → V 31 [(0, .ref 30), (1, .int (nI b_z)), (2, .int (nI k_z))] [] τ)
          refine ⟨fun _ => ?_, fun hc_z => absurd (show (9 : Int32) ≤ nI k_z by rw [show k_z = 9 by omega]; decide) hc_z⟩
          refine zq (σ := τ) hV hIτ hnτ 2 ?_
          show K (some (.int (nI b_z))) τ
          exact hOk h4 hq0 τ b_z ht (by omega) hbe (fun j_z h1 h2 => hno j_z h1 (by omega))
        | succ r_z ihk =>
          intro k_z b_z τ hkr hbk hk1 ht hbe hno
          have hIτ := zQI_eq hI ht.2.2
          have hnτ : τ.2.2.2 = σ.2.2.2 := congrArg Prod.snd ht.2.2
          have e31_z : τ.1 31 = σ.1 31 := funext fun j_z => ht.1 31 j_z rfl
          have e32 : τ.1 32 = σ.1 32 := funext fun j_z => ht.1 32 j_z rfl
          have e35 : τ.1 35 = σ.1 35 := funext fun j_z => ht.1 35 j_z rfl
          have e36 : τ.1 36 = σ.1 36 := funext fun j_z => ht.1 36 j_z rfl
          have e8 : τ.1 30 8 = σ.1 30 8 := ht.1 30 8 rfl
          refine zq (σ := τ) hV hIτ hnτ 3 ?_
          show (9 ≤ (nI k_z) → V 51 [(0, .ref 30), (1, .int (nI b_z)), (2, .int (nI k_z))] [] τ) ∧ (¬ 9 ≤ (nI k_z) → V 31 [(0, .ref 30), (1, .int (nI b_z)), (2, .int (nI k_z))] [] τ)
          refine ⟨fun hc_z => absurd hc_z (show ¬ nI 9 ≤ nI k_z from nI_ge (by omega) (by decide)), fun _ => ?_⟩
          refine zq (σ := τ) hV hIτ hnτ 3 ?_
          show zSp _ 160 [.ref 30, .int (nI k_z)] τ (fun r_z σ' => σ'.2.2.2 = τ.2.2.2 + zAl 160 → V 36 [(0, .ref 30), (1, .int (nI b_z)), (2, .int (nI k_z))] (r_z.toList ++ []) σ')
          refine holdBy_M hIτ ((ht.1 30 0 rfl).trans hn) hn10 (by rw [e31_z, e32]; exact hB) (by rw [e8]; exact hfb) ((ht.1 30 5 rfl).trans hs) hm (by rw [e35]; exact hE) (by rw [e36]; exact hS) h4 (fun φ hf0 hq _ => ?_) (fun φ hf0 hq _ => ?_)
          · skip
            have hf := ht.tr hf0
            rw [e31_z, e32, e8, e35, e36] at hq
            have hIφ := zQI_eq hI hf.2.2
            have hnφ : φ.2.2.2 = σ.2.2.2 := congrArg Prod.snd hf.2.2
            refine zq (σ := φ) hV hIφ hnφ 1 ?_
            show ((1 : Int32) = 0 → V 43 [(0, .ref 30), (1, .int (nI b_z)), (2, .int (nI k_z))] [] φ) ∧ (¬ (1 : Int32) = 0 → V 39 [(0, .ref 30), (1, .int (nI b_z)), (2, .int (nI k_z))] [] φ)
            refine ⟨fun hc_z => absurd hc_z (by decide), fun _ => ?_⟩
            refine zq (σ := φ) hV hIφ hnφ 5 ?_
            show V 25 [(2, .int ((nI k_z) + 1)), (1, .int (nI k_z)), (0, .ref 30)] [] φ
            refine zwk hV [2, 1, 0] rfl ?_
            rw [nI_1]
            refine ihk (k_z + 1) k_z φ (by omega) (by omega) (by omega) hf (Or.inr hq) (fun j_z h1 h2 => absurd h1 (by omega))
          · skip
            have hf := ht.tr hf0
            rw [e31_z, e32, e8, e35, e36] at hq
            have hIφ := zQI_eq hI hf.2.2
            have hnφ : φ.2.2.2 = σ.2.2.2 := congrArg Prod.snd hf.2.2
            refine zq (σ := φ) hV hIφ hnφ 1 ?_
            show ((0 : Int32) = 0 → V 43 [(0, .ref 30), (1, .int (nI b_z)), (2, .int (nI k_z))] [] φ) ∧ (¬ (0 : Int32) = 0 → V 39 [(0, .ref 30), (1, .int (nI b_z)), (2, .int (nI k_z))] [] φ)
            refine ⟨fun _ => ?_, fun hc_z => absurd (by decide) hc_z⟩
            refine zq (σ := φ) hV hIφ hnφ 4 ?_
            show V 25 [(2, .int ((nI k_z) + 1)), (1, .int (nI b_z)), (0, .ref 30)] [] φ
            refine zwk hV [2, 1, 0] rfl ?_
            rw [nI_1]
            refine ihk (k_z + 1) b_z φ (by omega) (by omega) (by omega) hf hbe (fun j_z h1 h2 => ?_)
            by_cases e_z : j_z = k_z
            · rw [e_z]; exact hq
            · exact hno j_z h1 (by omega)
      exact Hk 8 1 0 φ (by omega) (by omega) (by omega) hf (Or.inl rfl) (fun j_z h1 h2 => absurd h1 (by omega))
    · skip
      rw [zHw_0 hS] at hq
      have hIφ := zQI_eq hI hf.2.2
      have hnφ : φ.2.2.2 = σ.2.2.2 := congrArg Prod.snd hf.2.2
      refine zq (σ := φ) hV hIφ hnφ 1 ?_
      show (¬ (0 : Int32) = 0 → V 21 [(0, .ref 30)] [] φ) ∧ (¬ (¬ (0 : Int32) = 0) → V 19 [(0, .ref 30)] [] φ)
      refine ⟨fun hc_z => absurd hc_z (by decide), fun _ => ?_⟩
      refine zq (σ := φ) hV hIφ hnφ 2 ?_
      show K (some (.int (-1))) φ
      exact hNone h4 φ hf hq
  · skip
    refine zq (σ := σ) hV hI rfl 2 ?_
    show K (some (.int (-3))) σ
    exact hNot (fun q_z => h_5 (by rw [zle, hs, hmi]; have e4_z : (4 : Int32).toInt = 4 := rfl; omega))
