/-- ways that are not yet the least -/
def zIw (C : Nat → Int32) (m p : Nat) (D : Nat → Int32) : Prop := (D p).toInt = 0 ∧ (∀ j, j < m → 0 ≤ (D j).toInt ∧ (D j).toInt ≤ 100000000) ∧ (∀ j, j < m → j ≠ p → (D j).toInt < 100000000 → ∃ k, k < m ∧ (D k).toInt + (C (k * 10 + j)).toInt ≤ (D j).toInt)
def zRlx (C D : Nat → Int32) (k j : Nat) : Prop := (D j).toInt ≤ (D k).toInt + (C (k * 10 + j)).toInt
/-- the least ways -/
def zFxd (C : Nat → Int32) (m p : Nat) (D : Nat → Int32) : Prop := zIw C m p D ∧ ∀ k j, k < m → j < m → zRlx C D k j
def zCok (C : Nat → Int32) (m : Nat) : Prop := ∀ i j, i < m → j < m → 1 ≤ (C (i * 10 + j)).toInt ∧ (C (i * 10 + j)).toInt ≤ 100000000
def zSm (D : Nat → Int32) : Nat → Int
  | 0 => 0
  | j + 1 => zSm D j + (D j).toInt
theorem zSm_nn {D : Nat → Int32} : ∀ {m : Nat}, (∀ j, j < m → 0 ≤ (D j).toInt) → 0 ≤ zSm D m
  | 0, _ => Int.le_refl _
  | m + 1, h => by
    have h1 := zSm_nn (m := m) (fun j hj => h j (by omega))
    have h2 := h m (by omega)
    show 0 ≤ zSm D m + (D m).toInt
    omega
theorem zSm_up {D : Nat → Int32} {j : Nat} {v : Int32} : ∀ {m : Nat}, zSm (upd D j v) m = zSm D m + (if j < m then v.toInt - (D j).toInt else 0)
  | 0 => by rw [if_neg (Nat.not_lt_zero j)]; rfl
  | m + 1 => by
    show zSm (upd D j v) m + (upd D j v m).toInt = zSm D m + (D m).toInt + _
    rw [zSm_up (m := m)]
    unfold upd
    by_cases e : m = j
    · subst e
      rw [if_pos rfl, if_neg (Nat.lt_irrefl m), if_pos (by omega)]; omega
    · rw [if_neg e]
      by_cases c : j < m
      · rw [if_pos c, if_pos (by omega)]; omega
      · rw [if_neg c, if_neg (by omega)]; omega
theorem zIw_up {C D : Nat → Int32} {m p k j : Nat} (hC : zCok C m) (hp : p < m) (h : zIw C m p D) (hk : k < m) (hj : j < m) (hlt : D k + C (k * 10 + j) < D j) : zIw C m p (upd D j (D k + C (k * 10 + j))) ∧ zSm (upd D j (D k + C (k * 10 + j))) m < zSm D m := by
  obtain ⟨h1, h2, h3⟩ := h
  have bk := h2 k hk
  have bj := h2 j hj
  have bc := hC k j hk hj
  have e_z : (D k + C (k * 10 + j)).toInt = (D k).toInt + (C (k * 10 + j)).toInt := zadd (by omega)
  rw [zlt, e_z] at hlt
  have hkj : k ≠ j := fun q_z => by rw [q_z] at hlt bc; omega
  have hjp : j ≠ p := fun q_z => by have h5 := h1; rw [← q_z] at h5; omega
  have hle : ∀ q_z, (upd D j (D k + C (k * 10 + j)) q_z).toInt ≤ (D q_z).toInt := fun q_z => by
    unfold upd
    by_cases c_z : q_z = j
    · rw [if_pos c_z, e_z, c_z]; omega
    · rw [if_neg c_z]; omega
  refine ⟨⟨?_, fun q_z hq => ?_, fun q_z hq hqp hlq => ?_⟩, ?_⟩
  · rw [pk_un (Ne.symm hjp)]; exact h1
  · unfold upd
    by_cases c_z : q_z = j
    · rw [if_pos c_z, e_z]; omega
    · rw [if_neg c_z]; exact h2 q_z hq
  · by_cases c_z : q_z = j
    · refine ⟨k, hk, ?_⟩
      rw [c_z, pk_us, pk_un hkj, e_z]; exact Int.le_refl _
    · rw [pk_un c_z] at hlq ⊢
      obtain ⟨k', hk', h4⟩ := h3 q_z hq hqp hlq
      exact ⟨k', hk', by have := hle k'; omega⟩
  · rw [zSm_up, if_pos hj, e_z]; omega
theorem zx10 {k j : Nat} : 10 * nI k + nI j = nI (k * 10 + j) := by rw [show (10 : Int32) = nI 10 from rfl, pk_mul, nI_add, Nat.mul_comm]
set_option maxRecDepth 8000 in
set_option maxHeartbeats 4000000 in
theorem way_M {d : Nat} {σ : zSt} {K : Option Value → zSt → Prop} {a b : Int32} {m : Nat} (hI : zQI (kR 30 52) σ.2.2) (hs : σ.1 30 25 = nI m) (hm : m ≤ 10) (hC : zCok (σ.1 45) m) (hBad : ¬ (zBt 0 (m - 1) a ∧ zBt 0 (m - 1) b) → K (some (.int (-2))) σ) (hNone : ∀ τ D p q, zOnly (zfa 46) σ τ → a = nI p → p < m → b = nI q → q < m → (zBt 0 (m - 1) a ∧ zBt 0 (m - 1) b) → zFxd (σ.1 45) m p D → ¬ D q < 100000000 → K (some (.int (-1))) τ) (hCost : ∀ τ D p q, zOnly (zfa 46) σ τ → a = nI p → p < m → b = nI q → q < m → (zBt 0 (m - 1) a ∧ zBt 0 (m - 1) b) → zFxd (σ.1 45) m p D → D q < 100000000 → K (some (.int (D q))) τ) : zSp (d + 3) mX9_way [.ref 30, .int a, .int b] σ K := by
  refine ⟨⟨by decide, Nat.le_of_ble_eq_true rfl⟩, fun V hV => ?_⟩
  refine zq (σ := σ) hV hI rfl 3 ?_
  show zSp _ 175 [.ref 30, .int a] σ (fun r_z σ' => σ'.2.2.2 = σ.2.2.2 + zAl 175 → V 5 [(0, .ref 30), (1, .int a), (2, .int b)] (r_z.toList ++ []) σ')
  refine isGrip_M hI hs (by omega) (fun hb1 _ => ?_) (fun hb1 _ => ?_)
  · skip
    refine zq (σ := σ) hV hI rfl 1 ?_
    show ((1 : Int32) = 0 → V 16 [(0, .ref 30), (1, .int a), (2, .int b)] [] σ) ∧ (¬ (1 : Int32) = 0 → V 8 [(0, .ref 30), (1, .int a), (2, .int b)] [] σ)
    refine ⟨fun hc_z => absurd hc_z (by decide), fun _ => ?_⟩
    refine zq (σ := σ) hV hI rfl 3 ?_
    show zSp _ 175 [.ref 30, .int b] σ (fun r_z σ' => σ'.2.2.2 = σ.2.2.2 + zAl 175 → V 13 [(0, .ref 30), (1, .int a), (2, .int b)] (r_z.toList ++ []) σ')
    refine isGrip_M hI hs (by omega) (fun hb2 _ => ?_) (fun hb2 _ => ?_)
    · skip
      refine zq (σ := σ) hV hI rfl 1 ?_
      show (¬ (1 : Int32) = 0 → V 19 [(0, .ref 30), (1, .int a), (2, .int b)] [] σ) ∧ (¬ (¬ (1 : Int32) = 0) → V 16 [(0, .ref 30), (1, .int a), (2, .int b)] [] σ)
      refine ⟨fun _ => ?_, fun hc_z => absurd (by decide) hc_z⟩
      obtain ⟨p_z, hp, hp2, _⟩ := zNat (x := a) (by unfold zBt at hb1; omega)
      have hpm : p_z < m := by unfold zBt at hb1; omega
      obtain ⟨q0, hq0, hq02, _⟩ := zNat (x := b) (by unfold zBt at hb2; omega)
      have hq0m : q0 < m := by unfold zBt at hb2; omega
      refine zq (σ := σ) hV hI rfl 2 ?_
      show V 21 [(3, .int 0), (0, .ref 30), (1, .int a), (2, .int b)] [] σ
      refine zwk hV [1, 2, 3, 0] rfl ?_
      have Hk : ∀ (r_z : Nat) (k_z : Nat) (τ : zSt), k_z + r_z = 10 → zOnly (zfa 46) σ τ → (∀ q_z, q_z < k_z → τ.1 46 q_z = if nI q_z = a then 0 else 100000000) → V 21 [(0, .ref 30), (1, .int a), (2, .int b), (3, .int (nI k_z))] [] τ := by
        intro r_z
        induction r_z with
        | zero =>
          intro k_z τ hkr ht hin
          have hIτ := zQI_eq hI ht.2.2
          have hnτ : τ.2.2.2 = σ.2.2.2 := congrArg Prod.snd ht.2.2
          refine zq (σ := τ) hV hIτ hnτ 3 ?_
          show (10 ≤ (nI k_z) → V 50 [(0, .ref 30), (1, .int a), (2, .int b), (3, .int (nI k_z))] [] τ) ∧ (¬ 10 ≤ (nI k_z) → V 27 [(0, .ref 30), (1, .int a), (2, .int b), (3, .int (nI k_z))] [] τ)
          refine ⟨fun _ => ?_, fun hc_z => absurd (show (10 : Int32) ≤ nI k_z by rw [show k_z = 10 by omega]; decide) hc_z⟩
          refine zq (σ := τ) hV hIτ hnτ 2 ?_
          show V 52 [(3, .int 1), (0, .ref 30), (1, .int a), (2, .int b)] [] τ
          refine zwk hV [1, 2, 3, 0] rfl ?_
          have H_z : ∀ (N_z : Nat) (χ : zSt), zOnly (zfa 46) σ χ → zIw (σ.1 45) m p_z (χ.1 46) → zSm (χ.1 46) m < N_z → V 52 [(0, .ref 30), (1, .int a), (2, .int b), (3, .int 1)] [] χ := by
            intro N_z
            induction N_z with
            | zero =>
              intro χ hx hiw hsm
              have := zSm_nn (fun j_z hj => (hiw.2.1 j_z hj).1)
              omega
            | succ N_z ih_z =>
              intro χ hx hiw hsm
              have hIχ := zQI_eq hI hx.2.2
              have hnχ : χ.2.2.2 = σ.2.2.2 := congrArg Prod.snd hx.2.2
              refine zq (σ := χ) hV hIχ hnχ 2 ?_
              show ((1 : Int32) = 0 → V 158 [(0, .ref 30), (1, .int a), (2, .int b), (3, .int 1)] [] χ) ∧ (¬ (1 : Int32) = 0 → V 56 [(0, .ref 30), (1, .int a), (2, .int b), (3, .int 1)] [] χ)
              refine ⟨fun hc_z => absurd hc_z (by decide), fun _ => ?_⟩
              refine zq (σ := χ) hV hIχ hnχ 4 ?_
              show V 61 [(4, .int 0), (3, .int 0), (0, .ref 30), (1, .int a), (2, .int b)] [] χ
              refine zwk hV [2, 3, 4, 1, 0] rfl ?_
              have Hk : ∀ (r_z : Nat) (k_z : Nat) (o : Bool) (τ : zSt), k_z + r_z = m → zOnly (zfa 46) σ τ → zIw (σ.1 45) m p_z (τ.1 46) → ((o = true ∧ zSm (τ.1 46) m < zSm (χ.1 46) m) ∨ (o = false ∧ τ.1 46 = χ.1 46 ∧ ∀ k2_z j2_z, k2_z < k_z → j2_z < m → zRlx (σ.1 45) (χ.1 46) k2_z j2_z)) → V 61 [(0, .ref 30), (1, .int a), (2, .int b), (3, .int (zb o)), (4, .int (nI k_z))] [] τ := by
                intro r_z
                induction r_z with
                | zero =>
                  intro k_z o τ hkr ht hit_z hor
                  have hIτ := zQI_eq hI ht.2.2
                  have hnτ : τ.2.2.2 = σ.2.2.2 := congrArg Prod.snd ht.2.2
                  have hst : τ.1 30 25 = nI m := (ht.1 30 25 rfl).trans hs
                  refine zq (σ := τ) hV hIτ hnτ 4 ?_
                  show ((τ.1 30 25) ≤ (nI k_z) → V 155 [(0, .ref 30), (1, .int a), (2, .int b), (3, .int (zb o)), (4, .int (nI k_z))] [] τ) ∧ (¬ (τ.1 30 25) ≤ (nI k_z) → V 70 [(0, .ref 30), (1, .int a), (2, .int b), (3, .int (zb o)), (4, .int (nI k_z))] [] τ)
                  refine ⟨fun _ => ?_, fun hc_z => absurd (show (τ.1 30 25) ≤ nI k_z by rw [hst]; exact zge_self (by omega)) hc_z⟩
                  refine zq (σ := τ) hV hIτ hnτ 1 ?_
                  show V 52 [(0, .ref 30), (1, .int a), (2, .int b), (3, .int (zb o)), (4, .int (nI k_z))] [] τ
                  refine zwk hV [0, 1, 2, 3] rfl ?_
                  rcases hor with ⟨ho, hlt⟩ | ⟨ho, heq, hrl⟩
                  · subst ho; exact ih_z τ ht hit_z (by omega)
                  · subst ho
                    show V 52 [(0, .ref 30), (1, .int a), (2, .int b), (3, .int 0)] [] τ
                    refine zq (σ := τ) hV hIτ hnτ 2 ?_
                    show ((0 : Int32) = 0 → V 158 [(0, .ref 30), (1, .int a), (2, .int b), (3, .int 0)] [] τ) ∧ (¬ (0 : Int32) = 0 → V 56 [(0, .ref 30), (1, .int a), (2, .int b), (3, .int 0)] [] τ)
                    refine ⟨fun _ => ?_, fun hc_z => absurd (by decide) hc_z⟩
                    refine zq (σ := τ) hV hIτ hnτ 4 ?_
                    show vp_in b 10 ∧ V 164 [(0, .ref 30), (1, .int a), (2, .int b), (3, .int 0)] [.int (τ.1 46 (Int32.toNatClampNeg b))] τ
                    refine ⟨zix (k := q0) hq0 (by omega) (by decide), ?_⟩
                    rw [zcl_k (i := b) (k := q0) hq0 (by omega)]
                    refine zq (σ := τ) hV hIτ hnτ 2 ?_
                    show ((τ.1 46 q0) < 100000000 → V 173 [(0, .ref 30), (1, .int a), (2, .int b), (3, .int 0)] [] τ) ∧ (¬ (τ.1 46 q0) < 100000000 → V 169 [(0, .ref 30), (1, .int a), (2, .int b), (3, .int 0)] [] τ)
                    refine ⟨fun h_166 => ?_, fun h_166 => ?_⟩
                    · skip
                      refine zq (σ := τ) hV hIτ hnτ 4 ?_
                      show vp_in b 10 ∧ V 179 [(0, .ref 30), (1, .int a), (2, .int b), (3, .int 0)] [.int (τ.1 46 (Int32.toNatClampNeg b))] τ
                      refine ⟨zix (k := q0) hq0 (by omega) (by decide), ?_⟩
                      rw [zcl_k (i := b) (k := q0) hq0 (by omega)]
                      refine zq (σ := τ) hV hIτ hnτ 1 ?_
                      show K (some (.int (τ.1 46 q0))) τ
                      have hfx : zFxd (σ.1 45) m p_z (τ.1 46) := ⟨hit_z, fun k2_z j2_z c1_z c2_z => by rw [heq]; exact hrl k2_z j2_z (by omega) c2_z⟩
                      have hv : (zBt 0 (m - 1) a ∧ zBt 0 (m - 1) b) := ⟨hb1, hb2⟩
                      exact hCost τ (τ.1 46) p_z q0 ht hp hpm hq0 hq0m hv hfx h_166
                    · skip
                      refine zq (σ := τ) hV hIτ hnτ 3 ?_
                      show K (some (.int (-1))) τ
                      have hfx : zFxd (σ.1 45) m p_z (τ.1 46) := ⟨hit_z, fun k2_z j2_z c1_z c2_z => by rw [heq]; exact hrl k2_z j2_z (by omega) c2_z⟩
                      have hv : (zBt 0 (m - 1) a ∧ zBt 0 (m - 1) b) := ⟨hb1, hb2⟩
                      exact hNone τ (τ.1 46) p_z q0 ht hp hpm hq0 hq0m hv hfx h_166
                | succ r_z ihk =>
                  intro k_z o τ hkr ht hit_z hor
                  have hIτ := zQI_eq hI ht.2.2
                  have hnτ : τ.2.2.2 = σ.2.2.2 := congrArg Prod.snd ht.2.2
                  have hst : τ.1 30 25 = nI m := (ht.1 30 25 rfl).trans hs
                  refine zq (σ := τ) hV hIτ hnτ 4 ?_
                  show ((τ.1 30 25) ≤ (nI k_z) → V 155 [(0, .ref 30), (1, .int a), (2, .int b), (3, .int (zb o)), (4, .int (nI k_z))] [] τ) ∧ (¬ (τ.1 30 25) ≤ (nI k_z) → V 70 [(0, .ref 30), (1, .int a), (2, .int b), (3, .int (zb o)), (4, .int (nI k_z))] [] τ)
                  refine ⟨fun hc_z => absurd hc_z (show ¬ (τ.1 30 25) ≤ nI k_z by rw [hst]; exact nI_ge (by omega) (by omega)), fun _ => ?_⟩
                  refine zq (σ := τ) hV hIτ hnτ 2 ?_
                  show V 73 [(5, .int 0), (0, .ref 30), (1, .int a), (2, .int b), (3, .int (zb o)), (4, .int (nI k_z))] [] τ
                  refine zwk hV [1, 2, 3, 4, 5, 0] rfl ?_
                  have Hj : ∀ (r_z : Nat) (j_z : Nat) (o : Bool) (υ : zSt), j_z + r_z = m → zOnly (zfa 46) σ υ → zIw (σ.1 45) m p_z (υ.1 46) → ((o = true ∧ zSm (υ.1 46) m < zSm (χ.1 46) m) ∨ (o = false ∧ υ.1 46 = χ.1 46 ∧ ∀ k2_z j2_z, (k2_z < k_z ∨ (k2_z = k_z ∧ j2_z < j_z)) → j2_z < m → zRlx (σ.1 45) (χ.1 46) k2_z j2_z)) → V 73 [(0, .ref 30), (1, .int a), (2, .int b), (3, .int (zb o)), (4, .int (nI k_z)), (5, .int (nI j_z))] [] υ := by
                    intro r_z
                    induction r_z with
                    | zero =>
                      intro j_z o υ hjr hu hiu hou
                      have hIυ := zQI_eq hI hu.2.2
                      have hnυ : υ.2.2.2 = σ.2.2.2 := congrArg Prod.snd hu.2.2
                      have hsu : υ.1 30 25 = nI m := (hu.1 30 25 rfl).trans hs
                      have e45 : υ.1 45 = σ.1 45 := funext fun i_z => hu.1 45 i_z rfl
                      refine zq (σ := υ) hV hIυ hnυ 4 ?_
                      show ((υ.1 30 25) ≤ (nI j_z) → V 149 [(0, .ref 30), (1, .int a), (2, .int b), (3, .int (zb o)), (4, .int (nI k_z)), (5, .int (nI j_z))] [] υ) ∧ (¬ (υ.1 30 25) ≤ (nI j_z) → V 82 [(0, .ref 30), (1, .int a), (2, .int b), (3, .int (zb o)), (4, .int (nI k_z)), (5, .int (nI j_z))] [] υ)
                      refine ⟨fun _ => ?_, fun hc_z => absurd (show (υ.1 30 25) ≤ nI j_z by rw [hsu]; exact zge_self (by omega)) hc_z⟩
                      refine zq (σ := υ) hV hIυ hnυ 2 ?_
                      show V 61 [(4, .int ((nI k_z) + 1)), (0, .ref 30), (1, .int a), (2, .int b), (3, .int (zb o)), (5, .int (nI j_z))] [] υ
                      refine zwk hV [1, 2, 3, 4, 0] rfl ?_
                      rw [nI_1]
                      exact ihk (k_z + 1) o υ (by omega) hu hiu (hou.imp id (fun q_z => ⟨q_z.1, q_z.2.1, fun k2_z j2_z c1_z c2_z => q_z.2.2 k2_z j2_z (by omega) c2_z⟩))
                    | succ r_z ihj =>
                      intro j_z o υ hjr hu hiu hou
                      have hIυ := zQI_eq hI hu.2.2
                      have hnυ : υ.2.2.2 = σ.2.2.2 := congrArg Prod.snd hu.2.2
                      have hsu : υ.1 30 25 = nI m := (hu.1 30 25 rfl).trans hs
                      have e45 : υ.1 45 = σ.1 45 := funext fun i_z => hu.1 45 i_z rfl
                      refine zq (σ := υ) hV hIυ hnυ 4 ?_
                      show ((υ.1 30 25) ≤ (nI j_z) → V 149 [(0, .ref 30), (1, .int a), (2, .int b), (3, .int (zb o)), (4, .int (nI k_z)), (5, .int (nI j_z))] [] υ) ∧ (¬ (υ.1 30 25) ≤ (nI j_z) → V 82 [(0, .ref 30), (1, .int a), (2, .int b), (3, .int (zb o)), (4, .int (nI k_z)), (5, .int (nI j_z))] [] υ)
                      refine ⟨fun hc_z => absurd hc_z (show ¬ (υ.1 30 25) ≤ nI j_z by rw [hsu]; exact nI_ge (by omega) (by omega)), fun _ => ?_⟩
                      refine zq (σ := υ) hV hIυ hnυ 4 ?_
                      show vp_in (nI k_z) 10 ∧ V 89 [(0, .ref 30), (1, .int a), (2, .int b), (3, .int (zb o)), (4, .int (nI k_z)), (5, .int (nI j_z))] [.int (υ.1 46 (Int32.toNatClampNeg (nI k_z)))] υ
                      refine ⟨zix (k := k_z) rfl (by omega) (by decide), ?_⟩
                      rw [zcl_k (i := (nI k_z)) (k := k_z) rfl (by omega)]
                      refine zq (σ := υ) hV hIυ hnυ 8 ?_
                      show vp_in ((10 * (nI k_z)) + (nI j_z)) 100 ∧ V 102 [(0, .ref 30), (1, .int a), (2, .int b), (3, .int (zb o)), (4, .int (nI k_z)), (5, .int (nI j_z))] [.int (υ.1 45 (Int32.toNatClampNeg ((10 * (nI k_z)) + (nI j_z)))), .int (υ.1 46 k_z)] υ
                      refine ⟨zix (k := (k_z * 10 + j_z)) zx10 (by omega) (by decide), ?_⟩
                      rw [zcl_k (i := ((10 * (nI k_z)) + (nI j_z))) (k := (k_z * 10 + j_z)) zx10 (by omega)]
                      refine zq (σ := υ) hV hIυ hnυ 5 ?_
                      show vp_in (nI j_z) 10 ∧ V 110 [(0, .ref 30), (1, .int a), (2, .int b), (3, .int (zb o)), (4, .int (nI k_z)), (5, .int (nI j_z))] [.int (υ.1 46 (Int32.toNatClampNeg (nI j_z))), .int ((υ.1 46 k_z) + (υ.1 45 (k_z * 10 + j_z)))] υ
                      refine ⟨zix (k := j_z) rfl (by omega) (by decide), ?_⟩
                      rw [zcl_k (i := (nI j_z)) (k := j_z) rfl (by omega)]
                      refine zq (σ := υ) hV hIυ hnυ 1 ?_
                      show ((υ.1 46 j_z) ≤ ((υ.1 46 k_z) + (υ.1 45 (k_z * 10 + j_z))) → V 143 [(0, .ref 30), (1, .int a), (2, .int b), (3, .int (zb o)), (4, .int (nI k_z)), (5, .int (nI j_z))] [] υ) ∧ (¬ (υ.1 46 j_z) ≤ ((υ.1 46 k_z) + (υ.1 45 (k_z * 10 + j_z))) → V 113 [(0, .ref 30), (1, .int a), (2, .int b), (3, .int (zb o)), (4, .int (nI k_z)), (5, .int (nI j_z))] [] υ)
                      refine ⟨fun h_110 => ?_, fun h_110 => ?_⟩
                      · skip
                        refine zq (σ := υ) hV hIυ hnυ 2 ?_
                        show V 73 [(5, .int ((nI j_z) + 1)), (0, .ref 30), (1, .int a), (2, .int b), (3, .int (zb o)), (4, .int (nI k_z))] [] υ
                        refine zwk hV [1, 2, 3, 4, 5, 0] rfl ?_
                        rw [nI_1]
                        refine ihj (j_z + 1) o υ (by omega) hu hiu (hou.imp id (fun q_z => ⟨q_z.1, q_z.2.1, fun k2_z j2_z c1_z c2_z => ?_⟩))
                        by_cases e_z : k2_z = k_z ∧ j2_z = j_z
                        · rw [e_z.1, e_z.2]; unfold zRlx
                          rw [e45, q_z.2.1] at h_110
                          have bk := hiw.2.1 k_z (by omega)
                          have bc := hC k_z j_z (by omega) (by omega)
                          rw [zle, zadd (by omega)] at h_110
                          exact h_110
                        · exact q_z.2.2 k2_z j2_z (by omega) c2_z
                      · skip
                        refine zq (σ := υ) hV hIυ hnυ 7 ?_
                        show vp_in (nI k_z) 10 ∧ V 126 [(0, .ref 30), (1, .int a), (2, .int b), (3, .int (zb o)), (4, .int (nI k_z)), (5, .int (nI j_z))] [.int (υ.1 46 (Int32.toNatClampNeg (nI k_z))), .int (nI j_z), .ref 46] υ
                        refine ⟨zix (k := k_z) rfl (by omega) (by decide), ?_⟩
                        rw [zcl_k (i := (nI k_z)) (k := k_z) rfl (by omega)]
                        refine zq (σ := υ) hV hIυ hnυ 8 ?_
                        show vp_in ((10 * (nI k_z)) + (nI j_z)) 100 ∧ V 139 [(0, .ref 30), (1, .int a), (2, .int b), (3, .int (zb o)), (4, .int (nI k_z)), (5, .int (nI j_z))] [.int (υ.1 45 (Int32.toNatClampNeg ((10 * (nI k_z)) + (nI j_z)))), .int (υ.1 46 k_z), .int (nI j_z), .ref 46] υ
                        refine ⟨zix (k := (k_z * 10 + j_z)) zx10 (by omega) (by decide), ?_⟩
                        rw [zcl_k (i := ((10 * (nI k_z)) + (nI j_z))) (k := (k_z * 10 + j_z)) zx10 (by omega)]
                        refine zq (σ := υ) hV hIυ hnυ 2 ?_
                        show vp_in (nI j_z) 10 ∧ V 141 [(0, .ref 30), (1, .int a), (2, .int b), (3, .int (zb o)), (4, .int (nI k_z)), (5, .int (nI j_z))] [] (zuI υ 46 (Int32.toNatClampNeg (nI j_z)) ((υ.1 46 k_z) + (υ.1 45 (k_z * 10 + j_z))))
                        refine ⟨zix (k := j_z) rfl (by omega) (by decide), ?_⟩
                        rw [zcl_k (i := (nI j_z)) (k := j_z) rfl (by omega)]
                        refine zq (σ := (zuI υ 46 j_z ((υ.1 46 k_z) + (υ.1 45 (k_z * 10 + j_z))))) hV hIυ hnυ 4 ?_
                        show V 73 [(5, .int ((nI j_z) + 1)), (3, .int 1), (0, .ref 30), (1, .int a), (2, .int b), (4, .int (nI k_z))] [] (zuI υ 46 j_z ((υ.1 46 k_z) + (υ.1 45 (k_z * 10 + j_z))))
                        refine zwk hV [2, 3, 4, 1, 5, 0] rfl ?_
                        rw [nI_1]
                        rw [e45] at h_110 ⊢
                        obtain ⟨w1_z, w2_z⟩ := zIw_up hC hpm hiu (show k_z < m by omega) (show j_z < m by omega) (Int32.not_le.mp h_110)
                        have e46 : (zuI υ 46 j_z (υ.1 46 k_z + σ.1 45 (k_z * 10 + j_z))).1 46 = upd (υ.1 46) j_z (υ.1 46 k_z + σ.1 45 (k_z * 10 + j_z)) := rfl
                        refine ihj (j_z + 1) true _ (by omega) (hu.uI rfl) (by rw [e46]; exact w1_z) (Or.inl ⟨rfl, ?_⟩)
                        rw [e46]
                        rcases hou with c_z | c_z
                        · have := c_z.2; omega
                        · rw [c_z.2.1] at w2_z ⊢; exact w2_z
                  exact Hj m 0 o τ (by omega) ht hit_z (hor.imp id (fun q_z => ⟨q_z.1, q_z.2.1, fun k2_z j2_z c1_z c2_z => q_z.2.2 k2_z j2_z (by omega) c2_z⟩))
              exact Hk m 0 false χ (by omega) hx hiw (Or.inr ⟨rfl, rfl, fun k2_z j2_z c1_z => absurd c1_z (Nat.not_lt_zero k2_z)⟩)
          have hin2 : ∀ j_z, j_z < 10 → τ.1 46 j_z = if nI j_z = a then 0 else 100000000 := fun j_z hj => hin j_z (by omega)
          have f1_z : (100000000 : Int32).toInt = 100000000 := rfl
          have f0_z : (0 : Int32).toInt = 0 := rfl
          have hiw : zIw (σ.1 45) m p_z (τ.1 46) := by
            refine ⟨?_, fun j_z hj => ?_, fun j_z hj hjp hlt => ?_⟩
            · rw [hin2 p_z (by omega), if_pos hp.symm]; exact f0_z
            · rw [hin2 j_z (by omega)]; split
              · rw [f0_z]; omega
              · rw [f1_z]; omega
            · rw [hin2 j_z (by omega), if_neg (fun c_z => hjp ((nI_eq (by omega) (by omega)).mp (c_z.trans hp))), f1_z] at hlt; omega
          exact H_z ((zSm (τ.1 46) m).toNat + 1) τ ht hiw (by omega)
        | succ r_z ihk =>
          intro k_z τ hkr ht hin
          have hIτ := zQI_eq hI ht.2.2
          have hnτ : τ.2.2.2 = σ.2.2.2 := congrArg Prod.snd ht.2.2
          refine zq (σ := τ) hV hIτ hnτ 3 ?_
          show (10 ≤ (nI k_z) → V 50 [(0, .ref 30), (1, .int a), (2, .int b), (3, .int (nI k_z))] [] τ) ∧ (¬ 10 ≤ (nI k_z) → V 27 [(0, .ref 30), (1, .int a), (2, .int b), (3, .int (nI k_z))] [] τ)
          refine ⟨fun hc_z => absurd hc_z (show ¬ nI 10 ≤ nI k_z from nI_ge (by omega) (by decide)), fun _ => ?_⟩
          refine zq (σ := τ) hV hIτ hnτ 6 ?_
          show (¬ (nI k_z) = a → V 41 [(0, .ref 30), (1, .int a), (2, .int b), (3, .int (nI k_z))] [.int (nI k_z), .ref 46] τ) ∧ (¬ (¬ (nI k_z) = a) → V 37 [(0, .ref 30), (1, .int a), (2, .int b), (3, .int (nI k_z))] [.int (nI k_z), .ref 46] τ)
          refine ⟨fun h_34 => ?_, fun h_34 => ?_⟩
          · skip
            refine zq (σ := τ) hV hIτ hnτ 2 ?_
            show vp_in (nI k_z) 10 ∧ V 44 [(0, .ref 30), (1, .int a), (2, .int b), (3, .int (nI k_z))] [] (zuI τ 46 (Int32.toNatClampNeg (nI k_z)) 100000000)
            refine ⟨zix (k := k_z) rfl (by omega) (by decide), ?_⟩
            rw [zcl_k (i := (nI k_z)) (k := k_z) rfl (by omega)]
            refine zq (σ := (zuI τ 46 k_z 100000000)) hV hIτ hnτ 2 ?_
            show V 21 [(3, .int ((nI k_z) + 1)), (0, .ref 30), (1, .int a), (2, .int b)] [] (zuI τ 46 k_z 100000000)
            refine zwk hV [1, 2, 3, 0] rfl ?_
            rw [nI_1]
            refine ihk (k_z + 1) _ (by omega) (ht.uI rfl) (fun q_z hq => ?_)
            rw [zuI_get]
            by_cases e_z : q_z = k_z
            · subst e_z; rw [if_pos ⟨rfl, rfl⟩]; first | (rw [if_pos h_34]) | (rw [if_neg h_34])
            · rw [if_neg (fun y_z => e_z y_z.2)]; exact hin q_z (by omega)
          · skip
            have h_34 := Classical.not_not.mp h_34
            refine zq (σ := τ) hV hIτ hnτ 3 ?_
            show vp_in (nI k_z) 10 ∧ V 44 [(0, .ref 30), (1, .int a), (2, .int b), (3, .int (nI k_z))] [] (zuI τ 46 (Int32.toNatClampNeg (nI k_z)) 0)
            refine ⟨zix (k := k_z) rfl (by omega) (by decide), ?_⟩
            rw [zcl_k (i := (nI k_z)) (k := k_z) rfl (by omega)]
            refine zq (σ := (zuI τ 46 k_z 0)) hV hIτ hnτ 2 ?_
            show V 21 [(3, .int ((nI k_z) + 1)), (0, .ref 30), (1, .int a), (2, .int b)] [] (zuI τ 46 k_z 0)
            refine zwk hV [1, 2, 3, 0] rfl ?_
            rw [nI_1]
            refine ihk (k_z + 1) _ (by omega) (ht.uI rfl) (fun q_z hq => ?_)
            rw [zuI_get]
            by_cases e_z : q_z = k_z
            · subst e_z; rw [if_pos ⟨rfl, rfl⟩]; first | (rw [if_pos h_34]) | (rw [if_neg h_34])
            · rw [if_neg (fun y_z => e_z y_z.2)]; exact hin q_z (by omega)
      exact Hk 10 0 σ rfl zOnly.rf (fun q_z hq => absurd hq (Nat.not_lt_zero q_z))
    · skip
      refine zq (σ := σ) hV hI rfl 1 ?_
      show (¬ (0 : Int32) = 0 → V 19 [(0, .ref 30), (1, .int a), (2, .int b)] [] σ) ∧ (¬ (¬ (0 : Int32) = 0) → V 16 [(0, .ref 30), (1, .int a), (2, .int b)] [] σ)
      refine ⟨fun hc_z => absurd hc_z (by decide), fun _ => ?_⟩
      refine zq (σ := σ) hV hI rfl 2 ?_
      show K (some (.int (-2))) σ
      exact hBad (fun q_z => hb2 q_z.2)
  · skip
    refine zq (σ := σ) hV hI rfl 1 ?_
    show ((0 : Int32) = 0 → V 16 [(0, .ref 30), (1, .int a), (2, .int b)] [] σ) ∧ (¬ (0 : Int32) = 0 → V 8 [(0, .ref 30), (1, .int a), (2, .int b)] [] σ)
    refine ⟨fun _ => ?_, fun hc_z => absurd (by decide) hc_z⟩
    refine zq (σ := σ) hV hI rfl 2 ?_
    show K (some (.int (-2))) σ
    exact hBad (fun q_z => hb1 q_z.1)
