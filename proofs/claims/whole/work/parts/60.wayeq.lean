/-! both ways' searches give one answer -/
def zRk (D : Nat → Int32) (x : Int) : Nat → Nat
  | 0 => 0
  | k + 1 => zRk D x k + (if (D k).toInt < x then 1 else 0)
theorem zRk_le {D : Nat → Int32} {x y : Int} (h : x ≤ y) : ∀ m, zRk D x m ≤ zRk D y m
  | 0 => Nat.le_refl _
  | m + 1 => by
    have := zRk_le (D := D) h m
    show zRk D x m + (if (D m).toInt < x then 1 else 0) ≤ zRk D y m + (if (D m).toInt < y then 1 else 0)
    by_cases c : (D m).toInt < x
    · rw [if_pos c, if_pos (by omega)]; omega
    · rw [if_neg c]; split <;> omega
theorem zRk_lt {D : Nat → Int32} {x y : Int} {k : Nat} (h1 : x ≤ (D k).toInt) (h2 : (D k).toInt < y) : ∀ m, k < m → zRk D x m < zRk D y m
  | 0, hk => absurd hk (Nat.not_lt_zero k)
  | m + 1, hk => by
    show zRk D x m + (if (D m).toInt < x then 1 else 0) < zRk D y m + (if (D m).toInt < y then 1 else 0)
    by_cases e : k = m
    · subst e
      have := zRk_le (D := D) (show x ≤ y by omega) k
      rw [if_neg (by omega), if_pos h2]; omega
    · have := zRk_lt (D := D) h1 h2 m (by omega)
      by_cases c : (D m).toInt < x
      · rw [if_pos c, if_pos (by omega)]; omega
      · rw [if_neg c]; split <;> omega
theorem zRk_b {D : Nat → Int32} {x : Int} : ∀ m, zRk D x m ≤ m
  | 0 => Nat.le_refl _
  | m + 1 => by
    have := zRk_b (D := D) (x := x) m
    show zRk D x m + (if (D m).toInt < x then 1 else 0) ≤ m + 1
    split <;> omega
theorem zRk_self {D : Nat → Int32} {j : Nat} : ∀ m, j < m → zRk D (D j).toInt m < m
  | 0, hk => absurd hk (Nat.not_lt_zero j)
  | m + 1, hk => by
    show zRk D (D j).toInt m + (if (D m).toInt < (D j).toInt then 1 else 0) < m + 1
    by_cases e : j = m
    · subst e
      have := zRk_b (D := D) (x := (D j).toInt) j
      rw [if_neg (by omega)]; omega
    · have := zRk_self (D := D) (j := j) m (by omega)
      split <;> omega
/-- the component's costs and the reference's -/
def zCC (C C' : Nat → Int32) (m : Nat) : Prop := ∀ i j, i < m → j < m → (C (i * 10 + j) = 0 ∧ (C' (i * 10 + j)).toInt = 100000000) ∨ (C (i * 10 + j) = C' (i * 10 + j) ∧ 1 ≤ (C' (i * 10 + j)).toInt ∧ (C' (i * 10 + j)).toInt ≤ 1000)
theorem zFx_pred {C C' D : Nat → Int32} {m p j : Nat} (hc : zCC C C' m) (h : zFxd C' m p D) (hj : j < m) (hjp : j ≠ p) (hlt : (D j).toInt < 100000000) : ∃ k, k < m ∧ ¬ C (k * 10 + j) = 0 ∧ (D j).toInt = (D k).toInt + (C (k * 10 + j)).toInt ∧ 1 ≤ (C (k * 10 + j)).toInt ∧ (C (k * 10 + j)).toInt ≤ 1000 := by
  obtain ⟨⟨h1, h2, h3⟩, h4⟩ := h
  obtain ⟨k_z, hk, h5⟩ := h3 j hj hjp hlt
  have h6 := h4 k_z j hk hj
  unfold zRlx at h6
  have bk := h2 k_z hk
  rcases hc k_z j hk hj with ⟨q1_z, q2_z⟩ | ⟨q1_z, q2_z, q3_z⟩
  · omega
  · refine ⟨k_z, hk, fun c_z => ?_, by rw [q1_z]; omega, by rw [q1_z]; omega, by rw [q1_z]; omega⟩
    rw [q1_z] at c_z; rw [c_z] at q2_z; exact absurd q2_z (by decide)
theorem zFx_fin {C C' D : Nat → Int32} {m p : Nat} (hm : m ≤ 10) (hc : zCC C C' m) (h : zFxd C' m p D) : ∀ (N j : Nat), j < m → (D j).toInt < 100000000 → zRk D (D j).toInt m < N → (D j).toInt ≤ 1000 * zRk D (D j).toInt m := by
  intro N
  induction N with
  | zero => intro j hj _ hN_z; exact absurd hN_z (Nat.not_lt_zero _)
  | succ N ih_z =>
    intro j hj hlt hN_z
    by_cases e_z : j = p
    · have h0 := h.1.1
      rw [e_z, h0]; omega
    · obtain ⟨k_z, hk, _, h1, h2, h3⟩ := zFx_pred hc h hj e_z hlt
      have hr := zRk_lt (D := D) (x := (D k_z).toInt) (y := (D j).toInt) (k := k_z) (Int.le_refl _) (by omega) m hk
      have := ih_z k_z hk (by omega) (by omega)
      omega
def zDm (D : Nat → Int32) (j : Nat) : Int := if (D j).toInt < 100000000 then (D j).toInt else 1048576
def zWi (D W : Nat → Int32) (m : Nat) : Prop := ∀ j, j < m → zDm D j ≤ (W j).toInt ∧ (W j).toInt ≤ 1048576
theorem zDm_fin {C C' D : Nat → Int32} {m p j : Nat} (hm : m ≤ 10) (hc : zCC C C' m) (h : zFxd C' m p D) (hj : j < m) : 0 ≤ zDm D j ∧ zDm D j ≤ 1048576 ∧ ((D j).toInt < 100000000 → (D j).toInt ≤ 9000) := by
  have hs := zRk_self (D := D) (j := j) m hj
  have h0 := h.1.2.1 j hj
  unfold zDm
  by_cases c_z : (D j).toInt < 100000000
  · have := zFx_fin hm hc h (m + 1) j hj c_z (by omega)
    rw [if_pos c_z]
    refine ⟨by omega, by omega, fun _ => by omega⟩
  · rw [if_neg c_z]
    exact ⟨by omega, by omega, fun q_z => absurd q_z c_z⟩
theorem zRx_ok {C C' D W : Nat → Int32} {m p i j : Nat} (hm : m ≤ 10) (hc : zCC C C' m) (h : zFxd C' m p D) (hW : zWi D W m) (hi : i < m) (hj : j < m) : zWi D (zRx C W i j) m ∧ (∀ q, (zRx C W i j q).toInt ≤ (W q).toInt) ∧ (¬ C (i * 10 + j) = 0 → (zRx C W i j j).toInt ≤ (W i).toInt + (C (i * 10 + j)).toInt) := by
  have wi := hW i hi
  have di := zDm_fin hm hc h hi
  have dj := zDm_fin hm hc h hj
  unfold zRx
  by_cases c_z : ¬ C (i * 10 + j) = 0 ∧ W i + C (i * 10 + j) < W j
  · rw [if_pos c_z]
    rcases hc i j hi hj with ⟨q1_z, _⟩ | ⟨q1_z, q2_z, q3_z⟩
    · exact absurd q1_z c_z.1
    · have e_z : (W i + C (i * 10 + j)).toInt = (W i).toInt + (C (i * 10 + j)).toInt := zadd (by rw [q1_z]; omega)
      have c2_z := c_z.2
      rw [zlt, e_z] at c2_z
      have wj := hW j hj
      refine ⟨fun q_z hq => ?_, fun q_z => ?_, fun _ => ?_⟩
      · by_cases y_z : q_z = j
        · rw [y_z, pk_us, e_z]
          refine ⟨?_, by omega⟩
          have hr := h.2 i j hi hj
          unfold zRlx at hr
          rw [q1_z] at c2_z ⊢
          unfold zDm at wi ⊢
          by_cases a1_z : (D i).toInt < 100000000
          · have := di.2.2 a1_z
            rw [if_pos a1_z] at wi
            rw [if_pos (by omega)]; omega
          · rw [if_neg a1_z] at wi; omega
        · rw [pk_un y_z]; exact hW q_z hq
      · by_cases y_z : q_z = j
        · rw [y_z, pk_us, e_z]; omega
        · rw [pk_un y_z]; exact Int.le_refl _
      · rw [pk_us, e_z]; exact Int.le_refl _
  · rw [if_neg c_z]
    refine ⟨hW, fun q_z => Int.le_refl _, fun hz => ?_⟩
    have c2_z : ¬ W i + C (i * 10 + j) < W j := fun y_z => c_z ⟨hz, y_z⟩
    rcases hc i j hi hj with ⟨q1_z, _⟩ | ⟨q1_z, q2_z, q3_z⟩
    · exact absurd q1_z hz
    · have e_z : (W i + C (i * 10 + j)).toInt = (W i).toInt + (C (i * 10 + j)).toInt := zadd (by rw [q1_z]; omega)
      rw [zlt, e_z] at c2_z; omega
theorem zRj_ok {C C' D : Nat → Int32} {m p i : Nat} (hm : m ≤ 10) (hc : zCC C C' m) (h : zFxd C' m p D) (hi : i < m) : ∀ (r j : Nat) (W : Nat → Int32), j + r ≤ m → zWi D W m → zWi D (zRj C i r j W) m ∧ (∀ q, (zRj C i r j W q).toInt ≤ (W q).toInt) ∧ (∀ q, j ≤ q → q < j + r → ¬ C (i * 10 + q) = 0 → (zRj C i r j W q).toInt ≤ (W i).toInt + (C (i * 10 + q)).toInt) := by
  intro r
  induction r with
  | zero => intro j W _ hW; exact ⟨hW, fun _ => Int.le_refl _, fun q_z h1 h2 => by omega⟩
  | succ r ih_z =>
    intro j W hj hW
    obtain ⟨a1_z, a2, a3⟩ := zRx_ok (i := i) (j := j) hm hc h hW hi (by omega)
    obtain ⟨b1, b2, b3⟩ := ih_z (j + 1) _ (by omega) a1_z
    refine ⟨b1, fun q_z => ?_, fun q_z h1 h2 hz => ?_⟩
    · have x1_z := a2 q_z
      have x2_z := b2 q_z
      show (zRj C i r (j + 1) (zRx C W i j) q_z).toInt ≤ _
      omega
    · show (zRj C i r (j + 1) (zRx C W i j) q_z).toInt ≤ _
      by_cases e_z : q_z = j
      · have x2_z := b2 q_z
        have x3 := a3 (by rw [← e_z]; exact hz)
        rw [e_z] at x2_z ⊢; omega
      · have x3 := b3 q_z (by omega) (by omega) hz
        have x4_z := a2 i
        omega
theorem zRi_ok {C C' D : Nat → Int32} {m p : Nat} (hm : m ≤ 10) (hc : zCC C C' m) (h : zFxd C' m p D) : ∀ (r i : Nat) (W : Nat → Int32), i + r ≤ m → zWi D W m → zWi D (zRi C m r i W) m ∧ (∀ q, (zRi C m r i W q).toInt ≤ (W q).toInt) ∧ (∀ k q, i ≤ k → k < i + r → q < m → ¬ C (k * 10 + q) = 0 → (zRi C m r i W q).toInt ≤ (W k).toInt + (C (k * 10 + q)).toInt) := by
  intro r
  induction r with
  | zero => intro i W _ hW; exact ⟨hW, fun _ => Int.le_refl _, fun k_z q_z h1 h2 => by omega⟩
  | succ r ih_z =>
    intro i W hi_z hW
    obtain ⟨a1_z, a2, a3⟩ := zRj_ok (i := i) hm hc h (by omega) m 0 W (by omega) hW
    obtain ⟨b1, b2, b3⟩ := ih_z (i + 1) _ (by omega) a1_z
    refine ⟨b1, fun q_z => ?_, fun k_z q_z h1 h2 hq hz => ?_⟩
    · have x1_z := a2 q_z
      have x2_z := b2 q_z
      show (zRi C m r (i + 1) (zRj C i m 0 W) q_z).toInt ≤ _
      omega
    · show (zRi C m r (i + 1) (zRj C i m 0 W) q_z).toInt ≤ _
      by_cases e_z : k_z = i
      · have x2_z := b2 q_z
        have x3 := a3 q_z (by omega) (by omega) (by rw [← e_z]; exact hz)
        rw [e_z]; omega
      · have x3 := b3 k_z q_z (by omega) (by omega) hq hz
        have x4_z := a2 k_z
        omega
theorem zRm_ok {C C' D : Nat → Int32} {m p : Nat} (hm : m ≤ 10) (hc : zCC C C' m) (h : zFxd C' m p D) : ∀ (r t : Nat) (W : Nat → Int32), zWi D W m → (∀ j, j < m → (D j).toInt < 100000000 → zRk D (D j).toInt m ≤ t → (W j).toInt ≤ (D j).toInt) → (W p).toInt ≤ 0 → zWi D (zRm C m r W) m ∧ (∀ j, j < m → (D j).toInt < 100000000 → zRk D (D j).toInt m ≤ t + r → (zRm C m r W j).toInt ≤ (D j).toInt) := by
  intro r
  induction r with
  | zero => intro t W hW hU _; exact ⟨hW, hU⟩
  | succ r ih_z =>
    intro t W hW hU h0
    obtain ⟨a1_z, a2, a3⟩ := zRi_ok hm hc h m 0 W (by omega) hW
    obtain ⟨b1, b2⟩ := ih_z (t + 1) _ a1_z (fun j_z hj hlt hr => by
      by_cases e_z : j_z = p
      · have x_z := a2 j_z
        have y_z := h.1.1
        rw [e_z] at x_z ⊢; omega
      · obtain ⟨k_z, hk, hz, h1, h2, h3⟩ := zFx_pred hc h hj e_z hlt
        have hrk := zRk_lt (D := D) (x := (D k_z).toInt) (y := (D j_z).toInt) (k := k_z) (Int.le_refl _) (by omega) m hk
        have x1_z := hU k_z hk (by omega) (by omega)
        have x2_z := a3 k_z j_z (by omega) (by omega) hj hz
        omega) (by have := a2 p; omega)
    exact ⟨b1, fun j_z hj hlt hr => b2 j_z hj hlt (by omega)⟩
theorem zWay_eq {C C' D : Nat → Int32} {m p q : Nat} {a : Int32} (hm : m ≤ 10) (hc : zCC C C' m) (h : zFxd C' m p D) (ha : a = nI p) (hp : p < m) (hq : q < m) : zWay C m a q = if D q < 100000000 then D q else -1 := by
  have f1_z : (1048576 : Int32).toInt = 1048576 := rfl
  have f2_z : (100000000 : Int32).toInt = 100000000 := rfl
  have f0_z : (0 : Int32).toInt = 0 := rfl
  have w0_z : ∀ j_z, j_z < m → zW0 a j_z = if j_z = p then 0 else 1048576 := fun j_z hj => by
    unfold zW0
    rw [ha]
    by_cases e_z : j_z = p
    · rw [if_pos e_z, e_z, if_pos rfl]
    · rw [if_neg e_z, if_neg (fun y_z => e_z ((nI_eq (by omega) (by omega)).mp y_z))]
  have hW : zWi D (zW0 a) m := fun j_z hj => by
    have dj := zDm_fin hm hc h hj
    rw [w0_z j_z hj]
    by_cases e_z : j_z = p
    · rw [if_pos e_z, f0_z]
      have y_z := h.1.1
      unfold zDm
      rw [e_z, if_pos (by omega)]; omega
    · rw [if_neg e_z, f1_z]; omega
  obtain ⟨b1, b2⟩ := zRm_ok hm hc h (m - 1) 0 (zW0 a) hW (fun j_z hj hlt hr => by
    rw [w0_z j_z hj]
    by_cases e_z : j_z = p
    · have y_z := h.1.1
      rw [if_pos e_z, e_z, f0_z]; omega
    · obtain ⟨k_z, hk, hz, h1, h2, h3⟩ := zFx_pred hc h hj e_z hlt
      have hrk := zRk_lt (D := D) (x := (D k_z).toInt) (y := (D j_z).toInt) (k := k_z) (Int.le_refl _) (by omega) m hk
      omega) (by rw [w0_z p hp, if_pos rfl, f0_z]; omega)
  have x1_z := b1 q hq
  have x3 := zDm_fin hm hc h hq
  have hs := zRk_self (D := D) (j := q) m hq
  unfold zWay
  unfold zDm at x1_z x3
  by_cases c_z : D q < 100000000
  · rw [if_pos c_z]
    rw [zlt, f2_z] at c_z
    rw [if_pos c_z] at x1_z
    have x2_z := b2 q hq c_z (by omega)
    have x4_z := x3.2.2 c_z
    rw [if_pos (by rw [zlt, f1_z]; omega), zeq]; omega
  · rw [if_neg c_z]
    rw [zlt, f2_z] at c_z
    rw [if_neg c_z] at x1_z
    rw [if_neg (by rw [zlt, f1_z]; omega)]
