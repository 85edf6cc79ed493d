variable {zx : Nat × (Nat → Int32)}
theorem zNz_congr {A B C A' B' C' : Nat → Int64} {m : Nat} (h : ∀ t, t < m → A t = A' t ∧ B t = B' t ∧ C t = C' t) {u v : Nat} (hu : u < m) (hv : v < m) : zX1 A B C u v = zX1 A' B' C' u v ∧ zX2 A B C u v = zX2 A' B' C' u v ∧ zX3 A B C u v = zX3 A' B' C' u v := by
  obtain ⟨a1, a2, a3⟩ := h u hu
  obtain ⟨b1, b2, b3⟩ := h v hv
  simp only [zX1, zX2, zX3, a1, a2, a3, b1, b2, b3, and_self]
theorem zBl_congr {A B C A' B' C' : Nat → Int64} {m : Nat} (h : ∀ t, t < m → A t = A' t ∧ B t = B' t ∧ C t = C' t) (c1 c2 c3 : Int64) : ∀ t, t ≤ m → zBl A B C c1 c2 c3 t = zBl A' B' C' c1 c2 c3 t ∧ zAb A B C c1 c2 c3 t = zAb A' B' C' c1 c2 c3 t := by
  intro t
  induction t with
  | zero => intro _; exact ⟨rfl, rfl⟩
  | succ t ih =>
    intro ht
    obtain ⟨i1, i2⟩ := ih (by omega)
    obtain ⟨a1, a2, a3⟩ := h t (by omega)
    have e : zPr A B C c1 c2 c3 t = zPr A' B' C' c1 c2 c3 t := by unfold zPr; rw [a1, a2, a3]
    simp only [zBl, zAb, i1, i2, e, and_self]
theorem zBe_congr {A B C A' B' C' : Nat → Int64} {m : Nat} (h : ∀ t, t < m → A t = A' t ∧ B t = B' t ∧ C t = C' t) {u v : Nat} (hu : u < m) (hv : v < m) : zBe A B C m u v = zBe A' B' C' m u v ∧ zAe A B C m u v = zAe A' B' C' m u v := by
  obtain ⟨e1, e2, e3⟩ := zNz_congr h hu hv
  unfold zBe zAe
  rw [e1, e2, e3]
  exact ⟨(zBl_congr h _ _ _ m (Nat.le_refl _)).1, (zBl_congr h _ _ _ m (Nat.le_refl _)).2⟩
theorem zGd_congr {A B C A' B' C' : Nat → Int64} {m : Nat} (h : ∀ t, t < m → A t = A' t ∧ B t = B' t ∧ C t = C' t) {u v : Nat} (hu : u < m) (hv : v < m) : (zNz A B C u v ↔ zNz A' B' C' u v) ∧ (zGd A B C m u v ↔ zGd A' B' C' m u v) := by
  obtain ⟨e1, e2, e3⟩ := zNz_congr h hu hv
  obtain ⟨f1, f2⟩ := zBe_congr h hu hv
  unfold zGd zNz
  rw [e1, e2, e3, f1, f2]
  exact ⟨Iff.rfl, Iff.rfl⟩
theorem zHold_congr {A B C A' B' C' : Nat → Int64} {m : Nat} (h : ∀ t, t < m → A t = A' t ∧ B t = B' t ∧ C t = C' t) : zHold A B C m ↔ zHold A' B' C' m := by
  unfold zHold
  constructor
  · rintro ⟨⟨u, v, h1, h2, h3⟩, h4⟩
    exact ⟨⟨u, v, h1, h2, (zGd_congr h (by omega) h2).1.mp h3⟩, fun u v q1 q2 => (zGd_congr h (by omega) q2).2.mp (h4 u v q1 q2)⟩
  · rintro ⟨⟨u, v, h1, h2, h3⟩, h4⟩
    exact ⟨⟨u, v, h1, h2, (zGd_congr h (by omega) h2).1.mpr h3⟩, fun u v q1 q2 => (zGd_congr h (by omega) q2).2.mpr (h4 u v q1 q2)⟩
theorem zFst_congr {A B C A' B' C' : Nat → Int64} {m : Nat} (h : ∀ t, t < m → A t = A' t ∧ B t = B' t ∧ C t = C' t) {u v : Nat} : zFst A B C m u v ↔ zFst A' B' C' m u v := by
  unfold zFst
  constructor
  · rintro ⟨⟨h1, h2, h3, h4⟩, h5⟩
    obtain ⟨f1, f2⟩ := zBe_congr h (u := u) (v := v) (by omega) h2
    exact ⟨⟨h1, h2, (zGd_congr h (by omega) h2).1.mp h3, by rw [← f1, ← f2]; exact h4⟩, fun u' v' q1 q2 q3 => (zGd_congr h (by omega) q2).2.mp (h5 u' v' q1 q2 q3)⟩
  · rintro ⟨⟨h1, h2, h3, h4⟩, h5⟩
    obtain ⟨f1, f2⟩ := zBe_congr h (u := u) (v := v) (by omega) h2
    exact ⟨⟨h1, h2, (zGd_congr h (by omega) h2).1.mpr h3, by rw [f1, f2]; exact h4⟩, fun u' v' q1 q2 q3 => (zGd_congr h (by omega) q2).2.mpr (h5 u' v' q1 q2 q3)⟩
theorem zFst_one {A B C : Nat → Int64} {m u v u' v' : Nat} (h : zFst A B C m u v) (h' : zFst A B C m u' v') : u = u' ∧ v = v' := by
  have k1 : ¬ zBf u v u' v' := fun q => h.1.2.2.2 (h'.2 u v h.1.1 h.1.2.1 q h.1.2.2.1)
  have k2 : ¬ zBf u' v' u v := fun q => h'.1.2.2.2 (h.2 u' v' h'.1.1 h'.1.2.1 q h'.1.2.2.1)
  unfold zBf at k1 k2
  omega
theorem zHold_nF {A B C : Nat → Int64} {m u v : Nat} (h : zHold A B C m) (h' : zFst A B C m u v) : False := h'.1.2.2.2 (h.2 u v h'.1.1 h'.1.2.1 h'.1.2.2.1)
/-- whether fingers hold that stand so -/
def zHo (n : Nat) (X Y : Nat → Int32) (f : Int32) (E S : Nat → Int32) (m : Nat) : Prop := zHold (zl (zT1 n X Y f E)) (zl (zT2 n X Y f E)) (zl (zT3 n X Y f E S)) (zMl f m)
theorem zTok_l {n : Nat} {X Y : Nat → Int32} {f : Int32} {E S : Nat → Int32} {M : Nat} {τ : zSt} (h : zTok n X Y f E S M τ) : ∀ t, t < M → zA11 τ t = zl (zT1 n X Y f E) t ∧ zA12 τ t = zl (zT2 n X Y f E) t ∧ zA13 τ t = zl (zT3 n X Y f E S) t := fun t ht => by
  obtain ⟨h1, h2, h3⟩ := h t ht
  exact ⟨congrArg Int32.toInt64 h1, congrArg Int32.toInt64 h2, congrArg Int32.toInt64 h3⟩
def zfW (a j : Nat) : Bool := (Nat.beq a 10 && Nat.ble 3 j) || (Nat.ble 11 a && Nat.ble a 13)
theorem zfT_W (a j : Nat) (h : zfW a j = false) : zfT a j = false := by
  unfold zfW at h; unfold zfT
  rw [Bool.or_eq_false_iff] at h ⊢
  refine ⟨?_, h.2⟩
  rw [Bool.and_eq_false_iff] at h ⊢
  rcases h.1 with h | h
  · exact Or.inl h
  · refine Or.inr ?_
    by_cases q : j = 3
    · subst q; exact absurd h (by decide)
    · rw [← Bool.not_eq_true]; exact fun e => q (Nat.eq_of_beq_eq_true e)
theorem zfJ_W (a j : Nat) (h : zfW a j = false) : zfJ a j = false := by
  unfold zfW at h; unfold zfJ
  rw [Bool.or_eq_false_iff] at h
  rw [Bool.and_eq_false_iff] at h ⊢
  rcases h.1 with h | h
  · exact Or.inl h
  · refine Or.inr ?_
    rw [← Bool.not_eq_true] at h ⊢
    exact fun e => h (Nat.ble_eq.mpr (Nat.le_trans (by decide) (Nat.le_of_ble_eq_true e)))
theorem zQI_0 {q : (Nat → Nat → Value) × Nat} : zQI (fun _ => false) q := fun a h => Bool.noConfusion h
def zBt (lo hi : Int) (v : Int32) : Prop := lo ≤ v.toInt ∧ v.toInt ≤ hi
theorem zneg_nI {q : Nat} (h : q < 2 ^ 30) : (-(nI q)).toInt = -(q : Int) := by
  rw [Int32.toInt_neg, nI_toInt (by omega)]
  exact Int.bmod_eq_of_le (by omega) (by omega)
set_option maxRecDepth 8000 in
set_option maxHeartbeats 4000000 in
theorem isWithin_ok {d : Nat} {σ : zSt} {K : Option Value → zSt → Prop} {v q : Int32} {k : Nat} (e : q = nI k) (hk : k < 2 ^ 30) (h1 : zBt (-(k : Int)) k v → K (some (.int 1)) σ) (h0 : ¬ zBt (-(k : Int)) k v → K (some (.int 0)) σ) : zSp zx (d + 1) mX8_isWithin [.int v, .int q] σ K := by
  refine ⟨⟨by decide, Nat.le_of_ble_eq_true rfl⟩, fun V hV => ?_⟩
  subst e
  refine zq (σ := σ) hV zQI_0 rfl 4 ?_
  show (v < (-(nI k)) → V 15 [(0, .int v), (1, .int (nI k))] [] σ) ∧ (¬ v < (-(nI k)) → V 6 [(0, .int v), (1, .int (nI k))] [] σ)
  refine ⟨fun h_3 => ?_, fun h_3 => ?_⟩
  · skip
    refine zq (σ := σ) hV zQI_0 rfl 2 ?_
    show ((0 : Int32) = 0 ∨ (0 : Int32) = 1) ∧ K (some (.int 0)) σ
    refine ⟨by decide, ?_⟩
    refine h0 (by
      simp only [zlt, zneg_nI hk, nI_toInt (show k < 2 ^ 31 by omega)] at h_3
      unfold zBt
      omega)
  · skip
    refine zq (σ := σ) hV zQI_0 rfl 3 ?_
    show ((nI k) < v → V 15 [(0, .int v), (1, .int (nI k))] [] σ) ∧ (¬ (nI k) < v → V 11 [(0, .int v), (1, .int (nI k))] [] σ)
    refine ⟨fun h_8 => ?_, fun h_8 => ?_⟩
    · skip
      refine zq (σ := σ) hV zQI_0 rfl 2 ?_
      show ((0 : Int32) = 0 ∨ (0 : Int32) = 1) ∧ K (some (.int 0)) σ
      refine ⟨by decide, ?_⟩
      refine h0 (by
        simp only [zlt, zneg_nI hk, nI_toInt (show k < 2 ^ 31 by omega)] at h_3 h_8
        unfold zBt
        omega)
    · skip
      refine zq (σ := σ) hV zQI_0 rfl 3 ?_
      show ((1 : Int32) = 0 ∨ (1 : Int32) = 1) ∧ K (some (.int 1)) σ
      refine ⟨by decide, ?_⟩
      refine h1 (by
        simp only [zlt, zneg_nI hk, nI_toInt (show k < 2 ^ 31 by omega)] at h_3 h_8
        unfold zBt
        omega)
set_option maxRecDepth 8000 in
set_option maxHeartbeats 4000000 in
theorem isTriplePart_ok {d : Nat} {σ : zSt} {K : Option Value → zSt → Prop} {v : Int32} (h1 : zBt 0 2 v → K (some (.int 1)) σ) (h0 : ¬ (zBt 0 2 v) → K (some (.int 0)) σ) : zSp zx (d + 1) mX8_isTriplePart [.int v] σ K := by
  refine ⟨⟨by decide, Nat.le_of_ble_eq_true rfl⟩, fun V hV => ?_⟩
  refine zq (σ := σ) hV zQI_0 rfl 2 ?_
  show (v < 0 → V 13 [(0, .int v)] [] σ) ∧ (¬ v < 0 → V 4 [(0, .int v)] [] σ)
  refine ⟨fun h_1 => ?_, fun h_1 => ?_⟩
  · skip
    refine zq (σ := σ) hV zQI_0 rfl 2 ?_
    show ((0 : Int32) = 0 ∨ (0 : Int32) = 1) ∧ K (some (.int 0)) σ
    refine ⟨by decide, ?_⟩
    refine h0 (by
      simp only [zlt, zle] at h_1
      unfold zBt
      simp at h_1 ⊢
      omega)
  · skip
    refine zq (σ := σ) hV zQI_0 rfl 3 ?_
    show (2 < v → V 13 [(0, .int v)] [] σ) ∧ (¬ 2 < v → V 9 [(0, .int v)] [] σ)
    refine ⟨fun h_6 => ?_, fun h_6 => ?_⟩
    · skip
      refine zq (σ := σ) hV zQI_0 rfl 2 ?_
      show ((0 : Int32) = 0 ∨ (0 : Int32) = 1) ∧ K (some (.int 0)) σ
      refine ⟨by decide, ?_⟩
      refine h0 (by
        simp only [zlt, zle] at h_1 h_6
        unfold zBt
        simp at h_1 h_6 ⊢
        omega)
    · skip
      refine zq (σ := σ) hV zQI_0 rfl 3 ?_
      show ((1 : Int32) = 0 ∨ (1 : Int32) = 1) ∧ K (some (.int 1)) σ
      refine ⟨by decide, ?_⟩
      refine h1 (by
        simp only [zlt, zle] at h_1 h_6
        unfold zBt
        simp at h_1 h_6 ⊢
        omega)
set_option maxRecDepth 8000 in
set_option maxHeartbeats 4000000 in
theorem isSheet_ok {d : Nat} {σ : zSt} {K : Option Value → zSt → Prop} {v : Int32} (h1 : zBt 0 3 v → K (some (.int 1)) σ) (h0 : ¬ (zBt 0 3 v) → K (some (.int 0)) σ) : zSp zx (d + 1) mX8_isSheet [.int v] σ K := by
  refine ⟨⟨by decide, Nat.le_of_ble_eq_true rfl⟩, fun V hV => ?_⟩
  refine zq (σ := σ) hV zQI_0 rfl 2 ?_
  show (v < 0 → V 13 [(0, .int v)] [] σ) ∧ (¬ v < 0 → V 4 [(0, .int v)] [] σ)
  refine ⟨fun h_1 => ?_, fun h_1 => ?_⟩
  · skip
    refine zq (σ := σ) hV zQI_0 rfl 2 ?_
    show ((0 : Int32) = 0 ∨ (0 : Int32) = 1) ∧ K (some (.int 0)) σ
    refine ⟨by decide, ?_⟩
    refine h0 (by
      simp only [zlt, zle] at h_1
      unfold zBt
      simp at h_1 ⊢
      omega)
  · skip
    refine zq (σ := σ) hV zQI_0 rfl 3 ?_
    show (4 ≤ v → V 13 [(0, .int v)] [] σ) ∧ (¬ 4 ≤ v → V 9 [(0, .int v)] [] σ)
    refine ⟨fun h_6 => ?_, fun h_6 => ?_⟩
    · skip
      refine zq (σ := σ) hV zQI_0 rfl 2 ?_
      show ((0 : Int32) = 0 ∨ (0 : Int32) = 1) ∧ K (some (.int 0)) σ
      refine ⟨by decide, ?_⟩
      refine h0 (by
        simp only [zlt, zle] at h_1 h_6
        unfold zBt
        simp at h_1 h_6 ⊢
        omega)
    · skip
      refine zq (σ := σ) hV zQI_0 rfl 3 ?_
      show ((1 : Int32) = 0 ∨ (1 : Int32) = 1) ∧ K (some (.int 1)) σ
      refine ⟨by decide, ?_⟩
      refine h1 (by
        simp only [zlt, zle] at h_1 h_6
        unfold zBt
        simp at h_1 h_6 ⊢
        omega)
set_option maxRecDepth 8000 in
set_option maxHeartbeats 4000000 in
theorem isForm_ok {d : Nat} {σ : zSt} {K : Option Value → zSt → Prop} {v : Int32} (h1 : zBt 0 2 v → K (some (.int 1)) σ) (h0 : ¬ (zBt 0 2 v) → K (some (.int 0)) σ) : zSp zx (d + 1) mX8_isForm [.int v] σ K := by
  refine ⟨⟨by decide, Nat.le_of_ble_eq_true rfl⟩, fun V hV => ?_⟩
  refine zq (σ := σ) hV zQI_0 rfl 2 ?_
  show (v < 0 → V 13 [(0, .int v)] [] σ) ∧ (¬ v < 0 → V 4 [(0, .int v)] [] σ)
  refine ⟨fun h_1 => ?_, fun h_1 => ?_⟩
  · skip
    refine zq (σ := σ) hV zQI_0 rfl 2 ?_
    show ((0 : Int32) = 0 ∨ (0 : Int32) = 1) ∧ K (some (.int 0)) σ
    refine ⟨by decide, ?_⟩
    refine h0 (by
      simp only [zlt, zle] at h_1
      unfold zBt
      simp at h_1 ⊢
      omega)
  · skip
    refine zq (σ := σ) hV zQI_0 rfl 3 ?_
    show (2 < v → V 13 [(0, .int v)] [] σ) ∧ (¬ 2 < v → V 9 [(0, .int v)] [] σ)
    refine ⟨fun h_6 => ?_, fun h_6 => ?_⟩
    · skip
      refine zq (σ := σ) hV zQI_0 rfl 2 ?_
      show ((0 : Int32) = 0 ∨ (0 : Int32) = 1) ∧ K (some (.int 0)) σ
      refine ⟨by decide, ?_⟩
      refine h0 (by
        simp only [zlt, zle] at h_1 h_6
        unfold zBt
        simp at h_1 h_6 ⊢
        omega)
    · skip
      refine zq (σ := σ) hV zQI_0 rfl 3 ?_
      show ((1 : Int32) = 0 ∨ (1 : Int32) = 1) ∧ K (some (.int 1)) σ
      refine ⟨by decide, ?_⟩
      refine h1 (by
        simp only [zlt, zle] at h_1 h_6
        unfold zBt
        simp at h_1 h_6 ⊢
        omega)
