/-! what ties the component to the reference: numbers of parts of the state; 0 is scratch -/
def zca : List Nat := [3, 1, 1, 1, 2, 2, 2, 0, 0, 0, 0, 0, 0, 0, 4, 4, 4, 4, 5, 5, 5, 6, 6, 0, 7, 7, 9, 8, 8, 8, 0, 1, 1, 0, 0, 2, 2, 0, 0, 0, 4, 4, 4, 5, 5, 6, 0, 7, 8, 8, 8, 0]
def zcb : List Nat := [1, 0, 0, 0, 0, 2, 0, 0, 3, 0, 0, 0, 0, 0, 0, 0, 0, 0, 4, 0, 0, 0, 5, 0, 0, 6, 0, 0, 7, 7, 0, 0, 0, 0, 0, 9]
def zcp (a j : Nat) : Nat := if a = 30 then zcb.getD j 0 else zca.getD a 0
def zel (l : List Nat) (c : Nat) : Bool := Nat.beq c 0 || l.any (fun x => Nat.beq c x)
def zpt (l : List Nat) (a j : Nat) : Bool := zel l (zcp a j)
theorem zpt_sub {l l' : List Nat} (h : ∀ c, zel l c = true → zel l' c = true) (a j : Nat) (q : zpt l' a j = false) : zpt l a j = false := by
  cases c_z : zpt l a j
  · rfl
  · have := h _ c_z
    unfold zpt at q; rw [this] at q; exact absurd q (by decide)
theorem zel_nil {l : List Nat} : ∀ c, zel [] c = true → zel l c = true := fun c h => by
  unfold zel at h ⊢
  rw [List.any_nil, Bool.or_false] at h
  rw [h]; rfl
theorem zpt_nil {l : List Nat} (a j : Nat) (q : zpt l a j = false) : zpt [] a j = false := zpt_sub zel_nil a j q
theorem zfC_s {l : List Nat} (a j : Nat) (h : zpt l a j = false) : zfC a j = false := by
  cases c : zfC a j
  · rfl
  · exfalso
    unfold zfC at c
    rw [Bool.and_eq_true, Nat.ble_eq, Nat.ble_eq] at c
    rcases (show a = 7 ∨ a = 8 ∨ a = 9 ∨ a = 10 ∨ a = 11 ∨ a = 12 ∨ a = 13 by omega) with e_z | e_z | e_z | e_z | e_z | e_z | e_z <;> subst e_z <;> exact absurd (show true = false from h) (by decide)
theorem zfW_s {l : List Nat} (a j : Nat) (h : zpt l a j = false) : zfW a j = false := zfW_C a j (zfC_s a j h)
theorem zfa23_s {l : List Nat} (a j : Nat) (h : zpt l a j = false) : zfa 23 a j = false := by
  cases c : zfa 23 a j
  · rfl
  · exfalso
    have e_z := Nat.eq_of_beq_eq_true c
    subst e_z; exact absurd (show true = false from h) (by decide)
theorem zfa46_s {l : List Nat} (a j : Nat) (h : zpt l a j = false) : zfa 46 a j = false := by
  cases c : zfa 46 a j
  · rfl
  · exfalso
    have e_z := Nat.eq_of_beq_eq_true c
    subst e_z; exact absurd (show true = false from h) (by decide)
theorem zf34_s {l : List Nat} (a j : Nat) (h : zpt l a j = false) : zf34 a j = false := by
  cases c_z : zf34 a j
  · rfl
  · exfalso
    unfold zf34 at c_z
    rw [Bool.or_eq_true] at c_z
    rcases c_z with c_z | c_z <;> have e_z := Nat.eq_of_beq_eq_true c_z <;> subst e_z <;> exact absurd (show true = false from h) (by decide)
theorem zfMh_s {l : List Nat} (a j : Nat) (h : zpt l a j = false) : zfMh a j = false := by
  cases c_z : zfMh a j
  · rfl
  · exfalso
    unfold zfMh at c_z
    rw [Bool.or_eq_true, Bool.and_eq_true, Bool.or_eq_true, Bool.and_eq_true, Bool.and_eq_true, Nat.ble_eq, Nat.ble_eq, Nat.ble_eq, Nat.ble_eq] at c_z
    rcases c_z with ⟨c_z, d⟩ | c_z
    · have e_z := Nat.eq_of_beq_eq_true c_z
      subst e_z
      rcases d with d | d
      · have e_z := Nat.eq_of_beq_eq_true d
        subst e_z; exact absurd (show true = false from h) (by decide)
      · rcases (show j = 13 ∨ j = 14 ∨ j = 15 ∨ j = 16 ∨ j = 17 by omega) with e_z | e_z | e_z | e_z | e_z <;> subst e_z <;> exact absurd (show true = false from h) (by decide)
    · rcases (show a = 37 ∨ a = 38 ∨ a = 39 by omega) with e_z | e_z | e_z <;> subst e_z <;> exact absurd (show true = false from h) (by decide)
def zR1 (σ : zSt) (n : Nat) : Prop := (σ.1 1 2 = nI n ∧ σ.1 30 0 = nI n ∧ 3 ≤ n ∧ n ≤ 10) ∧ (σ.1 31 = σ.1 2 ∧ σ.1 32 = σ.1 3) ∧ zHB n (σ.1 2) (σ.1 3) ∧ (σ.1 1 3 = zAr n (σ.1 2) (σ.1 3) n ∧ σ.1 1 4 = zMx n (σ.1 2) (σ.1 3) n ∧ σ.1 1 5 = zMy n (σ.1 2) (σ.1 3) n) ∧ 0 < (zAr n (σ.1 2) (σ.1 3) n).toInt
def zR2 (σ : zSt) (n m : Nat) : Prop := (σ.1 4 2 = nI m ∧ σ.1 30 5 = nI m ∧ m ≤ 8) ∧ (σ.1 35 = σ.1 5 ∧ σ.1 36 = σ.1 6) ∧ (∀ i, i < m → ∃ e, σ.1 5 i = nI e ∧ e < n) ∧ ∀ i, i < m → zBt 0 8 (σ.1 6 i)
def zR3 (σ : zSt) : Prop := σ.1 30 8 = σ.1 0 9 ∧ zBt 0 16 (σ.1 0 9)
def zR4 (σ : zSt) (n k : Nat) : Prop := (σ.1 14 3 = nI k ∧ σ.1 30 18 = nI k ∧ k ≤ 7) ∧ (σ.1 40 = σ.1 15 ∧ σ.1 41 = σ.1 16 ∧ σ.1 42 = σ.1 17) ∧ (∀ j, j < k → ∃ e, σ.1 15 j = nI e ∧ e < n) ∧ (∀ j, j < k → zBt 0 8 (σ.1 16 j)) ∧ ∀ j, j < k → zBt 0 1000 (σ.1 17 j)
def zR5 (σ : zSt) (q : Nat) : Prop := (σ.1 18 2 = nI q ∧ σ.1 30 22 = nI q ∧ q ≤ 20) ∧ (σ.1 43 = σ.1 19 ∧ σ.1 44 = σ.1 20) ∧ ∀ j, j < q → zBt (-40) 40 (σ.1 19 j) ∧ zBt (-40) 40 (σ.1 20 j)
def zR6 (σ : zSt) (g : Nat) : Prop := (σ.1 21 2 = nI g ∧ σ.1 30 25 = nI g ∧ g ≤ 10) ∧ zCC (σ.1 22) (σ.1 45) 10
def zR7 (σ : zSt) (b N : Nat) (M : Nat → Nat) : Prop := (σ.1 24 2 = nI b ∧ σ.1 30 28 = nI b ∧ b ≤ 12) ∧ (σ.1 24 1 = nI N ∧ σ.1 30 29 = nI N ∧ N < 2 ^ b) ∧ σ.1 47 = σ.1 25 ∧ zMok (σ.1 25) M
def zR8 (σ : zSt) (L : Nat → Nat) : Prop := ∀ k, k < 4 → (σ.1 48 k = σ.1 27 k ∧ (σ.1 27 k = -1 ∨ zBt 0 2 (σ.1 27 k))) ∧ (σ.1 28 k = nI (L k) ∧ L k ≤ 60) ∧ (σ.1 27 k = -1 → L k = 0) ∧ (¬ σ.1 27 k = -1 → σ.1 49 k = nI (L k)) ∧ ∀ j, j < L k → σ.1 50 (k * 60 + j) = σ.1 29 (k * 60 + j) ∧ zKp (σ.1 27 k) (σ.1 29 (k * 60 + j)) = σ.1 29 (k * 60 + j)
def zR9 (σ : zSt) : Prop := σ.1 30 35 = σ.1 26 3
/-- the component and the reference tell the same -/
def zRel (σ : zSt) : Prop := zQI (kR 0 52) σ.2.2 ∧ ∃ (n m k q g b N : Nat) (M L : Nat → Nat), zR1 σ n ∧ zR2 σ n m ∧ zR3 σ ∧ zR4 σ n k ∧ zR5 σ q ∧ zR6 σ g ∧ zR7 σ b N M ∧ zR8 σ L ∧ zR9 σ
theorem zR1_fr {σ υ : zSt} {l : List Nat} {n : Nat} (h : zR1 σ n) (hu : zOnly (zpt l) σ υ) (hl : zel l 1 = false) : zR1 υ n := by
  have e_z : ∀ a_z j_z, zcp a_z j_z = 1 → υ.1 a_z j_z = σ.1 a_z j_z := fun a_z j_z q_z => hu.1 a_z j_z (by unfold zpt; rw [q_z]; exact hl)
  have f2_z : υ.1 2 = σ.1 2 := funext fun j_z => e_z 2 j_z rfl
  have f3_z : υ.1 3 = σ.1 3 := funext fun j_z => e_z 3 j_z rfl
  have f31 : υ.1 31 = σ.1 31 := funext fun j_z => e_z 31 j_z rfl
  have f32 : υ.1 32 = σ.1 32 := funext fun j_z => e_z 32 j_z rfl
  unfold zR1 at h ⊢
  rw [e_z 1 2 rfl, e_z 30 0 rfl, e_z 1 3 rfl, e_z 1 4 rfl, e_z 1 5 rfl, f2_z, f3_z, f31, f32]
  exact h
theorem zR2_fr {σ υ : zSt} {l : List Nat} {n : Nat} {m : Nat} (h : zR2 σ n m) (hu : zOnly (zpt l) σ υ) (hl : zel l 2 = false) : zR2 υ n m := by
  have e_z : ∀ a_z j_z, zcp a_z j_z = 2 → υ.1 a_z j_z = σ.1 a_z j_z := fun a_z j_z q_z => hu.1 a_z j_z (by unfold zpt; rw [q_z]; exact hl)
  have f5_z : υ.1 5 = σ.1 5 := funext fun j_z => e_z 5 j_z rfl
  have f6_z : υ.1 6 = σ.1 6 := funext fun j_z => e_z 6 j_z rfl
  have f35 : υ.1 35 = σ.1 35 := funext fun j_z => e_z 35 j_z rfl
  have f36 : υ.1 36 = σ.1 36 := funext fun j_z => e_z 36 j_z rfl
  unfold zR2 at h ⊢
  rw [e_z 4 2 rfl, e_z 30 5 rfl, f5_z, f6_z, f35, f36]
  exact h
theorem zR3_fr {σ υ : zSt} {l : List Nat} (h : zR3 σ) (hu : zOnly (zpt l) σ υ) (hl : zel l 3 = false) : zR3 υ := by
  have e_z : ∀ a_z j_z, zcp a_z j_z = 3 → υ.1 a_z j_z = σ.1 a_z j_z := fun a_z j_z q_z => hu.1 a_z j_z (by unfold zpt; rw [q_z]; exact hl)
  unfold zR3 at h ⊢
  rw [e_z 30 8 rfl, e_z 0 9 rfl]
  exact h
theorem zR4_fr {σ υ : zSt} {l : List Nat} {n : Nat} {k : Nat} (h : zR4 σ n k) (hu : zOnly (zpt l) σ υ) (hl : zel l 4 = false) : zR4 υ n k := by
  have e_z : ∀ a_z j_z, zcp a_z j_z = 4 → υ.1 a_z j_z = σ.1 a_z j_z := fun a_z j_z q_z => hu.1 a_z j_z (by unfold zpt; rw [q_z]; exact hl)
  have f15 : υ.1 15 = σ.1 15 := funext fun j_z => e_z 15 j_z rfl
  have f16 : υ.1 16 = σ.1 16 := funext fun j_z => e_z 16 j_z rfl
  have f17_z : υ.1 17 = σ.1 17 := funext fun j_z => e_z 17 j_z rfl
  have f40 : υ.1 40 = σ.1 40 := funext fun j_z => e_z 40 j_z rfl
  have f41 : υ.1 41 = σ.1 41 := funext fun j_z => e_z 41 j_z rfl
  have f42 : υ.1 42 = σ.1 42 := funext fun j_z => e_z 42 j_z rfl
  unfold zR4 at h ⊢
  rw [e_z 14 3 rfl, e_z 30 18 rfl, f15, f16, f17_z, f40, f41, f42]
  exact h
theorem zR5_fr {σ υ : zSt} {l : List Nat} {q : Nat} (h : zR5 σ q) (hu : zOnly (zpt l) σ υ) (hl : zel l 5 = false) : zR5 υ q := by
  have e_z : ∀ a_z j_z, zcp a_z j_z = 5 → υ.1 a_z j_z = σ.1 a_z j_z := fun a_z j_z q => hu.1 a_z j_z (by unfold zpt; rw [q]; exact hl)
  have f19 : υ.1 19 = σ.1 19 := funext fun j_z => e_z 19 j_z rfl
  have f20_z : υ.1 20 = σ.1 20 := funext fun j_z => e_z 20 j_z rfl
  have f43 : υ.1 43 = σ.1 43 := funext fun j_z => e_z 43 j_z rfl
  have f44 : υ.1 44 = σ.1 44 := funext fun j_z => e_z 44 j_z rfl
  unfold zR5 at h ⊢
  rw [e_z 18 2 rfl, e_z 30 22 rfl, f19, f20_z, f43, f44]
  exact h
theorem zR6_fr {σ υ : zSt} {l : List Nat} {g : Nat} (h : zR6 σ g) (hu : zOnly (zpt l) σ υ) (hl : zel l 6 = false) : zR6 υ g := by
  have e_z : ∀ a_z j_z, zcp a_z j_z = 6 → υ.1 a_z j_z = σ.1 a_z j_z := fun a_z j_z q_z => hu.1 a_z j_z (by unfold zpt; rw [q_z]; exact hl)
  have f22 : υ.1 22 = σ.1 22 := funext fun j_z => e_z 22 j_z rfl
  have f45 : υ.1 45 = σ.1 45 := funext fun j_z => e_z 45 j_z rfl
  unfold zR6 at h ⊢
  rw [e_z 21 2 rfl, e_z 30 25 rfl, f22, f45]
  exact h
theorem zR7_fr {σ υ : zSt} {l : List Nat} {b : Nat} {N : Nat} {M : Nat → Nat} (h : zR7 σ b N M) (hu : zOnly (zpt l) σ υ) (hl : zel l 7 = false) : zR7 υ b N M := by
  have e_z : ∀ a_z j_z, zcp a_z j_z = 7 → υ.1 a_z j_z = σ.1 a_z j_z := fun a_z j_z q_z => hu.1 a_z j_z (by unfold zpt; rw [q_z]; exact hl)
  have f25 : υ.1 25 = σ.1 25 := funext fun j_z => e_z 25 j_z rfl
  have f47 : υ.1 47 = σ.1 47 := funext fun j_z => e_z 47 j_z rfl
  unfold zR7 at h ⊢
  rw [e_z 24 2 rfl, e_z 30 28 rfl, e_z 24 1 rfl, e_z 30 29 rfl, f25, f47]
  exact h
theorem zR8_fr {σ υ : zSt} {l : List Nat} {L : Nat → Nat} (h : zR8 σ L) (hu : zOnly (zpt l) σ υ) (hl : zel l 8 = false) : zR8 υ L := by
  have e_z : ∀ a_z j_z, zcp a_z j_z = 8 → υ.1 a_z j_z = σ.1 a_z j_z := fun a_z j_z q_z => hu.1 a_z j_z (by unfold zpt; rw [q_z]; exact hl)
  have f27 : υ.1 27 = σ.1 27 := funext fun j_z => e_z 27 j_z rfl
  have f28 : υ.1 28 = σ.1 28 := funext fun j_z => e_z 28 j_z rfl
  have f29 : υ.1 29 = σ.1 29 := funext fun j_z => e_z 29 j_z rfl
  have f48 : υ.1 48 = σ.1 48 := funext fun j_z => e_z 48 j_z rfl
  have f49 : υ.1 49 = σ.1 49 := funext fun j_z => e_z 49 j_z rfl
  have f50 : υ.1 50 = σ.1 50 := funext fun j_z => e_z 50 j_z rfl
  unfold zR8 at h ⊢
  rw [f27, f28, f29, f48, f49, f50]
  exact h
theorem zR9_fr {σ υ : zSt} {l : List Nat} (h : zR9 σ) (hu : zOnly (zpt l) σ υ) (hl : zel l 9 = false) : zR9 υ := by
  have e_z : ∀ a_z j_z, zcp a_z j_z = 9 → υ.1 a_z j_z = σ.1 a_z j_z := fun a_z j_z q_z => hu.1 a_z j_z (by unfold zpt; rw [q_z]; exact hl)
  unfold zR9 at h ⊢
  rw [e_z 30 35 rfl, e_z 26 3 rfl]
  exact h
theorem zRel_q {σ υ : zSt} (hR : zRel σ) (hu : zOnly (zpt []) σ υ) : zRel υ := by
  obtain ⟨hI, n_z, m_z, k_z, q_z, g_z, b_z, N_z, M_z, L_z, h1, h2, h3, h4, h5, h6, h7, h8, h9⟩ := hR
  exact ⟨zQI_eq hI hu.2.2, n_z, m_z, k_z, q_z, g_z, b_z, N_z, M_z, L_z, zR1_fr h1 hu rfl, zR2_fr h2 hu rfl, zR3_fr h3 hu rfl, zR4_fr h4 hu rfl, zR5_fr h5 hu rfl, zR6_fr h6 hu rfl, zR7_fr h7 hu rfl, zR8_fr h8 hu rfl, zR9_fr h9 hu rfl⟩
theorem zCC_sub {C C' : Nat → Int32} {m m' : Nat} (h : zCC C C' m) (hm : m' ≤ m) : zCC C C' m' := fun i j hi hj => h i j (by omega) (by omega)
theorem zCC_ok {C C' : Nat → Int32} {m : Nat} (h : zCC C C' m) : zCok C' m := fun i j hi hj => by
  rcases h i j hi hj with ⟨_, q⟩ | ⟨_, q1, q2⟩
  · omega
  · omega
/-- the reference's call at τ answers x, and both tell the same behind it -/
def zAns (m : Nat) (as : List Value) (r : Value) (τ : zSt) : Prop := ∀ K2 : Option Value → zSt → Prop, (∀ υ, zRel υ → K2 (some r) υ) → zSp 7 m as τ K2
