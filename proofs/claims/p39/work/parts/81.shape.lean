variable {zx : Nat × (Nat → Int32)}
theorem zAr_congr {n : Nat} {X Y X' Y' : Nat → Int32} (h : ∀ j, j < n → X j = X' j ∧ Y j = Y' j) : ∀ i, i ≤ n → zAr n X Y i = zAr n X' Y' i := by
  intro i_z
  induction i_z with
  | zero => intro _; rfl
  | succ i_z ih_z =>
    intro hi_z
    have hx := zNx_lt (show i_z < n by omega)
    unfold zAr
    rw [ih_z (by omega)]
    unfold zTu
    rw [(h i_z (by omega)).1, (h i_z (by omega)).2, (h _ hx).1, (h _ hx).2]
theorem zsh30 : ∀ k, k < 61 → ((nI k - 30).toInt16.toInt32) = nI k - 30 := by decide
theorem zKp30 {v : Int32} (h : zBt (-30) 30 v) : zKp 1 v = v := by
  unfold zBt at h
  have e30 : (30 : Int32).toInt = 30 := by decide
  have e : v = nI (v.toInt + 30).toNat - 30 := by
    rw [zeq, zsub (by rw [nI_toInt (by omega), e30]; omega), nI_toInt (by omega), e30]
    omega
  unfold zKp
  rw [if_neg (by decide), if_pos rfl, e]
  exact zsh30 _ (by omega)
theorem put3 {d : Nat} {σ : zSt} {K : Option Value → zSt → Prop} {i v : Int32} {j : Nat} (hI : zQI (kR 0 30) σ.2.2) (hj : j < 20) (h27 : σ.1 27 3 = 1) (h28 : σ.1 28 3 = nI 20) (hL : ∀ q, q < 4 → ∃ l, σ.1 28 q = nI l ∧ l ≤ 60) (hv : zBt (-30) 30 v) (e : i = nI j) (hK : K (some (.int 1)) (zuI σ 29 (180 + j) v)) : zSp zx (d + 5) mX8_put [.ref 0, .int 3, .int 1, .int i, .int v] σ K := by
  have k3 : ∀ q, (3 : Int32) = nI q → q < 4 → q = 3 := fun q h1 h2 => ((nI_eq (a := 3) (b := q) (by decide) (by omega)).mp h1).symm
  refine put_C hI hL (fun q => absurd ⟨⟨by decide, by decide⟩, ⟨by decide, by decide⟩⟩ q) (fun q _ h1 h2 h3 => ?_) (fun q _ h1 h2 _ h3 => ?_) (fun q l _ h1 h2 _ _ h3 h4 => ?_) (fun q l j' _ h1 h2 _ _ h3 _ h4 h5 => ?_)
  · rw [k3 q h1 h2, h27] at h3; exact absurd h3 (by decide)
  · rw [k3 q h1 h2] at h3; exact absurd h27 h3
  · rw [k3 q h1 h2, h28] at h3
    have hl : 20 = l ∨ ¬ l < 2 ^ 31 := by
      by_cases w : l < 2 ^ 31
      · exact Or.inl ((nI_eq (by decide) w).mp h3)
      · exact Or.inr w
    exfalso
    rcases hl with hl | hl
    · refine h4 ?_
      unfold zBt
      rw [e, nI_toInt (by omega)]; omega
    · refine h4 ?_
      unfold zBt
      rw [e, nI_toInt (by omega)]; omega
  · have e3 := k3 q h1 h2
    have ej : j' = j := by
      rw [e] at h4
      by_cases w : j' < 2 ^ 31
      · exact ((nI_eq (by omega) w).mp h4).symm
      · exfalso; omega
    rw [e3, ej, h27, zKp30 hv]
    exact hK
def zfS (a _j : Nat) : Bool := Nat.ble 27 a && Nat.ble a 30
theorem zfRn_S (a j : Nat) (h : zfS a j = false) : zfRn 3 a j = false := by
  unfold zfS at h; unfold zfRn
  have c1 : ∀ x y, Nat.ble x y = false ↔ y < x := fun x y => by rw [← Bool.not_eq_true, Nat.ble_eq]; omega
  have c2 : ∀ x y, Nat.beq x y = false ↔ x ≠ y := fun x y => by rw [← Bool.not_eq_true, Nat.beq_eq]
  rw [Bool.and_eq_false_iff] at h
  rw [Bool.or_eq_false_iff, Bool.or_eq_false_iff, Bool.and_eq_false_iff, Bool.and_eq_false_iff, Bool.and_eq_false_iff]
  simp only [c1, c2] at h ⊢
  exact ⟨⟨Or.inl (by omega), Or.inl (by omega)⟩, Or.inl (by omega)⟩
set_option maxRecDepth 8000 in
set_option maxHeartbeats 4000000 in
theorem Lshape_ok {d : Nat} {σ : zSt} {K : Option Value → zSt → Prop} (hI : zQI (kR 0 31) σ.2.2) (hL : zx.1 ≤ 260) (hLs : ∀ q, q < 4 → ∃ l, σ.1 28 q = nI l ∧ l ≤ 60) (h0 : ∀ τ, τ.2.2 = σ.2.2 → τ.1 0 9 = σ.1 0 9 → K (some (.int 0)) τ) (hOk : ∀ τ n, 4 ≤ n → n ≤ 8 → τ.2.2 = σ.2.2 → τ.1 0 9 = σ.1 0 9 → τ.1 1 2 = nI n → zHB n (τ.1 2) (τ.1 3) → τ.1 4 2 = 0 → τ.1 14 3 = 0 → K (some (.int (nI n))) τ) : zSp zx (d + 6) mL_shape [.ref 0, .ref zsc, .ref 30] σ K := by
  refine ⟨⟨by decide, Nat.le_of_ble_eq_true rfl⟩, fun V hV => ?_⟩
  refine zq (σ := σ) hV hI rfl 5 ?_
  show zSp _ _ 69 [.ref 0, .int 3, .int 1, .int 20] σ (fun r σ' => σ'.2.2.2 = σ.2.2.2 + zAl 69 → V 8 [(0, .ref 0), (1, .ref zsc), (2, .ref 30)] (r.toList ++ []) σ')
  refine sheet_C (zR_of hI rfl rfl) (fun q => absurd ⟨⟨by decide, by decide⟩, ⟨by decide, by decide⟩, by decide⟩ q) (fun _ q => absurd (by decide) q) (fun τ k _ _ e1 e2 ht e27 e28 e29 _ => ?_)
  have e3 : k = 3 := ((nI_eq (a := 3) (b := k) (by decide) (by omega)).mp e1).symm
  rw [e3] at ht e27 e28
  have hIτ := zQI_eq hI ht.2.2
  have hnτ : τ.2.2.2 = σ.2.2.2 := congrArg Prod.snd ht.2.2
  refine zq (σ := τ) hV hIτ hnτ 2 ?_
  show ((20 : Int32) = 20 → V 15 [(0, .ref 0), (1, .ref zsc), (2, .ref 30)] [] τ) ∧ (¬ (20 : Int32) = 20 → V 13 [(0, .ref 0), (1, .ref zsc), (2, .ref 30)] [] τ)
  refine ⟨fun _ => ?_, fun hc => absurd (by decide) hc⟩
  refine zq (σ := τ) hV hIτ hnτ 4 ?_
  show V 20 [(4, .int 0), (3, .int 0), (0, .ref 0), (1, .ref zsc), (2, .ref 30)] [] τ
  refine zwk hV [2, 3, 4, 1, 0] rfl ?_
  have HK : ∀ (r k c : Nat) (τ : zSt), k + r = 8 → c ≤ k → k ≤ 2 * c → zOnly zfS σ τ → τ.1 27 3 = 1 → τ.1 28 3 = nI 20 → (∀ q, q < 4 → ∃ l, τ.1 28 q = nI l ∧ l ≤ 60) → (∀ j, j < 2 * c → zBt (-30) 30 (τ.1 30 j) ∧ τ.1 29 (180 + j) = τ.1 30 j) → V 20 [(0, .ref 0), (1, .ref zsc), (2, .ref 30), (3, .int (nI c)), (4, .int (nI k))] [] τ := by
    intro r
    induction r with
    | zero =>
      intro k c τ hkr hck hkc hS h27 h28 hLq hit
      have hIτ := zQI_eq hI hS.2.2
      have hnτ : τ.2.2.2 = σ.2.2.2 := congrArg Prod.snd hS.2.2
      refine zq (σ := τ) hV hIτ hnτ 3 ?_
      show (8 ≤ (nI k) → V 218 [(0, .ref 0), (1, .ref zsc), (2, .ref 30), (3, .int (nI c)), (4, .int (nI k))] [] τ) ∧ (¬ 8 ≤ (nI k) → V 27 [(0, .ref 0), (1, .ref zsc), (2, .ref 30), (3, .int (nI c)), (4, .int (nI k))] [] τ)
      refine ⟨fun _ => ?_, fun hc => absurd (show (8 : Int32) ≤ nI k by rw [show k = 8 by omega]; decide) hc⟩
      have hc4 : 4 ≤ c ∧ c ≤ 8 := by omega
      refine zq (σ := τ) hV hIτ hnτ 4 ?_
      show V 224 [(5, .int 0), (4, .int 0), (0, .ref 0), (1, .ref zsc), (2, .ref 30), (3, .int (nI c))] [] τ
      refine zwk hV [2, 3, 4, 5, 1, 0] rfl ?_
      have HA : ∀ (r i : Nat), i + r = c → V 224 [(0, .ref 0), (1, .ref zsc), (2, .ref 30), (3, .int (nI c)), (4, .int (zAr c (fun j => τ.1 30 (2 * j)) (fun j => τ.1 30 (2 * j + 1)) i)), (5, .int (nI i))] [] τ := by
        intro r
        induction r with
        | zero =>
          intro i hir
          refine zq (σ := τ) hV hIτ hnτ 3 ?_
          show ((nI c) ≤ (nI i) → V 280 [(0, .ref 0), (1, .ref zsc), (2, .ref 30), (3, .int (nI c)), (4, .int (zAr c (fun j => τ.1 30 (2 * j)) (fun j => τ.1 30 (2 * j + 1)) i)), (5, .int (nI i))] [] τ) ∧ (¬ (nI c) ≤ (nI i) → V 230 [(0, .ref 0), (1, .ref zsc), (2, .ref 30), (3, .int (nI c)), (4, .int (zAr c (fun j => τ.1 30 (2 * j)) (fun j => τ.1 30 (2 * j + 1)) i)), (5, .int (nI i))] [] τ)
          refine ⟨fun _ => ?_, fun hc => absurd (nI_le (a := c) (b := i) (by omega) (by omega)) hc⟩
          refine zwk hV [0, 1, 2, 3, 4] rfl ?_
          rw [show i = c by omega]
          have k3 : ∀ q, (3 : Int32) = nI q → q < 4 → q = 3 := fun q h1 h2 => ((nI_eq (a := 3) (b := q) (by decide) (by omega)).mp h1).symm
          have kn : ∀ n, nI c = nI n → n ≤ 10 → n = c := fun n h1 h2 => ((nI_eq (a := c) (b := n) (by omega) (by omega)).mp h1).symm
          have e29 : ∀ j, j < 2 * c → τ.1 29 (3 * 60 + j) = τ.1 30 j := fun j hj => (hit j hj).2
          have ear : zAr c (fun j => τ.1 29 (3 * 60 + 2 * j)) (fun j => τ.1 29 (3 * 60 + (2 * j + 1))) c = zAr c (fun j => τ.1 30 (2 * j)) (fun j => τ.1 30 (2 * j + 1)) c := zAr_congr (fun j hj => ⟨e29 _ (by omega), e29 _ (by omega)⟩) c (Nat.le_refl _)
          refine zq (σ := τ) hV hIτ hnτ 4 ?_
          show zSp _ _ 54 [.ref 0, .int 3, .int (nI c)] τ (fun r σ' => σ'.2.2.2 = τ.2.2.2 + zAl 54 → V 286 [(0, .ref 0), (1, .ref zsc), (2, .ref 30), (3, .int (nI c)), (4, .int (zAr c (fun j => τ.1 30 (2 * j)) (fun j => τ.1 30 (2 * j + 1)) c))] (r.toList ++ []) σ')
          refine shape_C (zR_of hIτ rfl rfl) hLq (fun q => absurd ⟨⟨by decide, by decide⟩, ⟨by rw [nI_toInt (by omega)]; omega, by rw [nI_toInt (by omega)]; omega⟩⟩ q) (fun q n h1 h2 _ _ h3 => absurd h3 (by rw [k3 q h1 h2, h27]; decide)) (fun q n l h1 h2 h3 h4 _ h5 h6 => ?_) (fun q n l h1 h2 h3 h4 _ _ _ h5 _ => ?_) (fun υ q n l h1 h2 h3 h4 _ _ _ h5 hu u2 u23 ua _ _ uh us _ => ?_)
          · exfalso
            rw [k3 q h1 h2, h28] at h5
            have hn := kn n h3 h4.2
            have hl : 20 = l := (nI_eq (by decide) (by omega)).mp h5
            omega
          · rw [k3 q h1 h2, kn n h3 h4.2] at h5
            have hle : (zAr c (fun j => τ.1 30 (2 * j)) (fun j => τ.1 30 (2 * j + 1)) c) ≤ 0 := Int32.not_lt.mp (fun y => h5 ⟨fun j hj => by show zBt (-30) 30 (τ.1 29 (3 * 60 + j)); rw [e29 j hj]; exact (hit j hj).1, by show 0 < zAr c (fun j => τ.1 29 (3 * 60 + 2 * j)) (fun j => τ.1 29 (3 * 60 + (2 * j + 1))) c; rw [ear]; exact y⟩)
            refine zq (σ := τ) hV hIτ hnτ 4 ?_
            show ((zAr c (fun j => τ.1 30 (2 * j)) (fun j => τ.1 30 (2 * j + 1)) c) ≤ 0 → V 300 [(5, .int (-3)), (0, .ref 0), (1, .ref zsc), (2, .ref 30), (3, .int (nI c)), (4, .int (zAr c (fun j => τ.1 30 (2 * j)) (fun j => τ.1 30 (2 * j + 1)) c))] [.int (-3)] τ) ∧ (¬ (zAr c (fun j => τ.1 30 (2 * j)) (fun j => τ.1 30 (2 * j + 1)) c) ≤ 0 → V 295 [(5, .int (-3)), (0, .ref 0), (1, .ref zsc), (2, .ref 30), (3, .int (nI c)), (4, .int (zAr c (fun j => τ.1 30 (2 * j)) (fun j => τ.1 30 (2 * j + 1)) c))] [.int (-3)] τ)
            refine ⟨fun _ => ?_, fun hc => absurd hle hc⟩
            refine zq (σ := τ) hV hIτ hnτ 2 ?_
            show (¬ ((-3) : Int32) = (-3) → V 318 [(5, .int (-3)), (0, .ref 0), (1, .ref zsc), (2, .ref 30), (3, .int (nI c)), (4, .int (zAr c (fun j => τ.1 30 (2 * j)) (fun j => τ.1 30 (2 * j + 1)) c))] [] τ) ∧ (¬ (¬ ((-3) : Int32) = (-3)) → V 305 [(5, .int (-3)), (0, .ref 0), (1, .ref zsc), (2, .ref 30), (3, .int (nI c)), (4, .int (zAr c (fun j => τ.1 30 (2 * j)) (fun j => τ.1 30 (2 * j + 1)) c))] [] τ)
            refine ⟨fun hc => absurd hc (by decide), fun _ => ?_⟩
            refine zq (σ := τ) hV hIτ hnτ 2 ?_
            show (0 ≤ ((-3) : Int32) → V 314 [(5, .int (-3)), (0, .ref 0), (1, .ref zsc), (2, .ref 30), (3, .int (nI c)), (4, .int (zAr c (fun j => τ.1 30 (2 * j)) (fun j => τ.1 30 (2 * j + 1)) c))] [] τ) ∧ (¬ 0 ≤ ((-3) : Int32) → V 310 [(5, .int (-3)), (0, .ref 0), (1, .ref zsc), (2, .ref 30), (3, .int (nI c)), (4, .int (zAr c (fun j => τ.1 30 (2 * j)) (fun j => τ.1 30 (2 * j + 1)) c))] [] τ)
            refine ⟨fun hc => absurd hc (by decide), fun _ => ?_⟩
            refine zq (σ := τ) hV hIτ hnτ 3 ?_
            show K (some (.int 0)) τ
            exact h0 τ hS.2.2 (hS.1 0 9 rfl)
          · have hnc := kn n h3 h4.2
            rw [k3 q h1 h2, hnc] at h5
            rw [hnc] at u2 u23 ua
            rw [k3 q h1 h2] at u23
            have hpos : 0 < (zAr c (fun j => τ.1 30 (2 * j)) (fun j => τ.1 30 (2 * j + 1)) c) := by have y : 0 < zAr c (fun j => τ.1 29 (3 * 60 + 2 * j)) (fun j => τ.1 29 (3 * 60 + (2 * j + 1))) c := h5.2; rw [ear] at y; exact y
            have uv : ∀ j, j < c → υ.1 2 j = τ.1 30 (2 * j) ∧ υ.1 3 j = τ.1 30 (2 * j + 1) := fun j hj => ⟨(u23 j hj).1.trans (e29 _ (by omega)), (u23 j hj).2.trans (e29 _ (by omega))⟩
            have eaa : υ.1 1 3 = (zAr c (fun j => τ.1 30 (2 * j)) (fun j => τ.1 30 (2 * j + 1)) c) := ua.trans (zAr_congr uv c (Nat.le_refl _))
            have hI9 := zQI_eq hIτ hu.2.2
            have hn9 : υ.2.2.2 = σ.2.2.2 := (congrArg Prod.snd hu.2.2).trans hnτ
            rw [eaa]
            refine zq (σ := υ) hV hI9 hn9 4 ?_
            show ((zAr c (fun j => τ.1 30 (2 * j)) (fun j => τ.1 30 (2 * j + 1)) c) ≤ 0 → V 300 [(5, .int (zAr c (fun j => τ.1 30 (2 * j)) (fun j => τ.1 30 (2 * j + 1)) c)), (0, .ref 0), (1, .ref zsc), (2, .ref 30), (3, .int (nI c)), (4, .int (zAr c (fun j => τ.1 30 (2 * j)) (fun j => τ.1 30 (2 * j + 1)) c))] [.int (zAr c (fun j => τ.1 30 (2 * j)) (fun j => τ.1 30 (2 * j + 1)) c)] υ) ∧ (¬ (zAr c (fun j => τ.1 30 (2 * j)) (fun j => τ.1 30 (2 * j + 1)) c) ≤ 0 → V 295 [(5, .int (zAr c (fun j => τ.1 30 (2 * j)) (fun j => τ.1 30 (2 * j + 1)) c)), (0, .ref 0), (1, .ref zsc), (2, .ref 30), (3, .int (nI c)), (4, .int (zAr c (fun j => τ.1 30 (2 * j)) (fun j => τ.1 30 (2 * j + 1)) c))] [.int (zAr c (fun j => τ.1 30 (2 * j)) (fun j => τ.1 30 (2 * j + 1)) c)] υ)
            refine ⟨fun hc => absurd hc (Int32.not_le.mpr hpos), fun _ => ?_⟩
            refine zq (σ := υ) hV hI9 hn9 3 ?_
            show (¬ (zAr c (fun j => τ.1 30 (2 * j)) (fun j => τ.1 30 (2 * j + 1)) c) = (zAr c (fun j => τ.1 30 (2 * j)) (fun j => τ.1 30 (2 * j + 1)) c) → V 318 [(5, .int (zAr c (fun j => τ.1 30 (2 * j)) (fun j => τ.1 30 (2 * j + 1)) c)), (0, .ref 0), (1, .ref zsc), (2, .ref 30), (3, .int (nI c)), (4, .int (zAr c (fun j => τ.1 30 (2 * j)) (fun j => τ.1 30 (2 * j + 1)) c))] [] υ) ∧ (¬ (¬ (zAr c (fun j => τ.1 30 (2 * j)) (fun j => τ.1 30 (2 * j + 1)) c) = (zAr c (fun j => τ.1 30 (2 * j)) (fun j => τ.1 30 (2 * j + 1)) c)) → V 305 [(5, .int (zAr c (fun j => τ.1 30 (2 * j)) (fun j => τ.1 30 (2 * j + 1)) c)), (0, .ref 0), (1, .ref zsc), (2, .ref 30), (3, .int (nI c)), (4, .int (zAr c (fun j => τ.1 30 (2 * j)) (fun j => τ.1 30 (2 * j + 1)) c))] [] υ)
            refine ⟨fun hc => absurd hc (fun q => q rfl), fun _ => ?_⟩
            refine zq (σ := υ) hV hI9 hn9 2 ?_
            show (0 ≤ (zAr c (fun j => τ.1 30 (2 * j)) (fun j => τ.1 30 (2 * j + 1)) c) → V 314 [(5, .int (zAr c (fun j => τ.1 30 (2 * j)) (fun j => τ.1 30 (2 * j + 1)) c)), (0, .ref 0), (1, .ref zsc), (2, .ref 30), (3, .int (nI c)), (4, .int (zAr c (fun j => τ.1 30 (2 * j)) (fun j => τ.1 30 (2 * j + 1)) c))] [] υ) ∧ (¬ 0 ≤ (zAr c (fun j => τ.1 30 (2 * j)) (fun j => τ.1 30 (2 * j + 1)) c) → V 310 [(5, .int (zAr c (fun j => τ.1 30 (2 * j)) (fun j => τ.1 30 (2 * j + 1)) c)), (0, .ref 0), (1, .ref zsc), (2, .ref 30), (3, .int (nI c)), (4, .int (zAr c (fun j => τ.1 30 (2 * j)) (fun j => τ.1 30 (2 * j + 1)) c))] [] υ)
            refine ⟨fun _ => ?_, fun hc => absurd (by rw [zle]; rw [zlt] at hpos; have := zT_lits.1; omega) hc⟩
            refine zq (σ := υ) hV hI9 hn9 3 ?_
            show K (some (.int (nI c))) υ
            refine hOk υ c hc4.1 hc4.2 (hu.2.2.trans hS.2.2) ((hu.1 0 9 rfl).trans (hS.1 0 9 rfl)) u2 (fun j hj => ?_) uh us
            rw [(uv j hj).1, (uv j hj).2]; exact ⟨(hit _ (by omega)).1, (hit _ (by omega)).1⟩
        | succ r ihA =>
          intro i hir
          refine zq (σ := τ) hV hIτ hnτ 3 ?_
          show ((nI c) ≤ (nI i) → V 280 [(0, .ref 0), (1, .ref zsc), (2, .ref 30), (3, .int (nI c)), (4, .int (zAr c (fun j => τ.1 30 (2 * j)) (fun j => τ.1 30 (2 * j + 1)) i)), (5, .int (nI i))] [] τ) ∧ (¬ (nI c) ≤ (nI i) → V 230 [(0, .ref 0), (1, .ref zsc), (2, .ref 30), (3, .int (nI c)), (4, .int (zAr c (fun j => τ.1 30 (2 * j)) (fun j => τ.1 30 (2 * j + 1)) i)), (5, .int (nI i))] [] τ)
          refine ⟨fun hc => absurd hc (nI_ge (a := i) (b := c) (by omega) (by omega)), fun _ => ?_⟩
          refine zq (σ := τ) hV hIτ hnτ 5 ?_
          show (¬ ((nI c) : Int32) = 0) ∧ V 236 [(0, .ref 0), (1, .ref zsc), (2, .ref 30), (3, .int (nI c)), (4, .int (zAr c (fun j => τ.1 30 (2 * j)) (fun j => τ.1 30 (2 * j + 1)) i)), (5, .int (nI i))] [.int (((nI i) + 1) - ((nI i) + 1) / (nI c) * (nI c))] τ
          refine ⟨nI_ne0 (by omega) (by omega), ?_⟩
          refine zq (σ := τ) hV hIτ hnτ 1 ?_
          show V 238 [(6, .int (((nI i) + 1) - ((nI i) + 1) / (nI c) * (nI c))), (0, .ref 0), (1, .ref zsc), (2, .ref 30), (3, .int (nI c)), (4, .int (zAr c (fun j => τ.1 30 (2 * j)) (fun j => τ.1 30 (2 * j + 1)) i)), (5, .int (nI i))] [] τ
          rw [nI_1 i, pk_rem (by omega) (by omega) (by omega)]
          have hj : (i + 1) % c < c := Nat.mod_lt _ (by omega)
          generalize hje : (i + 1) % c = j at hj ⊢
          refine zq (σ := τ) hV hIτ hnτ 6 ?_
          show vp_in (2 * (nI i)) 20 ∧ V 246 [(6, .int (nI j)), (0, .ref 0), (1, .ref zsc), (2, .ref 30), (3, .int (nI c)), (4, .int (zAr c (fun j => τ.1 30 (2 * j)) (fun j => τ.1 30 (2 * j + 1)) i)), (5, .int (nI i))] [.int (τ.1 30 (Int32.toNatClampNeg (2 * (nI i)))), .int (zAr c (fun j => τ.1 30 (2 * j)) (fun j => τ.1 30 (2 * j + 1)) i)] τ
          refine ⟨zix (k := (2 * i)) (zn_m (a := 2) (b := i) rfl rfl) (by omega) (by decide), ?_⟩
          rw [zcl_k (i := (2 * (nI i))) (k := (2 * i)) (zn_m (a := 2) (b := i) rfl rfl) (by omega)]
          refine zq (σ := τ) hV hIτ hnτ 7 ?_
          show vp_in ((2 * (nI j)) + 1) 20 ∧ V 254 [(6, .int (nI j)), (0, .ref 0), (1, .ref zsc), (2, .ref 30), (3, .int (nI c)), (4, .int (zAr c (fun j => τ.1 30 (2 * j)) (fun j => τ.1 30 (2 * j + 1)) i)), (5, .int (nI i))] [.int (τ.1 30 (Int32.toNatClampNeg ((2 * (nI j)) + 1))), .int (τ.1 30 (2 * i)), .int (zAr c (fun j => τ.1 30 (2 * j)) (fun j => τ.1 30 (2 * j + 1)) i)] τ
          refine ⟨zix (k := ((2 * j) + 1)) (zn_a (a := (2 * j)) (b := 1) (zn_m (a := 2) (b := j) rfl rfl) rfl) (by omega) (by decide), ?_⟩
          rw [zcl_k (i := ((2 * (nI j)) + 1)) (k := ((2 * j) + 1)) (zn_a (a := (2 * j)) (b := 1) (zn_m (a := 2) (b := j) rfl rfl) rfl) (by omega)]
          refine zq (σ := τ) hV hIτ hnτ 6 ?_
          show vp_in (2 * (nI j)) 20 ∧ V 261 [(6, .int (nI j)), (0, .ref 0), (1, .ref zsc), (2, .ref 30), (3, .int (nI c)), (4, .int (zAr c (fun j => τ.1 30 (2 * j)) (fun j => τ.1 30 (2 * j + 1)) i)), (5, .int (nI i))] [.int (τ.1 30 (Int32.toNatClampNeg (2 * (nI j)))), .int ((τ.1 30 (2 * i)) * (τ.1 30 ((2 * j) + 1))), .int (zAr c (fun j => τ.1 30 (2 * j)) (fun j => τ.1 30 (2 * j + 1)) i)] τ
          refine ⟨zix (k := (2 * j)) (zn_m (a := 2) (b := j) rfl rfl) (by omega) (by decide), ?_⟩
          rw [zcl_k (i := (2 * (nI j))) (k := (2 * j)) (zn_m (a := 2) (b := j) rfl rfl) (by omega)]
          refine zq (σ := τ) hV hIτ hnτ 7 ?_
          show vp_in ((2 * (nI i)) + 1) 20 ∧ V 269 [(6, .int (nI j)), (0, .ref 0), (1, .ref zsc), (2, .ref 30), (3, .int (nI c)), (4, .int (zAr c (fun j => τ.1 30 (2 * j)) (fun j => τ.1 30 (2 * j + 1)) i)), (5, .int (nI i))] [.int (τ.1 30 (Int32.toNatClampNeg ((2 * (nI i)) + 1))), .int (τ.1 30 (2 * j)), .int ((τ.1 30 (2 * i)) * (τ.1 30 ((2 * j) + 1))), .int (zAr c (fun j => τ.1 30 (2 * j)) (fun j => τ.1 30 (2 * j + 1)) i)] τ
          refine ⟨zix (k := ((2 * i) + 1)) (zn_a (a := (2 * i)) (b := 1) (zn_m (a := 2) (b := i) rfl rfl) rfl) (by omega) (by decide), ?_⟩
          rw [zcl_k (i := ((2 * (nI i)) + 1)) (k := ((2 * i) + 1)) (zn_a (a := (2 * i)) (b := 1) (zn_m (a := 2) (b := i) rfl rfl) rfl) (by omega)]
          refine zq (σ := τ) hV hIτ hnτ 6 ?_
          show V 224 [(5, .int ((nI i) + 1)), (4, .int ((zAr c (fun j => τ.1 30 (2 * j)) (fun j => τ.1 30 (2 * j + 1)) i) + (((τ.1 30 (2 * i)) * (τ.1 30 ((2 * j) + 1))) - ((τ.1 30 (2 * j)) * (τ.1 30 ((2 * i) + 1)))))), (6, .int (nI j)), (0, .ref 0), (1, .ref zsc), (2, .ref 30), (3, .int (nI c))] [] τ
          refine zwk hV [3, 4, 5, 6, 1, 0] rfl ?_
          rw [nI_1 i]
          have hw := ihA (i + 1) (by omega)
          have ez : zNx c i = j := by
            unfold zNx
            by_cases q : i + 1 < c
            · rw [if_pos q, ← hje, Nat.mod_eq_of_lt q]
            · rw [if_neg q, ← hje, show i + 1 = c by omega, Nat.mod_self]
          have eu : zAr c (fun j => τ.1 30 (2 * j)) (fun j => τ.1 30 (2 * j + 1)) (i + 1) = ((zAr c (fun j => τ.1 30 (2 * j)) (fun j => τ.1 30 (2 * j + 1)) i) + (((τ.1 30 (2 * i)) * (τ.1 30 ((2 * j) + 1))) - ((τ.1 30 (2 * j)) * (τ.1 30 ((2 * i) + 1))))) := by
            show zAr c (fun j => τ.1 30 (2 * j)) (fun j => τ.1 30 (2 * j + 1)) i + zTu c (fun j => τ.1 30 (2 * j)) (fun j => τ.1 30 (2 * j + 1)) i = _
            unfold zTu
            rw [ez, Int32.mul_comm (τ.1 30 (2 * j))]
          rw [eu] at hw
          exact hw
      exact HA c 0 (by omega)
    | succ r ihK =>
      intro k c τ hkr hck hkc hS h27 h28 hLq hit
      have hIτ := zQI_eq hI hS.2.2
      have hnτ : τ.2.2.2 = σ.2.2.2 := congrArg Prod.snd hS.2.2
      refine zq (σ := τ) hV hIτ hnτ 3 ?_
      show (8 ≤ (nI k) → V 218 [(0, .ref 0), (1, .ref zsc), (2, .ref 30), (3, .int (nI c)), (4, .int (nI k))] [] τ) ∧ (¬ 8 ≤ (nI k) → V 27 [(0, .ref 0), (1, .ref zsc), (2, .ref 30), (3, .int (nI c)), (4, .int (nI k))] [] τ)
      refine ⟨fun hc => absurd hc (show ¬ (8 : Int32) ≤ nI k from nI_ge (a := k) (b := 8) (by omega) (by decide)), fun _ => ?_⟩
      refine zq (σ := τ) hV hIτ hnτ 3 ?_
      show zSp _ _ 82 [.ref zsc, .int (nI k)] τ (fun r σ' => σ'.2.2.2 = τ.2.2.2 + zAl 82 → V 33 [(0, .ref 0), (1, .ref zsc), (2, .ref 30), (3, .int (nI c)), (4, .int (nI k))] (r.toList ++ []) σ')
      refine cell_ok hL (k := k) rfl (by omega) (fun _ => ?_)
      generalize zCe zx k = x
      refine zq (σ := τ) hV hIτ hnτ 7 ?_
      show zSp _ _ 83 [.int (x >>> (2 &&& 31)), .int 10] τ (fun r σ' => σ'.2.2.2 = τ.2.2.2 + zAl 83 → V 45 [(5, .int x), (0, .ref 0), (1, .ref zsc), (2, .ref 30), (3, .int (nI c)), (4, .int (nI k))] (r.toList ++ [.int 2]) σ')
      refine up_ok (n := 10) rfl (by decide) (by decide) (fun _ => ?_)
      refine zq (σ := τ) hV hIτ hnτ 2 ?_
      show V 48 [(6, .int ((2 : Int32) + (nI (zUp (x >>> (2 &&& 31)) 10)))), (5, .int x), (0, .ref 0), (1, .ref zsc), (2, .ref 30), (3, .int (nI c)), (4, .int (nI k))] [] τ
      obtain ⟨f, hf, ef⟩ : ∃ f, f ≤ 11 ∧ (2 : Int32) + nI (zUp (x >>> (2 &&& 31)) 10) = nI f := ⟨2 + zUp (x >>> (2 &&& 31)) 10, by have := zUp_lt (x := x >>> (2 &&& 31)) (n := 10) (by decide); omega, nI_add 2 _⟩
      rw [ef]
      refine zwk hV [2, 3, 4, 5, 6, 1, 0] rfl ?_
      have H137 : ∀ a b : Int32, zBt (-1) 1 a → zBt (-1) 1 b → V 137 [(0, .ref 0), (1, .ref zsc), (2, .ref 30), (3, .int (nI c)), (4, .int (nI k)), (5, .int x), (6, .int (nI f)), (7, .int a), (8, .int b)] [] τ := by
        intro a b ha hb
        refine zq (σ := τ) hV hIτ hnτ 14 ?_
        show vp_in (2 * (nI c)) 20 ∧ V 155 [(0, .ref 0), (1, .ref zsc), (2, .ref 30), (3, .int (nI c)), (4, .int (nI k)), (5, .int x), (6, .int (nI f)), (7, .int a), (8, .int b)] [] (zuI τ 30 (Int32.toNatClampNeg (2 * (nI c))) ((a * (nI f)) + ((x >>> (8 &&& 31)) &&& 1)))
        refine ⟨zix (k := (2 * c)) (zn_m (a := 2) (b := c) rfl rfl) (by omega) (by decide), ?_⟩
        rw [zcl_k (i := (2 * (nI c))) (k := (2 * c)) (zn_m (a := 2) (b := c) rfl rfl) (by omega)]
        refine zq (σ := (zuI τ 30 (2 * c) ((a * (nI f)) + ((x >>> (8 &&& 31)) &&& 1)))) hV hIτ hnτ 10 ?_
        show vp_in ((2 * (nI c)) + 1) 20 ∧ V 167 [(0, .ref 0), (1, .ref zsc), (2, .ref 30), (3, .int (nI c)), (4, .int (nI k)), (5, .int x), (6, .int (nI f)), (7, .int a), (8, .int b)] [] (zuI (zuI τ 30 (2 * c) ((a * (nI f)) + ((x >>> (8 &&& 31)) &&& 1))) 30 (Int32.toNatClampNeg ((2 * (nI c)) + 1)) (b * (nI f)))
        refine ⟨zix (k := ((2 * c) + 1)) (zn_a (a := (2 * c)) (b := 1) (zn_m (a := 2) (b := c) rfl rfl) rfl) (by omega) (by decide), ?_⟩
        rw [zcl_k (i := ((2 * (nI c)) + 1)) (k := ((2 * c) + 1)) (zn_a (a := (2 * c)) (b := 1) (zn_m (a := 2) (b := c) rfl rfl) rfl) (by omega)]
        refine zwk hV [0, 1, 2, 3, 4] rfl ?_
        have H167 : ∀ υ : zSt, zOnly zfS σ υ → υ.1 27 3 = 1 → υ.1 28 3 = nI 20 → (∀ q, q < 4 → ∃ l, υ.1 28 q = nI l ∧ l ≤ 60) → (∀ j, j < 2 * (c + 1) → zBt (-30) 30 (υ.1 30 j)) → (∀ j, j < 2 * c → υ.1 29 (180 + j) = υ.1 30 j) → V 167 [(0, .ref 0), (1, .ref zsc), (2, .ref 30), (3, .int (nI c)), (4, .int (nI k))] [] υ := by
          intro υ gS g27 g28 gL hbd hold
          have hIυ := zQI_eq hI gS.2.2
          have hnυ : υ.2.2.2 = σ.2.2.2 := congrArg Prod.snd gS.2.2
          refine zq (σ := υ) hV hIυ hnυ 11 ?_
          show vp_in (2 * (nI c)) 20 ∧ V 178 [(0, .ref 0), (1, .ref zsc), (2, .ref 30), (3, .int (nI c)), (4, .int (nI k))] [.int (υ.1 30 (Int32.toNatClampNeg (2 * (nI c)))), .int (2 * (nI c)), .int 1, .int 3, .ref 0] υ
          refine ⟨zix (k := (2 * c)) (zn_m (a := 2) (b := c) rfl rfl) (by omega) (by decide), ?_⟩
          rw [zcl_k (i := (2 * (nI c))) (k := (2 * c)) (zn_m (a := 2) (b := c) rfl rfl) (by omega)]
          refine zq (σ := υ) hV hIυ hnυ 1 ?_
          show zSp _ _ 70 [.ref 0, .int 3, .int 1, .int (2 * (nI c)), .int (υ.1 30 (2 * c))] υ (fun r σ' => σ'.2.2.2 = υ.2.2.2 + zAl 70 → V 181 [(0, .ref 0), (1, .ref zsc), (2, .ref 30), (3, .int (nI c)), (4, .int (nI k))] (r.toList ++ []) σ')
          refine put3 (zR_of hIυ rfl rfl) (j := (2 * c)) (by omega) g27 g28 gL (hbd _ (by omega)) (zn_m (a := 2) (b := c) rfl rfl) (fun _ => ?_)
          refine zq (σ := (zuI υ 29 (180 + (2 * c)) (υ.1 30 (2 * c)))) hV hIυ hnυ 2 ?_
          show (¬ (1 : Int32) = 1 → V 207 [(0, .ref 0), (1, .ref zsc), (2, .ref 30), (3, .int (nI c)), (4, .int (nI k))] [] (zuI υ 29 (180 + (2 * c)) (υ.1 30 (2 * c)))) ∧ (¬ (¬ (1 : Int32) = 1) → V 185 [(0, .ref 0), (1, .ref zsc), (2, .ref 30), (3, .int (nI c)), (4, .int (nI k))] [] (zuI υ 29 (180 + (2 * c)) (υ.1 30 (2 * c))))
          refine ⟨fun hc => absurd hc (by decide), fun _ => ?_⟩
          refine zq (σ := (zuI υ 29 (180 + (2 * c)) (υ.1 30 (2 * c)))) hV hIυ hnυ 15 ?_
          show vp_in ((2 * (nI c)) + 1) 20 ∧ V 200 [(0, .ref 0), (1, .ref zsc), (2, .ref 30), (3, .int (nI c)), (4, .int (nI k))] [.int (υ.1 30 (Int32.toNatClampNeg ((2 * (nI c)) + 1))), .int ((2 * (nI c)) + 1), .int 1, .int 3, .ref 0] (zuI υ 29 (180 + (2 * c)) (υ.1 30 (2 * c)))
          refine ⟨zix (k := ((2 * c) + 1)) (zn_a (a := (2 * c)) (b := 1) (zn_m (a := 2) (b := c) rfl rfl) rfl) (by omega) (by decide), ?_⟩
          rw [zcl_k (i := ((2 * (nI c)) + 1)) (k := ((2 * c) + 1)) (zn_a (a := (2 * c)) (b := 1) (zn_m (a := 2) (b := c) rfl rfl) rfl) (by omega)]
          refine zq (σ := (zuI υ 29 (180 + (2 * c)) (υ.1 30 (2 * c)))) hV hIυ hnυ 1 ?_
          show zSp _ _ 70 [.ref 0, .int 3, .int 1, .int ((2 * (nI c)) + 1), .int (υ.1 30 ((2 * c) + 1))] (zuI υ 29 (180 + (2 * c)) (υ.1 30 (2 * c))) (fun r σ' => σ'.2.2.2 = (zuI υ 29 (180 + (2 * c)) (υ.1 30 (2 * c))).2.2.2 + zAl 70 → V 203 [(0, .ref 0), (1, .ref zsc), (2, .ref 30), (3, .int (nI c)), (4, .int (nI k))] (r.toList ++ []) σ')
          refine put3 (zR_of hIυ rfl rfl) (j := ((2 * c) + 1)) (by omega) g27 g28 gL (hbd _ (by omega)) (zn_a (a := (2 * c)) (b := 1) (zn_m (a := 2) (b := c) rfl rfl) rfl) (fun _ => ?_)
          refine zq (σ := (zuI (zuI υ 29 (180 + (2 * c)) (υ.1 30 (2 * c))) 29 (180 + ((2 * c) + 1)) (υ.1 30 ((2 * c) + 1)))) hV hIυ hnυ 2 ?_
          show ((1 : Int32) = 1 → V 209 [(0, .ref 0), (1, .ref zsc), (2, .ref 30), (3, .int (nI c)), (4, .int (nI k))] [] (zuI (zuI υ 29 (180 + (2 * c)) (υ.1 30 (2 * c))) 29 (180 + ((2 * c) + 1)) (υ.1 30 ((2 * c) + 1)))) ∧ (¬ (1 : Int32) = 1 → V 207 [(0, .ref 0), (1, .ref zsc), (2, .ref 30), (3, .int (nI c)), (4, .int (nI k))] [] (zuI (zuI υ 29 (180 + (2 * c)) (υ.1 30 (2 * c))) 29 (180 + ((2 * c) + 1)) (υ.1 30 ((2 * c) + 1))))
          refine ⟨fun _ => ?_, fun hc => absurd (by decide) hc⟩
          refine zq (σ := (zuI (zuI υ 29 (180 + (2 * c)) (υ.1 30 (2 * c))) 29 (180 + ((2 * c) + 1)) (υ.1 30 ((2 * c) + 1)))) hV hIυ hnυ 3 ?_
          show V 20 [(4, .int ((nI k) + 1)), (3, .int ((nI c) + 1)), (0, .ref 0), (1, .ref zsc), (2, .ref 30)] [] (zuI (zuI υ 29 (180 + (2 * c)) (υ.1 30 (2 * c))) 29 (180 + ((2 * c) + 1)) (υ.1 30 ((2 * c) + 1)))
          refine zwk hV [2, 3, 4, 1, 0] rfl ?_
          rw [nI_1 c, nI_1 k]
          refine ihK (k + 1) (c + 1) _ (by omega) (by omega) (by omega) ((gS.uI (a := 29) rfl).uI (a := 29) rfl) g27 g28 gL (fun j hj => ⟨hbd j hj, ?_⟩)
          show (zuI (zuI υ 29 (180 + (2 * c)) (υ.1 30 (2 * c))) 29 (180 + ((2 * c) + 1)) (υ.1 30 ((2 * c) + 1))).1 29 (180 + j) = υ.1 30 j
          rw [zuI_get, zuI_get]
          by_cases e1 : j = 2 * c + 1
          · rw [if_pos ⟨rfl, by omega⟩, e1]
          · rw [if_neg (fun q => e1 (by omega))]
            by_cases e0 : j = 2 * c
            · rw [if_pos ⟨rfl, by omega⟩, e0]
            · rw [if_neg (fun q => e0 (by omega))]; exact hold j (by omega)
        have hfb : zBt (-11) 11 (nI f) := by unfold zBt; rw [nI_toInt (by omega)]; omega
        have hA : zBt (-30) 30 ((a * (nI f)) + ((x >>> (8 &&& 31)) &&& 1)) := by
          obtain ⟨j, h1, h2⟩ := pk_andE (x >>> (8 &&& 31)) (m := 1) 1 (by decide)
          have hj : zBt (-1) 1 (nI j) := by unfold zBt; rw [nI_toInt (by omega)]; omega
          rw [h2]
          exact zBtm (zaddB (A := 11) (B := 1) (zmulB2 (A := 1) (B := 11) ha hfb (by decide)) hj (by decide)).2 (by decide) (by decide)
        have hB : zBt (-30) 30 (b * (nI f)) := zBtm (zmulB2 (A := 1) (B := 11) hb hfb (by decide)) (by decide) (by decide)
        refine H167 _ ((hS.uI (a := 30) rfl).uI (a := 30) rfl) h27 h28 hLq (fun j hj => ?_) (fun j hj => ?_)
        · rw [zuI_get, zuI_get]
          by_cases e1 : j = 2 * c + 1
          · rw [if_pos ⟨rfl, e1⟩]; exact hB
          · rw [if_neg (fun q => e1 q.2)]
            by_cases e0 : j = 2 * c
            · rw [if_pos ⟨rfl, e0⟩]; exact hA
            · rw [if_neg (fun q => e0 q.2)]; exact (hit j (by omega)).1
        · rw [zuI_get _ 30 _ _ 30, zuI_get _ 30 _ _ 30, if_neg (fun q => by omega), if_neg (fun q => by omega), ← (hit j hj).2]
          rfl
      have Hy : ∀ a b : Int32, zBt (-1) 1 a → zBt (-1) 1 b → V 121 [(0, .ref 0), (1, .ref zsc), (2, .ref 30), (3, .int (nI c)), (4, .int (nI k)), (5, .int x), (6, .int (nI f)), (7, .int a)] [.int b] τ := by
        intro a b ha hb
        refine zq (σ := τ) hV hIτ hnτ 4 ?_
        show (¬ (2 : Int32) = 0) ∧ V 127 [(8, .int b), (0, .ref 0), (1, .ref zsc), (2, .ref 30), (3, .int (nI c)), (4, .int (nI k)), (5, .int x), (6, .int (nI f)), (7, .int a)] [.int ((nI k) - (nI k) / 2 * 2)] τ
        refine ⟨by decide, ?_⟩
        refine zq (σ := τ) hV hIτ hnτ 1 ?_
        show (((nI k) - (nI k) / 2 * 2) = 0 → V 137 [(8, .int b), (0, .ref 0), (1, .ref zsc), (2, .ref 30), (3, .int (nI c)), (4, .int (nI k)), (5, .int x), (6, .int (nI f)), (7, .int a)] [] τ) ∧ (¬ ((nI k) - (nI k) / 2 * 2) = 0 → V 130 [(8, .int b), (0, .ref 0), (1, .ref zsc), (2, .ref 30), (3, .int (nI c)), (4, .int (nI k)), (5, .int x), (6, .int (nI f)), (7, .int a)] [] τ)
        refine ⟨fun h_127 => ?_, fun h_127 => ?_⟩
        · skip
          refine zwk hV [1, 2, 3, 4, 5, 6, 7, 8, 0] rfl ?_
          exact H137 a b ha hb
        · skip
          have hod : ¬ k % 2 = 0 := fun q => h_127 (by rw [show (2 : Int32) = nI 2 from rfl, pk_rem (by omega) (by decide) (by decide), q]; rfl)
          refine zq (σ := τ) hV hIτ hnτ 4 ?_
          show ((x &&& 3) ≤ 0 → V 212 [(8, .int b), (0, .ref 0), (1, .ref zsc), (2, .ref 30), (3, .int (nI c)), (4, .int (nI k)), (5, .int x), (6, .int (nI f)), (7, .int a)] [] τ) ∧ (¬ (x &&& 3) ≤ 0 → V 137 [(8, .int b), (0, .ref 0), (1, .ref zsc), (2, .ref 30), (3, .int (nI c)), (4, .int (nI k)), (5, .int x), (6, .int (nI f)), (7, .int a)] [] τ)
          refine ⟨fun h_134 => ?_, fun h_134 => ?_⟩
          · skip
            refine zq (σ := τ) hV hIτ hnτ 2 ?_
            show V 20 [(4, .int ((nI k) + 1)), (8, .int b), (0, .ref 0), (1, .ref zsc), (2, .ref 30), (3, .int (nI c)), (5, .int x), (6, .int (nI f)), (7, .int a)] [] τ
            refine zwk hV [2, 3, 4, 5, 0] rfl ?_
            rw [nI_1 k]
            exact ihK (k + 1) c τ (by omega) (by omega) (by omega) hS h27 h28 hLq hit
          · skip
            refine zwk hV [1, 2, 3, 4, 5, 6, 7, 8, 0] rfl ?_
            exact H137 a b ha hb
      have Hx : ∀ a : Int32, zBt (-1) 1 a → V 88 [(0, .ref 0), (1, .ref zsc), (2, .ref 30), (3, .int (nI c)), (4, .int (nI k)), (5, .int x), (6, .int (nI f))] [.int a] τ := by
        intro a ha
        refine zq (σ := τ) hV hIτ hnτ 3 ?_
        show ((nI k) ≤ 0 → V 105 [(7, .int a), (0, .ref 0), (1, .ref zsc), (2, .ref 30), (3, .int (nI c)), (4, .int (nI k)), (5, .int x), (6, .int (nI f))] [] τ) ∧ (¬ (nI k) ≤ 0 → V 95 [(7, .int a), (0, .ref 0), (1, .ref zsc), (2, .ref 30), (3, .int (nI c)), (4, .int (nI k)), (5, .int x), (6, .int (nI f))] [] τ)
        refine ⟨fun h_92 => ?_, fun h_92 => ?_⟩
        · skip
          refine zq (σ := τ) hV hIτ hnτ 2 ?_
          show ((nI k) = 0 → V 116 [(7, .int a), (0, .ref 0), (1, .ref zsc), (2, .ref 30), (3, .int (nI c)), (4, .int (nI k)), (5, .int x), (6, .int (nI f))] [] τ) ∧ (¬ (nI k) = 0 → V 110 [(7, .int a), (0, .ref 0), (1, .ref zsc), (2, .ref 30), (3, .int (nI c)), (4, .int (nI k)), (5, .int x), (6, .int (nI f))] [] τ)
          refine ⟨fun h_107 => ?_, fun h_107 => ?_⟩
          · skip
            refine zq (σ := τ) hV hIτ hnτ 2 ?_
            show V 121 [(7, .int a), (0, .ref 0), (1, .ref zsc), (2, .ref 30), (3, .int (nI c)), (4, .int (nI k)), (5, .int x), (6, .int (nI f))] [.int 0] τ
            refine zwk hV [1, 2, 3, 4, 5, 6, 7, 0] rfl ?_
            exact Hy a 0 ha ⟨by decide, by decide⟩
          · skip
            refine zq (σ := τ) hV hIτ hnτ 3 ?_
            show (¬ (nI k) = 4 → V 120 [(7, .int a), (0, .ref 0), (1, .ref zsc), (2, .ref 30), (3, .int (nI c)), (4, .int (nI k)), (5, .int x), (6, .int (nI f))] [] τ) ∧ (¬ (¬ (nI k) = 4) → V 116 [(7, .int a), (0, .ref 0), (1, .ref zsc), (2, .ref 30), (3, .int (nI c)), (4, .int (nI k)), (5, .int x), (6, .int (nI f))] [] τ)
            refine ⟨fun h_113 => ?_, fun h_113 => ?_⟩
            · skip
              refine zq (σ := τ) hV hIτ hnτ 1 ?_
              show V 121 [(7, .int a), (0, .ref 0), (1, .ref zsc), (2, .ref 30), (3, .int (nI c)), (4, .int (nI k)), (5, .int x), (6, .int (nI f))] [.int (-1)] τ
              refine zwk hV [1, 2, 3, 4, 5, 6, 7, 0] rfl ?_
              exact Hy a (-1) ha ⟨by decide, by decide⟩
            · skip
              have h_113 := Classical.not_not.mp h_113
              refine zq (σ := τ) hV hIτ hnτ 2 ?_
              show V 121 [(7, .int a), (0, .ref 0), (1, .ref zsc), (2, .ref 30), (3, .int (nI c)), (4, .int (nI k)), (5, .int x), (6, .int (nI f))] [.int 0] τ
              refine zwk hV [1, 2, 3, 4, 5, 6, 7, 0] rfl ?_
              exact Hy a 0 ha ⟨by decide, by decide⟩
        · skip
          refine zq (σ := τ) hV hIτ hnτ 3 ?_
          show (4 ≤ (nI k) → V 105 [(7, .int a), (0, .ref 0), (1, .ref zsc), (2, .ref 30), (3, .int (nI c)), (4, .int (nI k)), (5, .int x), (6, .int (nI f))] [] τ) ∧ (¬ 4 ≤ (nI k) → V 101 [(7, .int a), (0, .ref 0), (1, .ref zsc), (2, .ref 30), (3, .int (nI c)), (4, .int (nI k)), (5, .int x), (6, .int (nI f))] [] τ)
          refine ⟨fun h_98 => ?_, fun h_98 => ?_⟩
          · skip
            refine zq (σ := τ) hV hIτ hnτ 2 ?_
            show ((nI k) = 0 → V 116 [(7, .int a), (0, .ref 0), (1, .ref zsc), (2, .ref 30), (3, .int (nI c)), (4, .int (nI k)), (5, .int x), (6, .int (nI f))] [] τ) ∧ (¬ (nI k) = 0 → V 110 [(7, .int a), (0, .ref 0), (1, .ref zsc), (2, .ref 30), (3, .int (nI c)), (4, .int (nI k)), (5, .int x), (6, .int (nI f))] [] τ)
            refine ⟨fun h_107 => ?_, fun h_107 => ?_⟩
            · skip
              refine zq (σ := τ) hV hIτ hnτ 2 ?_
              show V 121 [(7, .int a), (0, .ref 0), (1, .ref zsc), (2, .ref 30), (3, .int (nI c)), (4, .int (nI k)), (5, .int x), (6, .int (nI f))] [.int 0] τ
              refine zwk hV [1, 2, 3, 4, 5, 6, 7, 0] rfl ?_
              exact Hy a 0 ha ⟨by decide, by decide⟩
            · skip
              refine zq (σ := τ) hV hIτ hnτ 3 ?_
              show (¬ (nI k) = 4 → V 120 [(7, .int a), (0, .ref 0), (1, .ref zsc), (2, .ref 30), (3, .int (nI c)), (4, .int (nI k)), (5, .int x), (6, .int (nI f))] [] τ) ∧ (¬ (¬ (nI k) = 4) → V 116 [(7, .int a), (0, .ref 0), (1, .ref zsc), (2, .ref 30), (3, .int (nI c)), (4, .int (nI k)), (5, .int x), (6, .int (nI f))] [] τ)
              refine ⟨fun h_113 => ?_, fun h_113 => ?_⟩
              · skip
                refine zq (σ := τ) hV hIτ hnτ 1 ?_
                show V 121 [(7, .int a), (0, .ref 0), (1, .ref zsc), (2, .ref 30), (3, .int (nI c)), (4, .int (nI k)), (5, .int x), (6, .int (nI f))] [.int (-1)] τ
                refine zwk hV [1, 2, 3, 4, 5, 6, 7, 0] rfl ?_
                exact Hy a (-1) ha ⟨by decide, by decide⟩
              · skip
                have h_113 := Classical.not_not.mp h_113
                refine zq (σ := τ) hV hIτ hnτ 2 ?_
                show V 121 [(7, .int a), (0, .ref 0), (1, .ref zsc), (2, .ref 30), (3, .int (nI c)), (4, .int (nI k)), (5, .int x), (6, .int (nI f))] [.int 0] τ
                refine zwk hV [1, 2, 3, 4, 5, 6, 7, 0] rfl ?_
                exact Hy a 0 ha ⟨by decide, by decide⟩
          · skip
            refine zq (σ := τ) hV hIτ hnτ 2 ?_
            show V 121 [(7, .int a), (0, .ref 0), (1, .ref zsc), (2, .ref 30), (3, .int (nI c)), (4, .int (nI k)), (5, .int x), (6, .int (nI f))] [.int 1] τ
            refine zwk hV [1, 2, 3, 4, 5, 6, 7, 0] rfl ?_
            exact Hy a 1 ha ⟨by decide, by decide⟩
      refine zq (σ := τ) hV hIτ hnτ 2 ?_
      show ((nI k) = 0 → V 66 [(0, .ref 0), (1, .ref zsc), (2, .ref 30), (3, .int (nI c)), (4, .int (nI k)), (5, .int x), (6, .int (nI f))] [] τ) ∧ (¬ (nI k) = 0 → V 53 [(0, .ref 0), (1, .ref zsc), (2, .ref 30), (3, .int (nI c)), (4, .int (nI k)), (5, .int x), (6, .int (nI f))] [] τ)
      refine ⟨fun h_50 => ?_, fun h_50 => ?_⟩
      · skip
        refine zq (σ := τ) hV hIτ hnτ 2 ?_
        show V 88 [(0, .ref 0), (1, .ref zsc), (2, .ref 30), (3, .int (nI c)), (4, .int (nI k)), (5, .int x), (6, .int (nI f))] [.int 1] τ
        refine zwk hV [0, 1, 2, 3, 4, 5, 6] rfl ?_
        exact Hx 1 ⟨by decide, by decide⟩
      · skip
        refine zq (σ := τ) hV hIτ hnτ 3 ?_
        show ((nI k) = 1 → V 66 [(0, .ref 0), (1, .ref zsc), (2, .ref 30), (3, .int (nI c)), (4, .int (nI k)), (5, .int x), (6, .int (nI f))] [] τ) ∧ (¬ (nI k) = 1 → V 59 [(0, .ref 0), (1, .ref zsc), (2, .ref 30), (3, .int (nI c)), (4, .int (nI k)), (5, .int x), (6, .int (nI f))] [] τ)
        refine ⟨fun h_56 => ?_, fun h_56 => ?_⟩
        · skip
          refine zq (σ := τ) hV hIτ hnτ 2 ?_
          show V 88 [(0, .ref 0), (1, .ref zsc), (2, .ref 30), (3, .int (nI c)), (4, .int (nI k)), (5, .int x), (6, .int (nI f))] [.int 1] τ
          refine zwk hV [0, 1, 2, 3, 4, 5, 6] rfl ?_
          exact Hx 1 ⟨by decide, by decide⟩
        · skip
          refine zq (σ := τ) hV hIτ hnτ 3 ?_
          show (¬ (nI k) = 7 → V 70 [(0, .ref 0), (1, .ref zsc), (2, .ref 30), (3, .int (nI c)), (4, .int (nI k)), (5, .int x), (6, .int (nI f))] [] τ) ∧ (¬ (¬ (nI k) = 7) → V 66 [(0, .ref 0), (1, .ref zsc), (2, .ref 30), (3, .int (nI c)), (4, .int (nI k)), (5, .int x), (6, .int (nI f))] [] τ)
          refine ⟨fun h_63 => ?_, fun h_63 => ?_⟩
          · skip
            refine zq (σ := τ) hV hIτ hnτ 3 ?_
            show ((nI k) = 2 → V 83 [(0, .ref 0), (1, .ref zsc), (2, .ref 30), (3, .int (nI c)), (4, .int (nI k)), (5, .int x), (6, .int (nI f))] [] τ) ∧ (¬ (nI k) = 2 → V 76 [(0, .ref 0), (1, .ref zsc), (2, .ref 30), (3, .int (nI c)), (4, .int (nI k)), (5, .int x), (6, .int (nI f))] [] τ)
            refine ⟨fun h_73 => ?_, fun h_73 => ?_⟩
            · skip
              refine zq (σ := τ) hV hIτ hnτ 2 ?_
              show V 88 [(0, .ref 0), (1, .ref zsc), (2, .ref 30), (3, .int (nI c)), (4, .int (nI k)), (5, .int x), (6, .int (nI f))] [.int 0] τ
              refine zwk hV [0, 1, 2, 3, 4, 5, 6] rfl ?_
              exact Hx 0 ⟨by decide, by decide⟩
            · skip
              refine zq (σ := τ) hV hIτ hnτ 3 ?_
              show (¬ (nI k) = 6 → V 87 [(0, .ref 0), (1, .ref zsc), (2, .ref 30), (3, .int (nI c)), (4, .int (nI k)), (5, .int x), (6, .int (nI f))] [] τ) ∧ (¬ (¬ (nI k) = 6) → V 83 [(0, .ref 0), (1, .ref zsc), (2, .ref 30), (3, .int (nI c)), (4, .int (nI k)), (5, .int x), (6, .int (nI f))] [] τ)
              refine ⟨fun h_80 => ?_, fun h_80 => ?_⟩
              · skip
                refine zq (σ := τ) hV hIτ hnτ 1 ?_
                show V 88 [(0, .ref 0), (1, .ref zsc), (2, .ref 30), (3, .int (nI c)), (4, .int (nI k)), (5, .int x), (6, .int (nI f))] [.int (-1)] τ
                refine zwk hV [0, 1, 2, 3, 4, 5, 6] rfl ?_
                exact Hx (-1) ⟨by decide, by decide⟩
              · skip
                have h_80 := Classical.not_not.mp h_80
                refine zq (σ := τ) hV hIτ hnτ 2 ?_
                show V 88 [(0, .ref 0), (1, .ref zsc), (2, .ref 30), (3, .int (nI c)), (4, .int (nI k)), (5, .int x), (6, .int (nI f))] [.int 0] τ
                refine zwk hV [0, 1, 2, 3, 4, 5, 6] rfl ?_
                exact Hx 0 ⟨by decide, by decide⟩
          · skip
            have h_63 := Classical.not_not.mp h_63
            refine zq (σ := τ) hV hIτ hnτ 2 ?_
            show V 88 [(0, .ref 0), (1, .ref zsc), (2, .ref 30), (3, .int (nI c)), (4, .int (nI k)), (5, .int x), (6, .int (nI f))] [.int 1] τ
            refine zwk hV [0, 1, 2, 3, 4, 5, 6] rfl ?_
            exact Hx 1 ⟨by decide, by decide⟩
  refine HK 8 0 0 τ rfl (Nat.le_refl _) (Nat.le_refl _) (ht.wk zfRn_S) e27 e28 (fun q hq => ?_) (fun j hj => absurd hj (Nat.not_lt_zero j))
  by_cases e : q = 3
  · exact ⟨20, by rw [e]; exact e28, by decide⟩
  · have e2 : τ.1 28 q = σ.1 28 q := ht.1 28 q (by
      have c2 : Nat.beq q 3 = false := by rw [← Bool.not_eq_true, Nat.beq_eq]; exact e
      unfold zfRn
      rw [c2]
      rfl)
    rw [e2]; exact hLs q hq
