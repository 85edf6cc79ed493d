variable {zx : Nat × (Nat → Int32)}
variable {n k s : Nat} {X Y E S su sv sw : Nat → Int32} {g : Int32} {d : Nat} {σ : zSt} {K : Option Value → zSt → Prop}
/-- what the law knows of the bench: the part, the fingers, the friction, the spots -/
def zLS (n : Nat) (X Y E S : Nat → Int32) (k : Nat) (g : Int32) (s : Nat) (su sv sw : Nat → Int32) (τ : zSt) : Prop := (zQI (kR 0 31) τ.2.2 ∧ τ.2.2.2 = 31) ∧ (τ.1 1 2 = nI n ∧ τ.1 2 = X ∧ τ.1 3 = Y) ∧ (τ.1 4 2 = nI k ∧ τ.1 5 = E ∧ τ.1 6 = S) ∧ τ.1 0 9 = g ∧ τ.1 14 3 = nI s ∧ τ.1 15 = su ∧ τ.1 16 = sv ∧ τ.1 17 = sw
theorem zLS_C {τ : zSt} (h : zLS n X Y E S k g s su sv sw σ) (ht : zOnly zfC σ τ) : zLS n X Y E S k g s su sv sw τ := by
  obtain ⟨⟨h1, h2⟩, ⟨a1, a2, a3⟩, ⟨b1, b2, b3⟩, c1, d1, d2, d3, d4⟩ := h
  exact ⟨⟨zQI_eq h1 ht.2.2, (congrArg Prod.snd ht.2.2).trans h2⟩, ⟨(ht.1 1 2 rfl).trans a1, (funext fun j => ht.1 2 j rfl).trans a2, (funext fun j => ht.1 3 j rfl).trans a3⟩, ⟨(ht.1 4 2 rfl).trans b1, (funext fun j => ht.1 5 j rfl).trans b2, (funext fun j => ht.1 6 j rfl).trans b3⟩, (ht.1 0 9 rfl).trans c1, (ht.1 14 3 rfl).trans d1, (funext fun j => ht.1 15 j rfl).trans d2, (funext fun j => ht.1 16 j rfl).trans d3, (funext fun j => ht.1 17 j rfl).trans d4⟩
/-- whether they hold, as 1 or 0 -/
noncomputable def zWh (n : Nat) (X Y E S : Nat → Int32) (g : Int32) (k : Nat) : Int32 := zb (zDc (zHo n X Y g E S k))
theorem zWh_t (h : zHo n X Y g E S k) : zWh n X Y E S g k = 1 := by unfold zWh; rw [zDc_t h]; rfl
theorem zWh_f (h : ¬ zHo n X Y g E S k) : zWh n X Y E S g k = 0 := by unfold zWh; rw [zDc_f h]; rfl
/-- the edges and places are such as there are -/
def zEs (n : Nat) (E S : Nat → Int32) (k : Nat) : Prop := (∀ i, i < k → ∃ e, E i = nI e ∧ e < n) ∧ ∀ i, i < k → zBt 0 8 (S i)
theorem holds_L (h : zLS n X Y E S k g s su sv sw σ) (hn : n ≤ 10) (hk : k ≤ 8) (hE : zEs n E S k) (hK : ∀ τ, zLS n X Y E S k g s su sv sw τ → K (some (.int (zWh n X Y E S g k))) τ) : zSp zx (d + 5) mX8_holds [.ref 0] σ K := by
  have h' := h
  obtain ⟨⟨h1, h2⟩, ⟨a1, a2, a3⟩, ⟨b1, b2, b3⟩, c1, d1, d2, d3, d4⟩ := h
  refine holds_C (zR_of h1 rfl rfl) a1 hn b1 hk (by rw [b2]; exact hE.1) (fun τ ht q => ?_) (fun τ ht q => ?_)
  · rw [a2, a3, c1, b2, b3] at q
    have w := hK τ (zLS_C h' (ht.wk zfW_C))
    rw [zWh_t q] at w; exact w
  · rw [a2, a3, c1, b2, b3] at q
    have w := hK τ (zLS_C h' (ht.wk zfW_C))
    rw [zWh_f q] at w; exact w
theorem friction_L {f : Int32} (h : zLS n X Y E S k g s su sv sw σ) (hf : zBt 0 16 f) (hK : ∀ τ, zLS n X Y E S k f s su sv sw τ → K (some (.int g)) τ) : zSp zx (d + 1) mX8_friction [.ref 0, .int f] σ K := by
  obtain ⟨⟨h1, h2⟩, ⟨a1, a2, a3⟩, ⟨b1, b2, b3⟩, c1, d1, d2, d3, d4⟩ := h
  refine friction_C (zR_of h1 rfl rfl) (fun q => absurd hf q) (fun _ => ?_)
  rw [c1]
  exact hK _ ⟨⟨h1, h2⟩, ⟨a1, a2, a3⟩, ⟨b1, b2, b3⟩, by rw [zuI_get, if_pos ⟨rfl, rfl⟩], d1, d2, d3, d4⟩
theorem finger_L {e q : Int32} {j : Nat} (h : zLS n X Y E S k g s su sv sw σ) (hn : n ≤ 10) (hk : k < 8) (he : e = nI j) (hj : j < n) (hq : zBt 0 8 q) (hK : ∀ τ, zLS n X Y (upd E k e) (upd S k q) (k + 1) g s su sv sw τ → K (some (.int (nI k))) τ) : zSp zx (d + 4) mX8_finger [.ref 0, .int e, .int q] σ K := by
  obtain ⟨⟨h1, h2⟩, ⟨a1, a2, a3⟩, ⟨b1, b2, b3⟩, c1, d1, d2, d3, d4⟩ := h
  have hb : zBt 0 (n - 1) e ∧ zBt 0 8 q := ⟨by unfold zBt; rw [he, nI_toInt (by omega)]; omega, hq⟩
  refine finger_C (zR_of h1 rfl rfl) a1 hn b1 (by omega) (fun w => absurd hb w) (fun _ w => by omega) (fun _ _ => ?_)
  exact hK _ ⟨⟨h1, h2⟩, ⟨a1, a2, a3⟩, ⟨by rw [zuI_get, if_pos ⟨rfl, rfl⟩], by rw [← b2]; rfl, by rw [← b3]; rfl⟩, c1, d1, d2, d3, d4⟩
def zA1 (n : Nat) (X Y E : Nat → Int32) (g : Int32) : Nat → Int64 := zl (zT1 n X Y g E)
def zA2 (n : Nat) (X Y E : Nat → Int32) (g : Int32) : Nat → Int64 := zl (zT2 n X Y g E)
def zA3 (n : Nat) (X Y E S : Nat → Int32) (g : Int32) : Nat → Int64 := zl (zT3 n X Y g E S)
theorem push_L0 {t : Int32} {j : Nat} (h : zLS n X Y E S k g s su sv sw σ) (hn : n ≤ 10) (hk : k ≤ 8) (hE : zEs n E S k) (ht : t = nI j) (hj : j < zMl g k) (hK : ∀ τ, zLS n X Y E S k g s su sv sw τ → K (some (.long (zA1 n X Y E g j))) τ) : zSp zx (d + 4) mX8_push [.ref 0, .int t, .int 0] σ K := by
  have h' := h
  obtain ⟨⟨h1, h2⟩, ⟨a1, a2, a3⟩, ⟨b1, b2, b3⟩, c1, d1, d2, d3, d4⟩ := h
  have hm := @zMl_le g k hk
  refine push_C (zR_of h1 rfl rfl) a1 hn b1 hk (by rw [b2]; exact hE.1) (fun τ hτ q => ?_) (fun τ i hτ e hi _ => ?_)
  · refine absurd ⟨?_, ⟨by decide, by decide⟩⟩ q
    unfold zBt; rw [ht, nI_toInt (by omega), c1]; omega
  · rw [c1] at hi
    have e2 : i = j := ((nI_eq (a := j) (b := i) (by omega) (by omega)).mp (ht.symm.trans e)).symm
    rw [e2, a2, a3, c1, b2, b3, if_pos rfl]
    exact hK τ (zLS_C h' (hτ.wk zfW_C))
theorem push_L1 {t : Int32} {j : Nat} (h : zLS n X Y E S k g s su sv sw σ) (hn : n ≤ 10) (hk : k ≤ 8) (hE : zEs n E S k) (ht : t = nI j) (hj : j < zMl g k) (hK : ∀ τ, zLS n X Y E S k g s su sv sw τ → K (some (.long (zA2 n X Y E g j))) τ) : zSp zx (d + 4) mX8_push [.ref 0, .int t, .int 1] σ K := by
  have h' := h
  obtain ⟨⟨h1, h2⟩, ⟨a1, a2, a3⟩, ⟨b1, b2, b3⟩, c1, d1, d2, d3, d4⟩ := h
  have hm := @zMl_le g k hk
  refine push_C (zR_of h1 rfl rfl) a1 hn b1 hk (by rw [b2]; exact hE.1) (fun τ hτ q => ?_) (fun τ i hτ e hi _ => ?_)
  · refine absurd ⟨?_, ⟨by decide, by decide⟩⟩ q
    unfold zBt; rw [ht, nI_toInt (by omega), c1]; omega
  · rw [c1] at hi
    have e2 : i = j := ((nI_eq (a := j) (b := i) (by omega) (by omega)).mp (ht.symm.trans e)).symm
    rw [e2, a2, a3, c1, b2, b3, if_neg (by decide), if_pos rfl]
    exact hK τ (zLS_C h' (hτ.wk zfW_C))
theorem push_L2 {t : Int32} {j : Nat} (h : zLS n X Y E S k g s su sv sw σ) (hn : n ≤ 10) (hk : k ≤ 8) (hE : zEs n E S k) (ht : t = nI j) (hj : j < zMl g k) (hK : ∀ τ, zLS n X Y E S k g s su sv sw τ → K (some (.long (zA3 n X Y E S g j))) τ) : zSp zx (d + 4) mX8_push [.ref 0, .int t, .int 2] σ K := by
  have h' := h
  obtain ⟨⟨h1, h2⟩, ⟨a1, a2, a3⟩, ⟨b1, b2, b3⟩, c1, d1, d2, d3, d4⟩ := h
  have hm := @zMl_le g k hk
  refine push_C (zR_of h1 rfl rfl) a1 hn b1 hk (by rw [b2]; exact hE.1) (fun τ hτ q => ?_) (fun τ i hτ e hi _ => ?_)
  · refine absurd ⟨?_, ⟨by decide, by decide⟩⟩ q
    unfold zBt; rw [ht, nI_toInt (by omega), c1]; omega
  · rw [c1] at hi
    have e2 : i = j := ((nI_eq (a := j) (b := i) (by omega) (by omega)).mp (ht.symm.trans e)).symm
    rw [e2, a2, a3, c1, b2, b3, if_neg (by decide), if_neg (by decide)]
    exact hK τ (zLS_C h' (hτ.wk zfW_C))
theorem push_Lx {t : Int32} (h : zLS n X Y E S k g s su sv sw σ) (hn : n ≤ 10) (hk : k ≤ 8) (hE : zEs n E S k) (ht : t = nI (zMl g k)) (hK : ∀ τ, zLS n X Y E S k g s su sv sw τ → K (some (.long (-9223372036854775806))) τ) : zSp zx (d + 4) mX8_push [.ref 0, .int t, .int 0] σ K := by
  have h' := h
  obtain ⟨⟨h1, h2⟩, ⟨a1, a2, a3⟩, ⟨b1, b2, b3⟩, c1, d1, d2, d3, d4⟩ := h
  have hm := @zMl_le g k hk
  refine push_C (zR_of h1 rfl rfl) a1 hn b1 hk (by rw [b2]; exact hE.1) (fun τ hτ q => ?_) (fun τ i hτ e hi _ => ?_)
  · rw [show zRf (-2) = -9223372036854775806 by decide]
    exact hK τ (zLS_C h' (hτ.wk zfW_C))
  · rw [c1] at hi
    have e2 : i = zMl g k := ((nI_eq (a := zMl g k) (b := i) (by omega) (by omega)).mp (ht.symm.trans e)).symm
    omega
theorem count_L2 (h : zLS n X Y E S k g s su sv sw σ) (hK : K (some (.int g)) σ) : zSp zx (d + 3) mX8_count [.ref 0, .int 2] σ K := by
  obtain ⟨⟨h1, h2⟩, ⟨a1, a2, a3⟩, ⟨b1, b2, b3⟩, c1, d1, d2, d3, d4⟩ := h
  refine count_C (zR_of h1 rfl rfl) ?_
  unfold zCt
  rw [if_neg (by decide), if_neg (by decide), if_pos rfl, c1]
  exact hK
theorem count_L1 (h : zLS n X Y E S k g s su sv sw σ) (hK : K (some (.int (nI k))) σ) : zSp zx (d + 3) mX8_count [.ref 0, .int 1] σ K := by
  obtain ⟨⟨h1, h2⟩, ⟨a1, a2, a3⟩, ⟨b1, b2, b3⟩, c1, d1, d2, d3, d4⟩ := h
  refine count_C (zR_of h1 rfl rfl) ?_
  unfold zCt
  rw [if_neg (by decide), if_pos rfl, b1]
  exact hK
/-- a witness is told of these two -/
def zWt (n : Nat) (X Y E S : Nat → Int32) (g : Int32) (k u v : Nat) : Prop := zFst (zA1 n X Y E g) (zA2 n X Y E g) (zA3 n X Y E S g) (zMl g k) u v ∧ (zBe (zA1 n X Y E g) (zA2 n X Y E g) (zA3 n X Y E S g) (zMl g k) u v || zAe (zA1 n X Y E g) (zA2 n X Y E g) (zA3 n X Y E S g) (zMl g k) u v) = true
def zWb (n : Nat) (X Y E S : Nat → Int32) (g : Int32) (k u v : Nat) : Bool := zBe (zA1 n X Y E g) (zA2 n X Y E g) (zA3 n X Y E S g) (zMl g k) u v
def zW1 (n : Nat) (X Y E S : Nat → Int32) (g : Int32) (k u v : Nat) : Int64 := zsn (zWb n X Y E S g k u v) (zX1 (zA1 n X Y E g) (zA2 n X Y E g) (zA3 n X Y E S g) u v)
def zW2 (n : Nat) (X Y E S : Nat → Int32) (g : Int32) (k u v : Nat) : Int64 := zsn (zWb n X Y E S g k u v) (zX2 (zA1 n X Y E g) (zA2 n X Y E g) (zA3 n X Y E S g) u v)
def zW3 (n : Nat) (X Y E S : Nat → Int32) (g : Int32) (k u v : Nat) : Int64 := zsn (zWb n X Y E S g k u v) (zX3 (zA1 n X Y E g) (zA2 n X Y E g) (zA3 n X Y E S g) u v)
theorem witness_L {w : Int32} (h : zLS n X Y E S k g s su sv sw σ) (hn : n ≤ 10) (hk : k ≤ 8) (hE : zEs n E S k) (hw : zBt 0 2 w) (hV : ∀ τ u v, zLS n X Y E S k g s su sv sw τ → zWt n X Y E S g k u v → K (some (.long (if w = 0 then zW1 n X Y E S g k u v else if w = 1 then zW2 n X Y E S g k u v else zW3 n X Y E S g k u v))) τ) (hN : ∀ τ, zLS n X Y E S k g s su sv sw τ → (∀ u v, ¬ zWt n X Y E S g k u v) → K (some (.long (-9223372036854775805))) τ) : zSp zx (d + 4) mX8_witness [.ref 0, .int w] σ K := by
  have h' := h
  obtain ⟨⟨h1, h2⟩, ⟨a1, a2, a3⟩, ⟨b1, b2, b3⟩, c1, d1, d2, d3, d4⟩ := h
  refine witness_C (zR_of h1 rfl rfl) a1 hn b1 hk (by rw [b2]; exact hE.1) (fun q => absurd hw q) (fun τ u v ht _ q1 q2 => ?_) (fun τ ht _ q => ?_)
  · rw [a2, a3, c1, b2, b3] at q1 q2 ⊢
    exact hV τ u v (zLS_C h' (ht.wk zfW_C)) ⟨q1, q2⟩
  · rw [show zRf (-3) = -9223372036854775805 by decide]
    refine hN τ (zLS_C h' (ht.wk zfW_C)) (fun u v y => ?_)
    rw [a2, a3, c1, b2, b3] at q
    have z := q u v y.1
    have y2 := y.2
    unfold zA1 zA2 zA3 at y2
    rw [z] at y2
    exact absurd y2 (by decide)
theorem zWt_one {u v u' v' : Nat} (h : zWt n X Y E S g k u v) (h' : zWt n X Y E S g k u' v') : u = u' ∧ v = v' := zFst_one h.1 h'.1
theorem zWt_no {u v : Nat} (h : zHo n X Y g E S k) (h' : zWt n X Y E S g k u v) : False := zHold_nF h h'.1
theorem free_L {v : Int32} {j : Nat} (h : zLS n X Y E S k g s su sv sw σ) (hn : n ≤ 10) (hk : k ≤ 8) (hE : zEs n E S k) (hv : v = nI j) (hj : j < k) (hK : ∀ τ, zLS n X Y E S k g s su sv sw τ → K (some (.int (zFree n X Y g E S k j))) τ) : zSp zx (d + 5) mX8_free [.ref 0, .int v] σ K := by
  have h' := h
  obtain ⟨⟨h1, h2⟩, ⟨a1, a2, a3⟩, ⟨b1, b2, b3⟩, c1, d1, d2, d3, d4⟩ := h
  refine free_C (zR_of h1 rfl rfl) a1 hn b1 hk (by rw [b2]; exact hE.1) (fun q => ?_) (fun τ i ht e hi => ?_)
  · refine absurd ?_ q
    unfold zBt; rw [hv, nI_toInt (by omega)]; omega
  · have e2 : i = j := ((nI_eq (a := j) (b := i) (by omega) (by omega)).mp (hv.symm.trans e)).symm
    rw [e2, a2, a3, c1, b2, b3]
    exact hK τ (zLS_C h' ht)
theorem spot_L {e q c : Int32} {j : Nat} (h : zLS n X Y E S k g s su sv sw σ) (hn : n ≤ 10) (hs : s < 7) (he : e = nI j) (hj : j < n) (hq : zBt 0 8 q) (hc : zBt 0 1000 c) (hK : ∀ τ, zLS n X Y E S k g (s + 1) (upd su s e) (upd sv s q) (upd sw s c) τ → K (some (.int (nI (s + 1)))) τ) : zSp zx (d + 3) mX8_spot [.ref 0, .int e, .int q, .int c] σ K := by
  obtain ⟨⟨h1, h2⟩, ⟨a1, a2, a3⟩, ⟨b1, b2, b3⟩, c1, d1, d2, d3, d4⟩ := h
  have hb : (zBt 0 (n - 1) e ∧ zBt 0 8 q) ∧ zBt 0 1000 c := ⟨⟨by unfold zBt; rw [he, nI_toInt (by omega)]; omega, hq⟩, hc⟩
  refine spot_C (zR_of h1 rfl rfl) a1 hn d1 (by omega) (fun w => absurd hb w) (fun _ w => by omega) (fun _ _ => ?_)
  exact hK _ ⟨⟨h1, h2⟩, ⟨a1, a2, a3⟩, ⟨b1, b2, b3⟩, c1, by rw [zuI_get, if_pos ⟨rfl, rfl⟩], by rw [← d2]; rfl, by rw [← d3]; rfl, by rw [← d4]; rfl⟩
theorem cheapest_L (h : zLS n X Y E S k g s su sv sw σ) (hn : n ≤ 10) (hs : s ≤ 7) (hE : zEs n su sv s) (hK : ∀ τ, zLS n X Y E S k g s su sv sw τ → K (some (.int (zChe n X Y g su sv sw s))) τ) : zSp zx (d + 5) mX8_cheapest [.ref 0] σ K := by
  have h' := h
  obtain ⟨⟨h1, h2⟩, ⟨a1, a2, a3⟩, ⟨b1, b2, b3⟩, c1, d1, d2, d3, d4⟩ := h
  refine cheapest_C (zR_of h1 rfl rfl) a1 hn d1 hs (by rw [d2]; exact hE.1) (fun τ ht => ?_)
  rw [a2, a3, c1, d2, d3, d4]
  exact hK τ (zLS_C h' ht)
theorem zfL_f (h c a j : Nat) (q : ¬ a = h ∧ ¬ a = h + 1 ∧ ¬ a = h + 2) : zfL h c a j = false := by
  unfold zfL
  have c2 : ∀ x y, Nat.beq x y = false ↔ x ≠ y := fun x y => by rw [← Bool.not_eq_true, Nat.beq_eq]
  rw [Bool.or_eq_false_iff, Bool.and_eq_false_iff, Bool.and_eq_false_iff, Bool.or_eq_false_iff]
  simp only [c2]
  exact ⟨Or.inl q.1, Or.inl ⟨q.2.1, q.2.2⟩⟩
theorem take_L (h : zLS n X Y E S k g s su sv sw σ) (hn : n ≤ 10) (hs : s ≤ 7) (hE : zEs n su sv s) (hN : ∀ τ, zLS n X Y E S k g s su sv sw τ → zChe n X Y g su sv sw s = -1 → K (some (.int (-3))) τ)
    (hO : ∀ τ E' S' be, zChe n X Y g su sv sw s = be → ¬ be = -1 → (∀ q, q < zcn be s → E' q = zLy be su s q ∧ S' q = zLy be sv s q) → zLS n X Y E' S' (zcn be s) g s su sv sw τ → K (some (.int (zPx be sw s))) τ) : zSp zx (d + 6) mX8_take [.ref 0] σ K := by
  have h' := h
  obtain ⟨⟨h1, h2⟩, ⟨a1, a2, a3⟩, ⟨b1, b2, b3⟩, c1, d1, d2, d3, d4⟩ := h
  refine take_C (zR_of h1 rfl rfl) a1 hn d1 hs (by rw [d2]; exact hE.1) (fun τ ht e => ?_) (fun τ υ be ht e1 e2 hu u4 uq => ?_)
  · rw [a2, a3, c1, d2, d3, d4] at e
    exact hN τ (zLS_C h' ht) e
  · rw [a2, a3, c1, d2, d3, d4] at e1
    rw [d2, d3] at uq
    rw [d4]
    obtain ⟨⟨f1, f2⟩, ⟨p1, p2, p3⟩, ⟨q1, q2, q3⟩, r1, s1, s2, s3, s4⟩ := zLS_C h' ht
    have z : ∀ a j, (¬ a = 4 ∧ ¬ a = 5 ∧ ¬ a = 6) → υ.1 a j = τ.1 a j := fun a j w => hu.1 a j (zfL_f 4 _ a j w)
    refine hO υ (υ.1 5) (υ.1 6) be e1.symm e2 uq ⟨⟨zQI_eq f1 hu.2.2, (congrArg Prod.snd hu.2.2).trans f2⟩, ⟨(z 1 2 (by decide)).trans p1, (funext fun j => z 2 j (by decide)).trans p2, (funext fun j => z 3 j (by decide)).trans p3⟩, ⟨u4, rfl, rfl⟩, (z 0 9 (by decide)).trans r1, (z 14 3 (by decide)).trans s1, (funext fun j => z 15 j (by decide)).trans s2, (funext fun j => z 16 j (by decide)).trans s3, (funext fun j => z 17 j (by decide)).trans s4⟩
theorem slip_L (h : zLS n X Y E S k g s su sv sw σ) (hn : n ≤ 10) (hk : k ≤ 8) (hE : zEs n E S k) (hN : ¬ k ≤ 4 → K (some (.int (-3))) σ) (hh : zHo n X Y g E S k) (hO : k ≤ 4 → ∀ τ r, r ≤ 8 → zLS n X Y E S k g s su sv sw τ → K (some (.int (nI r))) τ) : zSp zx (d + 7) mX8_slip [.ref 0] σ K := by
  have h' := h
  obtain ⟨⟨h1, h2⟩, ⟨a1, a2, a3⟩, ⟨b1, b2, b3⟩, c1, d1, d2, d3, d4⟩ := h
  refine slip_C (zR_of h1 rfl rfl) a1 hn b1 hk (by rw [b2]; exact hE.1) (by rw [b3]; exact hE.2) hN (fun _ τ _ q => ?_) (fun q1 _ τ r ht hr _ _ => hO q1 τ r hr (zLS_C h' ht))
  rw [a2, a3, c1, b2, b3] at q
  exact absurd hh q
