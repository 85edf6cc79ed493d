/-! what fingers that hold hold on with: the class's words over the integers -/
def zVl (A B C : Nat → Int64) (t : Nat) : zV3 := ((A t).toInt, (B t).toInt, (C t).toInt)
def zLs3 (A B C : Nat → Int64) (m : Nat) : List zV3 := (List.range m).map (zVl A B C)
theorem zLs3_in {A B C : Nat → Int64} {m : Nat} {v : zV3} : v ∈ zLs3 A B C m ↔ ∃ t, t < m ∧ zVl A B C t = v := by
  unfold zLs3; rw [List.mem_map]
  constructor
  · rintro ⟨t, h1, h2⟩; exact ⟨t, List.mem_range.mp h1, h2⟩
  · rintro ⟨t, h1, h2⟩; exact ⟨t, List.mem_range.mpr h1, h2⟩
theorem zNz_V {A B C : Nat → Int64} {m u v : Nat} (h : zTB A B C m) (hu : u < m) (hv : v < m) : zNz A B C u v ↔ zCn (zVl A B C u) (zVl A B C v) := by
  obtain ⟨x1, x2, x3, -⟩ := zX_int h hu hv
  have k : ∀ x : Int64, x ≠ 0 ↔ x.toInt ≠ 0 := fun x => by rw [Ne, Ne, zeq64]; exact Iff.rfl
  unfold zNz zCn
  rw [k, k, k, x1, x2, x3]
  exact Iff.rfl
theorem zPr_V {A B C : Nat → Int64} {m u v t : Nat} (h : zTB A B C m) (hu : u < m) (hv : v < m) (ht : t < m) : (zPr A B C (zX1 A B C u v) (zX2 A B C u v) (zX3 A B C u v) t).toInt = zDz (zVl A B C u) (zVl A B C v) (zVl A B C t) := by
  obtain ⟨x1, x2, x3, -⟩ := zX_int h hu hv
  rw [zPr_int h hu hv ht, x1, x2, x3]
  rfl
theorem zBe_V {A B C : Nat → Int64} {m u v : Nat} (h : zTB A B C m) (hu : u < m) (hv : v < m) : zBe A B C m u v = true ↔ ∃ t, t < m ∧ zDz (zVl A B C u) (zVl A B C v) (zVl A B C t) < 0 := by
  have z0 : (0 : Int64).toInt = 0 := rfl
  constructor
  · intro hb
    refine Classical.byContradiction fun q => ?_
    have e : zBe A B C m u v = false := zBl_no.mpr (fun t ht y => q ⟨t, ht, by rw [zlt64, zPr_V h hu hv ht, z0] at y; exact y⟩)
    rw [e] at hb; exact absurd hb (by decide)
  · rintro ⟨t, ht, hl⟩
    cases hb : zBe A B C m u v
    · exact absurd (show zPr A B C (zX1 A B C u v) (zX2 A B C u v) (zX3 A B C u v) t < 0 by rw [zlt64, zPr_V h hu hv ht, z0]; exact hl) (zBl_no.mp hb t ht)
    · rfl
theorem zAe_V {A B C : Nat → Int64} {m u v : Nat} (h : zTB A B C m) (hu : u < m) (hv : v < m) : zAe A B C m u v = true ↔ ∃ t, t < m ∧ 0 < zDz (zVl A B C u) (zVl A B C v) (zVl A B C t) := by
  have z0 : (0 : Int64).toInt = 0 := rfl
  constructor
  · intro hb
    refine Classical.byContradiction fun q => ?_
    have e : zAe A B C m u v = false := zAb_no.mpr (fun t ht y => q ⟨t, ht, by rw [zlt64, zPr_V h hu hv ht, z0] at y; exact y⟩)
    rw [e] at hb; exact absurd hb (by decide)
  · rintro ⟨t, ht, hl⟩
    cases hb : zAe A B C m u v
    · exact absurd (show 0 < zPr A B C (zX1 A B C u v) (zX2 A B C u v) (zX3 A B C u v) t by rw [zlt64, zPr_V h hu hv ht, z0]; exact hl) (zAb_no.mp hb t ht)
    · rfl
theorem zHold_L {A B C : Nat → Int64} {m : Nat} (h : zTB A B C m) : zHold A B C m ↔ zHL (zLs3 A B C m) := by
  constructor
  · rintro ⟨⟨u, v, h1, h2, h3⟩, h4⟩
    have hu : u < m := by omega
    refine ⟨⟨_, zLs3_in.mpr ⟨u, hu, rfl⟩, _, zLs3_in.mpr ⟨v, h2, rfl⟩, (zNz_V h hu h2).mp h3⟩, fun x hx y hy hc => ?_⟩
    obtain ⟨i, hi, rfl⟩ := zLs3_in.mp hx
    obtain ⟨j, hj, rfl⟩ := zLs3_in.mp hy
    rcases (show i < j ∨ i = j ∨ j < i by omega) with q | rfl | q
    · obtain ⟨t, ht, hl⟩ := (zBe_V h hi hj).mp (h4 i j q hj ((zNz_V h hi hj).mpr hc)).1
      exact ⟨_, zLs3_in.mpr ⟨t, ht, rfl⟩, hl⟩
    · exact absurd hc (zCn_u0 _)
    · obtain ⟨t, ht, hl⟩ := (zAe_V h hj hi).mp (h4 j i q hi ((zNz_V h hj hi).mpr (zCn_sw hc))).2
      exact ⟨_, zLs3_in.mpr ⟨t, ht, rfl⟩, by rw [zDz_sw]; omega⟩
  · rintro ⟨⟨x, hx, y, hy, hc⟩, h4⟩
    have g : ∀ u v, u < v → v < m → zGd A B C m u v := fun u v h1 h2 h3 => by
      have hu : u < m := by omega
      have hcc := (zNz_V h hu h2).mp h3
      obtain ⟨t, mt, lt⟩ := h4 _ (zLs3_in.mpr ⟨u, hu, rfl⟩) _ (zLs3_in.mpr ⟨v, h2, rfl⟩) hcc
      obtain ⟨s, ms, ls⟩ := h4 _ (zLs3_in.mpr ⟨v, h2, rfl⟩) _ (zLs3_in.mpr ⟨u, hu, rfl⟩) (zCn_sw hcc)
      obtain ⟨i, hi, rfl⟩ := zLs3_in.mp mt
      obtain ⟨j, hj, rfl⟩ := zLs3_in.mp ms
      rw [zDz_sw] at ls
      exact ⟨(zBe_V h hu h2).mpr ⟨i, hi, lt⟩, (zAe_V h hu h2).mpr ⟨j, hj, by omega⟩⟩
    refine ⟨?_, g⟩
    obtain ⟨i, hi, rfl⟩ := zLs3_in.mp hx
    obtain ⟨j, hj, rfl⟩ := zLs3_in.mp hy
    rcases (show i < j ∨ i = j ∨ j < i by omega) with q | rfl | q
    · exact ⟨i, j, q, hj, (zNz_V h hi hj).mpr hc⟩
    · exact absurd hc (zCn_u0 _)
    · exact ⟨j, i, q, hi, (zNz_V h hj hi).mpr (zCn_sw hc)⟩
/-- the numbers of a triple -/
def zVt (dx dy px py g : Int) : zV3 := (-16 * dy + g * dx, 16 * dx + g * dy, px * (16 * dx + g * dy) - py * (-16 * dy + g * dx))
theorem zVt_in {dx dy px py f g : Int} {L : List zV3} (h1 : zVt dx dy px py f ∈ L) (h2 : zVt dx dy px py (-f) ∈ L) (hg : -f ≤ g ∧ g ≤ f) (hf : 0 < f) : zIn2 L (zVt dx dy px py g) :=
  ⟨_, h1, _, h2, f + g, f - g, 2 * f, ⟨by omega, by omega, by omega⟩, by unfold zVt; grind, by unfold zVt; grind, by unfold zVt; grind⟩
theorem zpqI {a q f : Int32} {c : Int32} (hc : zBt (-16) 16 c) (ha : zBt (-60) 60 a) (hq : zBt (-60) 60 q) (hf : zBt 0 16 f) : (c * a + f * q).toInt = c.toInt * a.toInt + f.toInt * q.toInt ∧ (c * a - f * q).toInt = c.toInt * a.toInt - f.toInt * q.toInt := by
  have h1 := zmulB2 (A := 16) (B := 60) hc ha (by decide)
  have h2 := zmulB2 (A := 16) (B := 60) (zBtm hf (by decide) (by decide)) hq (by decide)
  have e1 := (zmulB (A := 16) (B := 60) hc ha (by decide)).1
  have e2 := (zmulB (A := 16) (B := 60) (zBtm hf (by decide) (by decide)) hq (by decide)).1
  exact ⟨by rw [(zaddB (A := 960) (B := 960) h1 h2 (by decide)).1, e1, e2], by rw [(zsubB (A := 960) (B := 960) h1 h2 (by decide)).1, e1, e2]⟩
theorem zl3I {x y p q : Int32} (hx : zBt (-720) 720 x) (hy : zBt (-720) 720 y) (hp : zBt (-1920) 1920 p) (hq : zBt (-1920) 1920 q) : (x * q - y * p).toInt = x.toInt * q.toInt - y.toInt * p.toInt := by
  obtain ⟨e1, b1⟩ := zmulB (A := 720) (B := 1920) hx hq (by decide)
  obtain ⟨e2, b2⟩ := zmulB (A := 720) (B := 1920) hy hp (by decide)
  rw [zsub (by rw [e1, e2]; omega), e1, e2]
def zSgn (f : Int32) (t : Nat) : Int := if f = 0 ∨ t % 2 = 0 then f.toInt else -f.toInt
theorem zT_V {n m : Nat} {X Y E S : Nat → Int32} {f : Int32} (hB : zHB n X Y) (hf : zBt 0 16 f) (hE : ∀ i, i < m → ∃ e, E i = nI e ∧ e < n) (hn : n ≤ 10) (hS : ∀ i, i < m → zBt 0 8 (S i)) (t : Nat) (ht : zTi f t < m) : zVl (zl (zT1 n X Y f E)) (zl (zT2 n X Y f E)) (zl (zT3 n X Y f E S)) t = zVt (zDX n X (zEd E (zTi f t))).toInt (zDX n Y (zEd E (zTi f t))).toInt (zPX n X (zEd E (zTi f t)) (S (zTi f t))).toInt (zPX n Y (zEd E (zTi f t)) (S (zTi f t))).toInt (zSgn f t) := by
  obtain ⟨e, he, hen⟩ := hE _ ht
  have hZ : zEd E (zTi f t) = e := by unfold zEd; rw [he]; exact nI_clamp (by omega)
  have hze := zNx_lt hen
  have dxb : zBt (-60) 60 (zDX n X e) := (zsubB (A := 30) (B := 30) (hB _ hze).1 (hB e hen).1 (by decide)).2
  have dyb : zBt (-60) 60 (zDX n Y e) := (zsubB (A := 30) (B := 30) (hB _ hze).2 (hB e hen).2 (by decide)).2
  have bx : zBt (-720) 720 (zPX n X e (S (zTi f t))) := zpxB (hB e hen).1 dxb (hS _ ht)
  have by0 : zBt (-720) 720 (zPX n Y e (S (zTi f t))) := zpxB (hB e hen).2 dyb (hS _ ht)
  have q1 := zpqB (c := -16) ⟨by decide, by decide⟩ dyb dxb hf
  have q2 := zpqB (c := 16) ⟨by decide, by decide⟩ dxb dyb hf
  have r1 := zpqI (c := -16) ⟨by decide, by decide⟩ dyb dxb hf
  have r2 := zpqI (c := 16) ⟨by decide, by decide⟩ dxb dyb hf
  have c1 : (-16 : Int32).toInt = -16 := by decide
  have c2 : (16 : Int32).toInt = 16 := by decide
  rw [c1] at r1
  rw [c2] at r2
  unfold zVl zl zVt zT3 zSgn
  simp only [zL]
  unfold zT1 zT2
  rw [hZ]
  by_cases h : f = 0 ∨ t % 2 = 0
  · simp only [if_pos h]
    rw [zl3I bx by0 q1.1 q2.1, r1.1, r2.1]
  · simp only [if_neg h]
    rw [zl3I bx by0 q1.2 q2.2, r1.2, r2.2]
    refine Prod.ext ?_ (Prod.ext ?_ ?_)
    · show -16 * _ - _ = -16 * _ + -_ * _; rw [Int.neg_mul f.toInt]; omega
    · show 16 * _ - _ = 16 * _ + -_ * _; rw [Int.neg_mul f.toInt]; omega
    · show _ * (16 * _ - _) - _ * (-16 * _ - _) = _ * (16 * _ + -_ * _) - _ * (-16 * _ + -_ * _); rw [Int.neg_mul f.toInt, Int.neg_mul f.toInt, ← Int.sub_eq_add_neg, ← Int.sub_eq_add_neg]
theorem zTi_lt {f : Int32} {t m : Nat} (h : t < zMl f m) : zTi f t < m := by
  unfold zMl at h; unfold zTi; by_cases q : f = 0 <;> simp only [q, if_true, if_false] at h ⊢ <;> omega
/-- more fingers -/
theorem zHo_more {n m : Nat} {X Y E S : Nat → Int32} {f : Int32} (hB : zHB n X Y) (hf : zBt 0 16 f) (hn : n ≤ 10) (hE : ∀ i, i < m + 1 → ∃ e, E i = nI e ∧ e < n) (hS : ∀ i, i < m + 1 → zBt 0 8 (S i)) (h : zHo n X Y f E S m) : zHo n X Y f E S (m + 1) := by
  have t1 := zTB_T (m := m) hB hf (fun i hi => hE i (by omega)) hn (fun i hi => hS i (by omega))
  have t2 := zTB_T (m := m + 1) hB hf hE hn hS
  refine (zHold_L t2).mpr (zHL_sub ((zHold_L t1).mp h) (fun v hv => ?_))
  obtain ⟨t, ht, e⟩ := zLs3_in.mp hv
  exact zLs3_in.mpr ⟨t, by unfold zMl at ht ⊢; by_cases q : f = 0 <;> simp only [q, if_true, if_false] at ht ⊢ <;> omega, e⟩
/-- more friction -/
theorem zHo_fric {n m : Nat} {X Y E S : Nat → Int32} {f g : Int32} (hB : zHB n X Y) (hf : zBt 0 16 f) (hg : zBt 0 16 g) (hfg : f.toInt ≤ g.toInt) (hn : n ≤ 10) (hE : ∀ i, i < m → ∃ e, E i = nI e ∧ e < n) (hS : ∀ i, i < m → zBt 0 8 (S i)) (h : zHo n X Y f E S m) : zHo n X Y g E S m := by
  by_cases g0 : g = 0
  · have : f = g := by
      rw [zeq]; unfold zBt at hf hg
      have z : g.toInt = 0 := by rw [g0]; rfl
      omega
    rw [← this]; exact h
  · have gp : 0 < g.toInt := by
      unfold zBt at hg
      have : ¬ g.toInt = (0 : Int32).toInt := fun q => g0 (by rw [zeq]; exact q)
      rw [zT_lits.1] at this
      omega
    have t1 := zTB_T hB hf hE hn hS
    have t2 := zTB_T hB hg hE hn hS
    refine (zHold_L t2).mpr (zHL_cone ((zHold_L t1).mp h) (fun v hv => ?_))
    obtain ⟨t, ht, rfl⟩ := zLs3_in.mp hv
    have hi := zTi_lt ht
    rw [zT_V hB hf hE hn hS t hi]
    generalize hq : zTi f t = i at hi ⊢
    have a1 : zTi g (2 * i) = i := by unfold zTi; rw [if_neg g0]; omega
    have a2 : zTi g (2 * i + 1) = i := by unfold zTi; rw [if_neg g0]; omega
    have b1 := zT_V hB hg hE hn hS (2 * i) (by rw [a1]; exact hi)
    have b2 := zT_V hB hg hE hn hS (2 * i + 1) (by rw [a2]; exact hi)
    have s1 : zSgn g (2 * i) = g.toInt := by unfold zSgn; rw [if_pos (Or.inr (by omega))]
    have s2 : zSgn g (2 * i + 1) = -g.toInt := by unfold zSgn; rw [if_neg (by rintro (r | r); exact g0 r; omega)]
    rw [a1, s1] at b1
    rw [a2, s2] at b2
    have m1 : 2 * i < zMl g m := by rw [zMl_1 g0]; omega
    have m2 : 2 * i + 1 < zMl g m := by rw [zMl_1 g0]; omega
    refine zVt_in (f := g.toInt) (zLs3_in.mpr ⟨_, m1, b1⟩) (zLs3_in.mpr ⟨_, m2, b2⟩) ?_ gp
    unfold zBt at hf
    unfold zSgn; split <;> omega
/-- three triples hold nothing -/
theorem zHo_few {n m : Nat} {X Y E S : Nat → Int32} {f : Int32} (hB : zHB n X Y) (hf : zBt 0 16 f) (hn : n ≤ 10) (hE : ∀ i, i < m → ∃ e, E i = nI e ∧ e < n) (hS : ∀ i, i < m → zBt 0 8 (S i)) (h4 : zMl f m < 4) : ¬ zHo n X Y f E S m := by
  have tb := zTB_T hB hf hE hn hS
  rintro ⟨⟨u, v, h1, h2, h3⟩, h5⟩
  have hu : u < zMl f m := by omega
  obtain ⟨b, a⟩ := h5 u v h1 h2 h3
  obtain ⟨t, ht, l1⟩ := (zBe_V tb hu h2).mp b
  obtain ⟨s, hs, l2⟩ := (zAe_V tb hu h2).mp a
  have n1 : t ≠ u := fun q => by rw [q, zDz_u] at l1; omega
  have n2 : t ≠ v := fun q => by rw [q, zDz_v] at l1; omega
  have n3 : s ≠ u := fun q => by rw [q, zDz_u] at l2; omega
  have n4 : s ≠ v := fun q => by rw [q, zDz_v] at l2; omega
  have e : t = s := by omega
  rw [e] at l1; omega
/-- the bit of where a finger stands -/
theorem zFr_bit {P : Nat → Bool} {q : Nat} (hP : P q = true) : ∀ r k N, k + r ≤ 9 → N < 512 → (N.testBit q = true ∨ (k ≤ q ∧ q < k + r)) → ∃ N', zFr P r k (nI N) = nI N' ∧ N' < 512 ∧ N'.testBit q = true
  | 0, k, N, _, hN, hb => ⟨N, rfl, hN, hb.elim id (fun h => by omega)⟩
  | r + 1, k, N, hk, hN, hb => by
    show ∃ N', zFr P r (k + 1) (if P k = true then nI N ||| (1 <<< (nI k &&& 31)) else nI N) = nI N' ∧ N' < 512 ∧ N'.testBit q = true
    by_cases hp : P k = true
    · rw [if_pos hp, zshl12 k (by omega), znor]
      refine zFr_bit hP r (k + 1) (N ||| 2 ^ k) (by omega) (Nat.or_lt_two_pow (n := 9) hN (Nat.pow_lt_pow_right (by decide) (by omega))) ?_
      by_cases e : q = k
      · left; rw [Nat.testBit_or, e, Nat.testBit_two_pow_self, Bool.or_true]
      · rcases hb with hb | hb
        · left; rw [Nat.testBit_or, hb, Bool.true_or]
        · right; omega
    · rw [if_neg hp]
      refine zFr_bit hP r (k + 1) N (by omega) hN ?_
      rcases hb with hb | hb
      · exact Or.inl hb
      · right
        have : q ≠ k := fun e => hp (by rw [← e]; exact hP)
        omega
theorem zfree_bit {n m j q : Nat} {X Y E S : Nat → Int32} {f : Int32} (h : zHo n X Y f E S m) (hq : q < 9) (hS : S j = nI q) : zbt (zFree n X Y f E S m j) q = 1 := by
  obtain ⟨N, e1, e2, e3⟩ := zFr_bit (P := fun k => zDc (zHo n X Y f E (upd S j (nI k)) m)) (q := q) (by
    refine zDc_t ?_
    have e : upd S j (nI q) = S := by
      funext i; unfold upd
      by_cases w : i = j
      · rw [if_pos w, w, hS]
      · rw [if_neg w]
    rw [e]; exact h) 9 0 0 (by decide) (by decide) (Or.inr ⟨Nat.zero_le _, by omega⟩)
  have e : zFree n X Y f E S m j = nI N := e1
  rw [e]
  exact (zbtN1 (by omega) (by omega)).mpr e3
/-- the cheapest of sets is one that holds -/
theorem zCp_in {H : Int32 → Bool} {B : Int32 → Int32 → Bool} : ∀ r i b, zCp H B r i b = b ∨ ∃ j, i ≤ j ∧ j < i + r ∧ zCp H B r i b = nI j ∧ H (nI j) = true
  | 0, _, _ => Or.inl rfl
  | r + 1, i, b => by
    show zCp H B r (i + 1) (if (b = -1 ∨ B (nI i) b = true) ∧ H (nI i) = true then nI i else b) = b ∨ ∃ j, i ≤ j ∧ j < i + (r + 1) ∧ zCp H B r (i + 1) (if (b = -1 ∨ B (nI i) b = true) ∧ H (nI i) = true then nI i else b) = nI j ∧ H (nI j) = true
    by_cases q : (b = -1 ∨ B (nI i) b = true) ∧ H (nI i) = true
    · rw [if_pos q]
      rcases zCp_in (H := H) (B := B) r (i + 1) (nI i) with h | ⟨j, h1, h2, h3, h4⟩
      · exact Or.inr ⟨i, Nat.le_refl _, by omega, h, q.2⟩
      · exact Or.inr ⟨j, by omega, by omega, h3, h4⟩
    · rw [if_neg q]
      rcases zCp_in (H := H) (B := B) r (i + 1) b with h | ⟨j, h1, h2, h3, h4⟩
      · exact Or.inl h
      · exact Or.inr ⟨j, by omega, by omega, h3, h4⟩
theorem zChe_in {n k : Nat} {X Y E S P : Nat → Int32} {f : Int32} : zChe n X Y f E S P k = -1 ∨ ∃ j, 1 ≤ j ∧ j < 2 ^ k ∧ zChe n X Y f E S P k = nI j ∧ zHo n X Y f (zLy (nI j) E k) (zLy (nI j) S k) (zcn (nI j) k) := by
  rcases zCp_in (H := zSpH n X Y f E S k) (B := zBet P k) (2 ^ k - 1) 1 (-1) with h | ⟨j, h1, h2, h3, h4⟩
  · exact Or.inl h
  · exact Or.inr ⟨j, h1, by omega, h3, zDc_i.mp h4⟩
theorem zneg64 {x : Int64} (h : -9223372036854775807 ≤ x.toInt) : (-x).toInt = -x.toInt := by
  rw [Int64.toInt_neg]; exact Int.bmod_eq_of_le (by have := (zR64 x).2; omega) (by omega)
/-- the witness' products -/
theorem zWit {A B C : Nat → Int64} {m u v : Nat} (h : zTB A B C m) (hu : u < v) (hv : v < m) (hz : zNz A B C u v) (hn : ¬ (zBe A B C m u v = true ∧ zAe A B C m u v = true)) (hor : (zBe A B C m u v || zAe A B C m u v) = true) :
    (∀ t, t < m → ¬ zsn (zBe A B C m u v) (zX1 A B C u v) * A t + zsn (zBe A B C m u v) (zX2 A B C u v) * B t + zsn (zBe A B C m u v) (zX3 A B C u v) * C t < 0) ∧ (∃ t, t < m ∧ 0 < zsn (zBe A B C m u v) (zX1 A B C u v) * A t + zsn (zBe A B C m u v) (zX2 A B C u v) * B t + zsn (zBe A B C m u v) (zX3 A B C u v) * C t) ∧
    ¬ (zsn (zBe A B C m u v) (zX1 A B C u v) = 0 ∧ zsn (zBe A B C m u v) (zX2 A B C u v) = 0 ∧ zsn (zBe A B C m u v) (zX3 A B C u v) = 0) := by
  have hu' : u < m := by omega
  have z0 : (0 : Int64).toInt = 0 := rfl
  obtain ⟨-, -, -, x1, x2, x3⟩ := zX_int h hu' hv
  have hp : ∀ t, t < m → (zPr A B C (zX1 A B C u v) (zX2 A B C u v) (zX3 A B C u v) t).toInt = zDz (zVl A B C u) (zVl A B C v) (zVl A B C t) := fun t ht => zPr_V h hu' hv ht
  cases hb : zBe A B C m u v
  · rw [hb] at hor
    rw [Bool.false_or] at hor
    refine ⟨fun t ht => zBl_no.mp hb t ht, ?_, ?_⟩
    · obtain ⟨t, ht, hl⟩ := (zAe_V h hu' hv).mp hor
      exact ⟨t, ht, by show 0 < zPr A B C (zX1 A B C u v) (zX2 A B C u v) (zX3 A B C u v) t; rw [zlt64, hp t ht, z0]; exact hl⟩
    · rintro ⟨a, b, c⟩
      exact hz.elim (fun q => q a) (fun q => q.elim (fun q => q b) (fun q => q c))
  · have ha : zAe A B C m u v = false := by
      cases ha : zAe A B C m u v
      · rfl
      · exact absurd ⟨hb, ha⟩ hn
    have n1 := zneg64 (x := zX1 A B C u v) (by omega)
    have n2 := zneg64 (x := zX2 A B C u v) (by omega)
    have n3 := zneg64 (x := zX3 A B C u v) (by omega)
    have r : ∀ t, t < m → (-(zX1 A B C u v) * A t + -(zX2 A B C u v) * B t + -(zX3 A B C u v) * C t).toInt = - zDz (zVl A B C u) (zVl A B C v) (zVl A B C t) := fun t ht => by
      obtain ⟨a1, a2, a3⟩ := h t ht
      have p1 := zPB x1 a1
      have p2 := zPB x2 a2
      have p3 := zPB x3 a3
      have w := hp t ht
      rw [zPr_int h hu' hv ht] at w
      have m1 := zmul64 (x := -zX1 A B C u v) (y := A t) (by rw [n1]; simp only [Int.neg_mul]; omega)
      have m2 := zmul64 (x := -zX2 A B C u v) (y := B t) (by rw [n2]; simp only [Int.neg_mul]; omega)
      have m3 := zmul64 (x := -zX3 A B C u v) (y := C t) (by rw [n3]; simp only [Int.neg_mul]; omega)
      rw [n1, Int.neg_mul] at m1
      rw [n2, Int.neg_mul] at m2
      rw [n3, Int.neg_mul] at m3
      have s1 := zadd64 (x := -zX1 A B C u v * A t) (y := -zX2 A B C u v * B t) (by rw [m1, m2]; omega)
      rw [zadd64 (by rw [s1, m1, m2, m3]; omega), s1, m1, m2, m3]
      omega
    refine ⟨fun t ht q => ?_, ?_, ?_⟩
    · have q : -(zX1 A B C u v) * A t + -(zX2 A B C u v) * B t + -(zX3 A B C u v) * C t < 0 := q
      rw [zlt64, r t ht, z0] at q
      have y := zAb_no.mp ha t ht
      rw [zlt64, hp t ht, z0] at y
      omega
    · obtain ⟨t, ht, hl⟩ := (zBe_V h hu' hv).mp hb
      refine ⟨t, ht, ?_⟩
      show 0 < -(zX1 A B C u v) * A t + -(zX2 A B C u v) * B t + -(zX3 A B C u v) * C t
      rw [zlt64, r t ht, z0]; omega
    · rintro ⟨a, b, c⟩
      have a : -(zX1 A B C u v) = 0 := a
      have b : -(zX2 A B C u v) = 0 := b
      have c : -(zX3 A B C u v) = 0 := c
      rw [zeq64, n1, z0] at a
      rw [zeq64, n2, z0] at b
      rw [zeq64, n3, z0] at c
      have k : ∀ x : Int64, x.toInt = 0 → x = 0 := fun x q => by rw [zeq64]; exact q
      exact hz.elim (fun q => q (k _ (by omega))) (fun q => q.elim (fun q => q (k _ (by omega))) (fun q => q (k _ (by omega))))
