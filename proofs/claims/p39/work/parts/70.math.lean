/-! rows of triples that lie in no half: one more triple, a wider cone -/
abbrev zV3 : Type := Int × Int × Int
def zC1 (u v : zV3) : Int := u.2.1 * v.2.2 - u.2.2 * v.2.1
def zC2 (u v : zV3) : Int := u.2.2 * v.1 - u.1 * v.2.2
def zC3 (u v : zV3) : Int := u.1 * v.2.1 - u.2.1 * v.1
def zDz (u v t : zV3) : Int := zC1 u v * t.1 + zC2 u v * t.2.1 + zC3 u v * t.2.2
def zCn (u v : zV3) : Prop := zC1 u v ≠ 0 ∨ zC2 u v ≠ 0 ∨ zC3 u v ≠ 0
theorem zCn_no {u v : zV3} (h : ¬ zCn u v) : zC1 u v = 0 ∧ zC2 u v = 0 ∧ zC3 u v = 0 := by
  unfold zCn at h; omega
theorem zDz_sw (u v t : zV3) : zDz v u t = - zDz u v t := by unfold zDz zC1 zC2 zC3; grind
theorem zC_sw (u v : zV3) : zC1 v u = - zC1 u v ∧ zC2 v u = - zC2 u v ∧ zC3 v u = - zC3 u v := by unfold zC1 zC2 zC3; grind
theorem zCn_sw {u v : zV3} (h : zCn u v) : zCn v u := by
  obtain ⟨h1, h2, h3⟩ := zC_sw u v
  unfold zCn at h ⊢; omega
theorem zCn_u0 (u : zV3) : ¬ zCn u u := by
  have h1 : zC1 u u = 0 := by unfold zC1; grind
  have h2 : zC2 u u = 0 := by unfold zC2; grind
  have h3 : zC3 u u = 0 := by unfold zC3; grind
  unfold zCn; omega
theorem zDz_u (u v : zV3) : zDz u v u = 0 := by unfold zDz zC1 zC2 zC3; grind
theorem zDz_v (u v : zV3) : zDz u v v = 0 := by unfold zDz zC1 zC2 zC3; grind
theorem zDz_par {u v t : zV3} (h : ¬ zCn u t) : zDz u v t = 0 := by
  obtain ⟨h1, h2, h3⟩ := zCn_no h
  have e : zDz u v t = -(zC1 u t * v.1 + zC2 u t * v.2.1 + zC3 u t * v.2.2) := by unfold zDz zC1 zC2 zC3; grind
  rw [e, h1, h2, h3]; simp
theorem zPlk (u w v t x : zV3) : zDz u x t * zDz u w v = zDz u v t * zDz u w x + zDz u x v * zDz u w t := by
  unfold zDz zC1 zC2 zC3; grind
theorem zPl1 (u w v t : zV3) : zC1 u w * zDz u v t = zC1 u v * zDz u w t + zDz u w v * (u.2.2 * t.2.1 - u.2.1 * t.2.2) := by
  unfold zDz zC1 zC2 zC3; grind
theorem zPl2 (u w v t : zV3) : zC2 u w * zDz u v t = zC2 u v * zDz u w t + zDz u w v * (u.1 * t.2.2 - u.2.2 * t.1) := by
  unfold zDz zC1 zC2 zC3; grind
theorem zPl3 (u w v t : zV3) : zC3 u w * zDz u v t = zC3 u v * zDz u w t + zDz u w v * (u.2.1 * t.1 - u.1 * t.2.1) := by
  unfold zDz zC1 zC2 zC3; grind
theorem zsg4 {c g x1 x2 y1 y2 : Int} (e1 : c * x1 = g * y1) (e2 : c * x2 = g * y2) (hc : c ≠ 0) (h1 : x1 < 0) (h2 : 0 < x2) (k1 : 0 ≤ y1) (k2 : 0 ≤ y2) : False := by
  rcases (show 0 < c ∨ 0 < -c by omega) with p | p
  · have a1 := Int.mul_pos p (show 0 < -x1 by omega)
    have a2 := Int.mul_pos p h2
    rw [Int.mul_neg] at a1
    rcases (show 0 ≤ g ∨ 0 ≤ -g by omega) with q | q
    · have b1 := Int.mul_nonneg q k1; omega
    · have b2 := Int.mul_nonneg q k2; rw [Int.neg_mul] at b2; omega
  · have a1 := Int.mul_pos p (show 0 < -x1 by omega)
    have a2 := Int.mul_pos p h2
    rw [Int.neg_mul, Int.mul_neg, Int.neg_neg] at a1
    rw [Int.neg_mul] at a2
    rcases (show 0 ≤ g ∨ 0 ≤ -g by omega) with q | q
    · have b2 := Int.mul_nonneg q k2; omega
    · have b1 := Int.mul_nonneg q k1; rw [Int.neg_mul] at b1; omega
/-- in no half: the words of the class -/
def zHL (L : List zV3) : Prop := (∃ u, u ∈ L ∧ ∃ v, v ∈ L ∧ zCn u v) ∧ ∀ u, u ∈ L → ∀ v, v ∈ L → zCn u v → ∃ t, t ∈ L ∧ zDz u v t < 0
theorem zBmin {u w : zV3} : ∀ M : List zV3, (∀ t, t ∈ M → 0 ≤ zDz u w t) → (∀ t, t ∈ M → zCn u t → zDz u w t ≠ 0) → (∃ t, t ∈ M ∧ zCn u t) → ∃ v, v ∈ M ∧ zCn u v ∧ ∀ t, t ∈ M → 0 ≤ zDz u v t
  | [], _, _, h3 => by obtain ⟨t, ht, _⟩ := h3; exact absurd ht List.not_mem_nil
  | x :: M, h1, h2, h3 => by
    have g1 : ∀ t, t ∈ M → 0 ≤ zDz u w t := fun t ht => h1 t (List.mem_cons_of_mem _ ht)
    have g2 : ∀ t, t ∈ M → zCn u t → zDz u w t ≠ 0 := fun t ht => h2 t (List.mem_cons_of_mem _ ht)
    by_cases g3 : ∃ t, t ∈ M ∧ zCn u t
    · obtain ⟨v, hv, hc, hm⟩ := zBmin M g1 g2 g3
      by_cases hx : 0 ≤ zDz u v x
      · exact ⟨v, List.mem_cons_of_mem _ hv, hc, List.forall_mem_cons.mpr ⟨hx, hm⟩⟩
      · have hcx : zCn u x := Classical.byContradiction fun q => hx (by rw [zDz_par q]; exact Int.le_refl 0)
        refine ⟨x, List.mem_cons_self, hcx, List.forall_mem_cons.mpr ⟨by rw [zDz_v]; exact Int.le_refl 0, fun t ht => ?_⟩⟩
        have e := zPlk u w v t x
        have n1 := Int.mul_nonneg (hm t ht) (h1 x List.mem_cons_self)
        have n2 := Int.mul_nonneg (show 0 ≤ zDz u x v by rw [show zDz u x v = -zDz u v x by unfold zDz zC1 zC2 zC3; grind]; omega) (g1 t ht)
        have p1 : 0 < zDz u w v := by have := g1 v hv; have := g2 v hv hc; omega
        rcases (show 0 ≤ zDz u x t ∨ 0 < -zDz u x t by omega) with q | q
        · exact q
        · have b := Int.mul_pos q p1
          rw [Int.neg_mul] at b; omega
    · have hcx : zCn u x := by
        obtain ⟨t, ht, hc⟩ := h3
        rcases List.mem_cons.mp ht with rfl | ht
        · exact hc
        · exact absurd ⟨t, ht, hc⟩ g3
      refine ⟨x, List.mem_cons_self, hcx, List.forall_mem_cons.mpr ⟨by rw [zDz_v]; exact Int.le_refl 0, fun t ht => ?_⟩⟩
      rw [zDz_par (fun q => g3 ⟨t, ht, q⟩)]; exact Int.le_refl 0
theorem zpar {u a b w : zV3} (hw : zCn u w) (ha : ¬ zCn u a) (hb : ¬ zCn u b) : ¬ zCn a b := by
  obtain ⟨a1, a2, a3⟩ := zCn_no ha
  obtain ⟨b1, b2, b3⟩ := zCn_no hb
  have hu : u.1 ≠ 0 ∨ u.2.1 ≠ 0 ∨ u.2.2 ≠ 0 := by
    rcases Classical.em (u.1 ≠ 0 ∨ u.2.1 ≠ 0 ∨ u.2.2 ≠ 0) with h | h
    · exact h
    · exfalso
      have z1 : u.1 = 0 := by omega
      have z2 : u.2.1 = 0 := by omega
      have z3 : u.2.2 = 0 := by omega
      unfold zCn zC1 zC2 zC3 at hw
      rw [z1, z2, z3] at hw
      simp at hw
  unfold zC1 at a1 b1
  unfold zC2 at a2 b2
  unfold zC3 at a3 b3
  have k : ∀ c : Int, (∀ x : Int, x = u.1 ∨ x = u.2.1 ∨ x = u.2.2 → x * c = 0) → c = 0 := fun c hx => by
    rcases hu with h | h | h
    · exact (Int.mul_eq_zero.mp (hx _ (Or.inl rfl))).resolve_left h
    · exact (Int.mul_eq_zero.mp (hx _ (Or.inr (Or.inl rfl)))).resolve_left h
    · exact (Int.mul_eq_zero.mp (hx _ (Or.inr (Or.inr rfl)))).resolve_left h
  have c1 : zC1 a b = 0 := k _ (fun x hx => by unfold zC1; rcases hx with rfl | rfl | rfl <;> grind)
  have c2 : zC2 a b = 0 := k _ (fun x hx => by unfold zC2; rcases hx with rfl | rfl | rfl <;> grind)
  have c3 : zC3 a b = 0 := k _ (fun x hx => by unfold zC3; rcases hx with rfl | rfl | rfl <;> grind)
  unfold zCn; omega
theorem zR3 {L : List zV3} {u w : zV3} (h : zHL L) (hu : u ∈ L) (hc : zCn u w) : ∃ t, t ∈ L ∧ zDz u w t < 0 := Classical.byContradiction fun q => by
  have hge : ∀ t, t ∈ L → 0 ≤ zDz u w t := fun t ht => Int.not_lt.mp fun y => q ⟨t, ht, y⟩
  by_cases hA : ∃ v, v ∈ L ∧ zCn u v ∧ zDz u w v = 0
  · obtain ⟨v, hv, hcv, h0⟩ := hA
    obtain ⟨t1, m1, s1⟩ := h.2 u hu v hv hcv
    obtain ⟨t2, m2, s2⟩ := h.2 v hv u hu (zCn_sw hcv)
    rw [zDz_sw] at s2
    have e11 := zPl1 u w v t1
    have e12 := zPl1 u w v t2
    have e21 := zPl2 u w v t1
    have e22 := zPl2 u w v t2
    have e31 := zPl3 u w v t1
    have e32 := zPl3 u w v t2
    rw [h0, Int.zero_mul, Int.add_zero] at e11 e12 e21 e22 e31 e32
    rcases hc with c | c | c
    · exact zsg4 e11 e12 c s1 (by omega) (hge t1 m1) (hge t2 m2)
    · exact zsg4 e21 e22 c s1 (by omega) (hge t1 m1) (hge t2 m2)
    · exact zsg4 e31 e32 c s1 (by omega) (hge t1 m1) (hge t2 m2)
  · have hex : ∃ t, t ∈ L ∧ zCn u t := Classical.byContradiction fun y => by
      obtain ⟨a, ha, b, hb, hab⟩ := h.1
      exact zpar hc (fun z => y ⟨a, ha, z⟩) (fun z => y ⟨b, hb, z⟩) hab
    obtain ⟨v, hv, hcv, hm⟩ := zBmin L hge (fun t ht hct e => hA ⟨t, ht, hct, e⟩) hex
    obtain ⟨t, ht, hlt⟩ := h.2 u hu v hv hcv
    have := hm t ht
    omega
def zNg (w : zV3) : zV3 := (-w.1, -w.2.1, -w.2.2)
theorem zDz_ng (u w t : zV3) : zDz u (zNg w) t = zDz w u t := by unfold zDz zC1 zC2 zC3 zNg; grind
theorem zCn_ng {u w : zV3} (h : zCn w u) : zCn u (zNg w) := by
  have h1 : zC1 u (zNg w) = zC1 w u := by unfold zC1 zNg; grind
  have h2 : zC2 u (zNg w) = zC2 w u := by unfold zC2 zNg; grind
  have h3 : zC3 u (zNg w) = zC3 w u := by unfold zC3 zNg; grind
  unfold zCn at h ⊢; rw [h1, h2, h3]; exact h
theorem zHL_add {L : List zV3} (w : zV3) (h : zHL L) : zHL (w :: L) := by
  refine ⟨?_, fun u hu v hv hc => ?_⟩
  · obtain ⟨a, ha, b, hb, hab⟩ := h.1
    exact ⟨a, List.mem_cons_of_mem _ ha, b, List.mem_cons_of_mem _ hb, hab⟩
  · rcases List.mem_cons.mp hu with rfl | hu2
    · rcases List.mem_cons.mp hv with rfl | hv2
      · exact absurd hc (zCn_u0 _)
      · obtain ⟨t, ht, hlt⟩ := zR3 h hv2 (zCn_ng hc)
        rw [zDz_ng] at hlt
        exact ⟨t, List.mem_cons_of_mem _ ht, hlt⟩
    · rcases List.mem_cons.mp hv with rfl | hv2
      · obtain ⟨t, ht, hlt⟩ := zR3 h hu2 hc
        exact ⟨t, List.mem_cons_of_mem _ ht, hlt⟩
      · obtain ⟨t, ht, hlt⟩ := h.2 u hu2 v hv2 hc
        exact ⟨t, List.mem_cons_of_mem _ ht, hlt⟩
theorem zHL_app {L : List zV3} (h : zHL L) : ∀ M : List zV3, zHL (M ++ L)
  | [] => h
  | w :: M => zHL_add w (zHL_app h M)
/-- more triples -/
theorem zHL_sub {L L' : List zV3} (h : zHL L) (hs : ∀ t, t ∈ L → t ∈ L') : zHL L' := by
  obtain ⟨⟨a, ha, b, hb, hab⟩, h2⟩ := zHL_app h L'
  have k : ∀ t, t ∈ L' ++ L → t ∈ L' := fun t ht => (List.mem_append.mp ht).elim id (hs t)
  refine ⟨⟨a, k a ha, b, k b hb, hab⟩, fun u hu v hv hc => ?_⟩
  obtain ⟨t, ht, hlt⟩ := h2 u (List.mem_append_left _ hu) v (List.mem_append_left _ hv) hc
  exact ⟨t, k t ht, hlt⟩
/-- a triple is in the cone of two of a row -/
def zIn2 (L : List zV3) (t : zV3) : Prop := ∃ s1, s1 ∈ L ∧ ∃ s2, s2 ∈ L ∧ ∃ a b g : Int, (0 ≤ a ∧ 0 ≤ b ∧ 0 < g) ∧ g * t.1 = a * s1.1 + b * s2.1 ∧ g * t.2.1 = a * s1.2.1 + b * s2.2.1 ∧ g * t.2.2 = a * s1.2.2 + b * s2.2.2
theorem zIn2_self {L : List zV3} {t : zV3} (h : t ∈ L) : zIn2 L t := ⟨t, h, t, h, 1, 0, 1, ⟨by decide, by decide, by decide⟩, by omega, by omega, by omega⟩
theorem zDz_lin {u v t s1 s2 : zV3} {a b g : Int} (h1 : g * t.1 = a * s1.1 + b * s2.1) (h2 : g * t.2.1 = a * s1.2.1 + b * s2.2.1) (h3 : g * t.2.2 = a * s1.2.2 + b * s2.2.2) : g * zDz u v t = a * zDz u v s1 + b * zDz u v s2 := by
  have e : g * zDz u v t = zC1 u v * (g * t.1) + zC2 u v * (g * t.2.1) + zC3 u v * (g * t.2.2) := by unfold zDz; grind
  rw [e, h1, h2, h3]; unfold zDz; grind
/-- a wider cone -/
theorem zHL_cone {L L' : List zV3} (h : zHL L) (hs : ∀ t, t ∈ L → zIn2 L' t) : zHL L' := by
  have h0 := zHL_app h L'
  have k : ∀ t, t ∈ L' ++ L → zIn2 L' t := fun t ht => (List.mem_append.mp ht).elim zIn2_self (hs t)
  refine ⟨?_, fun u hu v hv hc => ?_⟩
  · refine Classical.byContradiction fun q => ?_
    have q0 : ∀ s, s ∈ L' → ∀ s', s' ∈ L' → ¬ zCn s s' := fun s m1 s' m2 z => q ⟨s, m1, s', m2, z⟩
    obtain ⟨⟨x, hx, y, hy, hxy⟩, -⟩ := h0
    obtain ⟨s1, m1, s2, m2, a, b, g, ⟨-, -, hg⟩, x1, x2, x3⟩ := k x hx
    obtain ⟨s3, m3, s4, m4, c, f, j, ⟨-, -, hj⟩, y1, y2, y3⟩ := k y hy
    obtain ⟨d1, d2, d3⟩ := zCn_no (q0 s1 m1 s3 m3)
    obtain ⟨e1, e2, e3⟩ := zCn_no (q0 s1 m1 s4 m4)
    obtain ⟨f1, f2, f3⟩ := zCn_no (q0 s2 m2 s3 m3)
    obtain ⟨g1, g2, g3⟩ := zCn_no (q0 s2 m2 s4 m4)
    have w1 : g * (j * zC1 x y) = (a * c) * zC1 s1 s3 + (a * f) * zC1 s1 s4 + (b * c) * zC1 s2 s3 + (b * f) * zC1 s2 s4 := by
      have r : g * (j * zC1 x y) = (g * x.2.1) * (j * y.2.2) - (g * x.2.2) * (j * y.2.1) := by unfold zC1; grind
      rw [r, x2, x3, y2, y3]; unfold zC1; grind
    have w2 : g * (j * zC2 x y) = (a * c) * zC2 s1 s3 + (a * f) * zC2 s1 s4 + (b * c) * zC2 s2 s3 + (b * f) * zC2 s2 s4 := by
      have r : g * (j * zC2 x y) = (g * x.2.2) * (j * y.1) - (g * x.1) * (j * y.2.2) := by unfold zC2; grind
      rw [r, x1, x3, y1, y3]; unfold zC2; grind
    have w3 : g * (j * zC3 x y) = (a * c) * zC3 s1 s3 + (a * f) * zC3 s1 s4 + (b * c) * zC3 s2 s3 + (b * f) * zC3 s2 s4 := by
      have r : g * (j * zC3 x y) = (g * x.1) * (j * y.2.1) - (g * x.2.1) * (j * y.1) := by unfold zC3; grind
      rw [r, x1, x2, y1, y2]; unfold zC3; grind
    rw [d1, e1, f1, g1] at w1
    rw [d2, e2, f2, g2] at w2
    rw [d3, e3, f3, g3] at w3
    simp only [Int.mul_zero, Int.add_zero] at w1 w2 w3
    have z : ∀ c : Int, g * (j * c) = 0 → c = 0 := fun c e => by
      have e2 := (Int.mul_eq_zero.mp e).resolve_left (by omega)
      exact (Int.mul_eq_zero.mp e2).resolve_left (by omega)
    rcases hxy with r | r | r
    · exact r (z _ w1)
    · exact r (z _ w2)
    · exact r (z _ w3)
  · obtain ⟨t, ht, hlt⟩ := h0.2 u (List.mem_append_left _ hu) v (List.mem_append_left _ hv) hc
    obtain ⟨s1, m1, s2, m2, a, b, g, ⟨ha, hb, hg⟩, x1, x2, x3⟩ := k t ht
    have e := zDz_lin (u := u) (v := v) x1 x2 x3
    have n := Int.mul_pos hg (show 0 < -zDz u v t by omega)
    rw [Int.mul_neg] at n
    by_cases q1 : zDz u v s1 < 0
    · exact ⟨s1, m1, q1⟩
    · by_cases q2 : zDz u v s2 < 0
      · exact ⟨s2, m2, q2⟩
      · exfalso
        have n1 := Int.mul_nonneg ha (Int.not_lt.mp q1)
        have n2 := Int.mul_nonneg hb (Int.not_lt.mp q2)
        omega
