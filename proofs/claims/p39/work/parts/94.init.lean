variable {zx : Nat × (Nat → Int32)}
def zz : Nat → Int32 := fun _ => 0
/-- a state under construction: how many cells, which references, which ints -/
def zP (c : Nat) (R : List (Nat × Nat × Nat)) (I : List (Nat × (Nat → Int32))) (σ : zSt) : Prop := σ.2.2.2 = c ∧ (∀ t ∈ R, t.1 < c ∧ σ.2.2.1 t.1 t.2.1 = .ref t.2.2) ∧ ∀ t ∈ I, t.1 < c ∧ σ.1 t.1 = t.2
theorem zP_new {c : Nat} {R : List (Nat × Nat × Nat)} {I : List (Nat × (Nat → Int32))} {σ : zSt} (h : zP c R I σ) : zP (c + 1) R ((c, zz) :: I) (zuN σ) := by
  obtain ⟨h1, h2, h3⟩ := h
  refine ⟨?_, fun t_z ht => ?_, List.forall_mem_cons.mpr ⟨⟨Nat.lt_succ_self c, ?_⟩, fun t_z ht => ?_⟩⟩
  · show σ.2.2.2 + 1 = c + 1
    rw [h1]
  · obtain ⟨q1_z, q2_z⟩ := h2 t_z ht
    refine ⟨by omega, ?_⟩
    show (if t_z.1 = σ.2.2.2 then fun _ => Value.null else σ.2.2.1 t_z.1) t_z.2.1 = _
    rw [if_neg (by omega)]; exact q2_z
  · show (if c = σ.2.2.2 then fun _ => (0 : Int32) else σ.1 c) = zz
    rw [if_pos h1.symm]; rfl
  · obtain ⟨q1_z, q2_z⟩ := h3 t_z ht
    refine ⟨by omega, ?_⟩
    show (if t_z.1 = σ.2.2.2 then fun _ => (0 : Int32) else σ.1 t_z.1) = _
    rw [if_neg (by omega)]; exact q2_z
theorem zP_ref {c a k b : Nat} {R : List (Nat × Nat × Nat)} {I : List (Nat × (Nat → Int32))} {σ : zSt} (h : zP c R I σ) (ha : a < c) (hf : ∀ t ∈ R, ¬ (t.1 = a ∧ t.2.1 = k)) : zP c ((a, k, b) :: R) I (zuR σ a k (.ref b)) := by
  obtain ⟨h1, h2, h3⟩ := h
  refine ⟨h1, List.forall_mem_cons.mpr ⟨⟨ha, ?_⟩, fun t_z ht => ?_⟩, h3⟩
  · show (if a = a then va_up (σ.2.2.1 a) k (.ref b) else σ.2.2.1 a) k = _
    rw [if_pos rfl, va_up_self]
  · obtain ⟨q1_z, q2_z⟩ := h2 t_z ht
    refine ⟨q1_z, ?_⟩
    show (if t_z.1 = a then va_up (σ.2.2.1 t_z.1) k (.ref b) else σ.2.2.1 t_z.1) t_z.2.1 = _
    by_cases e_z : t_z.1 = a
    · rw [if_pos e_z, va_up_ne _ _ (fun q_z => hf t_z ht ⟨e_z, q_z⟩)]; exact q2_z
    · rw [if_neg e_z]; exact q2_z
theorem zuI_ne {σ : zSt} {a b j : Nat} {v : Int32} (h : b ≠ a) : (zuI σ a j v).1 b = σ.1 b := if_neg h
theorem zP_mem {c : Nat} {R : List (Nat × Nat × Nat)} {I : List (Nat × (Nat → Int32))} {σ : zSt} (h : zP c R I σ) (n : Nat) {a : Nat} {f : Nat → Int32} (e : I[n]? = some (a, f)) : σ.1 a = f := (h.2.2 (a, f) (List.mem_of_getElem? e)).2
def zRchk (lo hi : Nat) (R : List (Nat × Nat × Nat)) : Bool := zRs.all (fun q => !(Nat.ble lo q.1.1 && Nat.blt q.1.1 hi) || R.any (fun t => Nat.beq t.1 q.1.1 && (Nat.beq t.2.1 q.1.2 && Nat.beq t.2.2 q.2)))
theorem zQI_P {c lo hi : Nat} {R : List (Nat × Nat × Nat)} {I : List (Nat × (Nat → Int32))} {σ : zSt} (h : zP c R I σ) (hc : hi ≤ c) (hr : zRchk lo hi R = true) : zQI (kR lo hi) σ.2.2 := by
  intro a_z ha_z
  unfold kR at ha_z
  rw [Bool.and_eq_true] at ha_z
  have h1 := Nat.le_of_ble_eq_true ha_z.1
  have h2 : a_z < hi := Nat.le_of_ble_eq_true ha_z.2
  refine ⟨by have := h.1; omega, fun k_z b_z hb_z => ?_⟩
  unfold zRr at hb_z
  split at hb_z
  · rename_i q_z hq
    cases hb_z
    have hm_z := List.mem_of_find?_eq_some hq
    have hp := List.find?_some hq
    rw [Bool.and_eq_true] at hp
    have e1_z := Nat.eq_of_beq_eq_true hp.1
    have e2_z := Nat.eq_of_beq_eq_true hp.2
    have hx := List.all_eq_true.mp hr q_z hm_z
    rw [Bool.or_eq_true] at hx
    rcases hx with hx | hx
    · rw [e1_z, ha_z.1, ha_z.2] at hx; exact absurd hx (by decide)
    · obtain ⟨t_z, t1_z, t2_z⟩ := List.any_eq_true.mp hx
      rw [Bool.and_eq_true, Bool.and_eq_true] at t2_z
      have w1_z := Nat.eq_of_beq_eq_true t2_z.1
      have w2_z := Nat.eq_of_beq_eq_true t2_z.2.1
      have w3_z := Nat.eq_of_beq_eq_true t2_z.2.2
      obtain ⟨_, hr2⟩ := h.2.1 t_z t1_z
      rw [w1_z, w2_z, w3_z, e1_z, e2_z] at hr2
      exact hr2
  · cases hb_z
set_option maxRecDepth 8000 in
theorem init_X0_24 {d : Nat} {σ : zSt} {K : Option Value → zSt → Prop} {R : List (Nat × Nat × Nat)} {I : List (Nat × (Nat → Int32))} (hP : zP 25 R I σ) (hlt : ∀ t ∈ R, t.1 ≠ 24) (hK : ∀ τ, zP 26 ([(24, 0, 25)] ++ R) ((25, zz) :: I) τ → K none τ) : zSp zx (d + 1) mX0_init [.ref 24] σ K := by
  refine ⟨⟨by decide, Nat.le_of_ble_eq_true rfl⟩, fun V hV => ?_⟩
  refine hV.1 _ _ _ _ ?_
  show V 1 [(0, .ref 24)] [.ref 24] σ
  refine hV.1 _ _ _ _ ?_
  show _ ∧ V 4 [(0, .ref 24)] [] σ
  refine ⟨by decide, ?_⟩
  refine hV.1 _ _ _ _ ?_
  show V 5 [(0, .ref 24)] [.ref 24] σ
  refine hV.1 _ _ _ _ ?_
  show V 7 [(0, .ref 24)] [.int 12, .ref 24] σ
  refine hV.1 _ _ _ _ ?_
  refine ⟨⟨by rw [hP.1]; rfl, rfl, by decide, by rw [hP.1]; decide⟩, ?_⟩
  rw [hP.1]
  have hP1 := zP_new hP
  generalize zuN σ = τ1 at hP1 ⊢
  show V 9 [(0, .ref 24)] [.ref 25, .ref 24] τ1
  refine hV.1 _ _ _ _ ?_
  refine ⟨⟨by rw [hP1.1]; decide, rfl, Or.inr ⟨rfl, rfl⟩⟩, ?_⟩
  show V 12 [(0, .ref 24)] [] (zuR τ1 24 0 (.ref 25))
  have hP2 := zP_ref (a := 24) (k := 0) (b := 25) hP1 (by decide) (fun t_z ht q_z => hlt t_z ht q_z.1)
  generalize zuR τ1 24 0 (.ref 25) = τ2 at hP2 ⊢
  refine hV.1 _ _ _ _ ?_
  refine ⟨rfl, rfl, by rw [hP2.1, hP.1]; rfl, ?_⟩
  exact hK _ hP2
set_option maxRecDepth 8000 in
theorem init_X1_21 {d : Nat} {σ : zSt} {K : Option Value → zSt → Prop} {R : List (Nat × Nat × Nat)} {I : List (Nat × (Nat → Int32))} (hP : zP 22 R I σ) (hlt : ∀ t ∈ R, t.1 ≠ 21) (hK : ∀ τ, zP 24 ([(21, 1, 23), (21, 0, 22)] ++ R) ((23, zz) :: (22, zz) :: I) τ → K none τ) : zSp zx (d + 1) mX1_init [.ref 21] σ K := by
  refine ⟨⟨by decide, Nat.le_of_ble_eq_true rfl⟩, fun V hV => ?_⟩
  refine hV.1 _ _ _ _ ?_
  show V 1 [(0, .ref 21)] [.ref 21] σ
  refine hV.1 _ _ _ _ ?_
  show _ ∧ V 4 [(0, .ref 21)] [] σ
  refine ⟨by decide, ?_⟩
  refine hV.1 _ _ _ _ ?_
  show V 5 [(0, .ref 21)] [.ref 21] σ
  refine hV.1 _ _ _ _ ?_
  show V 7 [(0, .ref 21)] [.int 100, .ref 21] σ
  refine hV.1 _ _ _ _ ?_
  refine ⟨⟨by rw [hP.1]; rfl, rfl, by decide, by rw [hP.1]; decide⟩, ?_⟩
  rw [hP.1]
  have hP1 := zP_new hP
  generalize zuN σ = τ1 at hP1 ⊢
  show V 9 [(0, .ref 21)] [.ref 22, .ref 21] τ1
  refine hV.1 _ _ _ _ ?_
  refine ⟨⟨by rw [hP1.1]; decide, rfl, Or.inr ⟨rfl, rfl⟩⟩, ?_⟩
  show V 12 [(0, .ref 21)] [] (zuR τ1 21 0 (.ref 22))
  have hP2 := zP_ref (a := 21) (k := 0) (b := 22) hP1 (by decide) (fun t_z ht q_z => hlt t_z ht q_z.1)
  generalize zuR τ1 21 0 (.ref 22) = τ2 at hP2 ⊢
  refine hV.1 _ _ _ _ ?_
  show V 13 [(0, .ref 21)] [.ref 21] τ2
  refine hV.1 _ _ _ _ ?_
  show V 15 [(0, .ref 21)] [.int 10, .ref 21] τ2
  refine hV.1 _ _ _ _ ?_
  refine ⟨⟨by rw [hP2.1]; rfl, rfl, by decide, by rw [hP2.1, hP.1]; decide⟩, ?_⟩
  rw [hP2.1]
  have hP3 := zP_new hP2
  generalize zuN τ2 = τ3 at hP3 ⊢
  show V 17 [(0, .ref 21)] [.ref 23, .ref 21] τ3
  refine hV.1 _ _ _ _ ?_
  refine ⟨⟨by rw [hP3.1]; decide, rfl, Or.inr ⟨rfl, rfl⟩⟩, ?_⟩
  show V 20 [(0, .ref 21)] [] (zuR τ3 21 1 (.ref 23))
  have hP4 := zP_ref (a := 21) (k := 1) (b := 23) hP3 (by decide) (List.forall_mem_cons.mpr ⟨by decide, (fun t_z ht q_z => hlt t_z ht q_z.1)⟩)
  generalize zuR τ3 21 1 (.ref 23) = τ4 at hP4 ⊢
  refine hV.1 _ _ _ _ ?_
  refine ⟨rfl, rfl, by rw [hP4.1, hP.1]; rfl, ?_⟩
  exact hK _ hP4
set_option maxRecDepth 8000 in
theorem init_X2_4 {d : Nat} {σ : zSt} {K : Option Value → zSt → Prop} {R : List (Nat × Nat × Nat)} {I : List (Nat × (Nat → Int32))} (hP : zP 5 R I σ) (hlt : ∀ t ∈ R, t.1 ≠ 4) (hK : ∀ τ, zP 7 ([(4, 1, 6), (4, 0, 5)] ++ R) ((6, zz) :: (5, zz) :: I) τ → K none τ) : zSp zx (d + 1) mX2_init [.ref 4] σ K := by
  refine ⟨⟨by decide, Nat.le_of_ble_eq_true rfl⟩, fun V hV => ?_⟩
  refine hV.1 _ _ _ _ ?_
  show V 1 [(0, .ref 4)] [.ref 4] σ
  refine hV.1 _ _ _ _ ?_
  show _ ∧ V 4 [(0, .ref 4)] [] σ
  refine ⟨by decide, ?_⟩
  refine hV.1 _ _ _ _ ?_
  show V 5 [(0, .ref 4)] [.ref 4] σ
  refine hV.1 _ _ _ _ ?_
  show V 7 [(0, .ref 4)] [.int 8, .ref 4] σ
  refine hV.1 _ _ _ _ ?_
  refine ⟨⟨by rw [hP.1]; rfl, rfl, by decide, by rw [hP.1]; decide⟩, ?_⟩
  rw [hP.1]
  have hP1 := zP_new hP
  generalize zuN σ = τ1 at hP1 ⊢
  show V 9 [(0, .ref 4)] [.ref 5, .ref 4] τ1
  refine hV.1 _ _ _ _ ?_
  refine ⟨⟨by rw [hP1.1]; decide, rfl, Or.inr ⟨rfl, rfl⟩⟩, ?_⟩
  show V 12 [(0, .ref 4)] [] (zuR τ1 4 0 (.ref 5))
  have hP2 := zP_ref (a := 4) (k := 0) (b := 5) hP1 (by decide) (fun t_z ht q_z => hlt t_z ht q_z.1)
  generalize zuR τ1 4 0 (.ref 5) = τ2 at hP2 ⊢
  refine hV.1 _ _ _ _ ?_
  show V 13 [(0, .ref 4)] [.ref 4] τ2
  refine hV.1 _ _ _ _ ?_
  show V 15 [(0, .ref 4)] [.int 8, .ref 4] τ2
  refine hV.1 _ _ _ _ ?_
  refine ⟨⟨by rw [hP2.1]; rfl, rfl, by decide, by rw [hP2.1, hP.1]; decide⟩, ?_⟩
  rw [hP2.1]
  have hP3 := zP_new hP2
  generalize zuN τ2 = τ3 at hP3 ⊢
  show V 17 [(0, .ref 4)] [.ref 6, .ref 4] τ3
  refine hV.1 _ _ _ _ ?_
  refine ⟨⟨by rw [hP3.1]; decide, rfl, Or.inr ⟨rfl, rfl⟩⟩, ?_⟩
  show V 20 [(0, .ref 4)] [] (zuR τ3 4 1 (.ref 6))
  have hP4 := zP_ref (a := 4) (k := 1) (b := 6) hP3 (by decide) (List.forall_mem_cons.mpr ⟨by decide, (fun t_z ht q_z => hlt t_z ht q_z.1)⟩)
  generalize zuR τ3 4 1 (.ref 6) = τ4 at hP4 ⊢
  refine hV.1 _ _ _ _ ?_
  refine ⟨rfl, rfl, by rw [hP4.1, hP.1]; rfl, ?_⟩
  exact hK _ hP4
set_option maxRecDepth 8000 in
theorem init_X2_7 {d : Nat} {σ : zSt} {K : Option Value → zSt → Prop} {R : List (Nat × Nat × Nat)} {I : List (Nat × (Nat → Int32))} (hP : zP 8 R I σ) (hlt : ∀ t ∈ R, t.1 ≠ 7) (hK : ∀ τ, zP 10 ([(7, 1, 9), (7, 0, 8)] ++ R) ((9, zz) :: (8, zz) :: I) τ → K none τ) : zSp zx (d + 1) mX2_init [.ref 7] σ K := by
  refine ⟨⟨by decide, Nat.le_of_ble_eq_true rfl⟩, fun V hV => ?_⟩
  refine hV.1 _ _ _ _ ?_
  show V 1 [(0, .ref 7)] [.ref 7] σ
  refine hV.1 _ _ _ _ ?_
  show _ ∧ V 4 [(0, .ref 7)] [] σ
  refine ⟨by decide, ?_⟩
  refine hV.1 _ _ _ _ ?_
  show V 5 [(0, .ref 7)] [.ref 7] σ
  refine hV.1 _ _ _ _ ?_
  show V 7 [(0, .ref 7)] [.int 8, .ref 7] σ
  refine hV.1 _ _ _ _ ?_
  refine ⟨⟨by rw [hP.1]; rfl, rfl, by decide, by rw [hP.1]; decide⟩, ?_⟩
  rw [hP.1]
  have hP1 := zP_new hP
  generalize zuN σ = τ1 at hP1 ⊢
  show V 9 [(0, .ref 7)] [.ref 8, .ref 7] τ1
  refine hV.1 _ _ _ _ ?_
  refine ⟨⟨by rw [hP1.1]; decide, rfl, Or.inr ⟨rfl, rfl⟩⟩, ?_⟩
  show V 12 [(0, .ref 7)] [] (zuR τ1 7 0 (.ref 8))
  have hP2 := zP_ref (a := 7) (k := 0) (b := 8) hP1 (by decide) (fun t_z ht q_z => hlt t_z ht q_z.1)
  generalize zuR τ1 7 0 (.ref 8) = τ2 at hP2 ⊢
  refine hV.1 _ _ _ _ ?_
  show V 13 [(0, .ref 7)] [.ref 7] τ2
  refine hV.1 _ _ _ _ ?_
  show V 15 [(0, .ref 7)] [.int 8, .ref 7] τ2
  refine hV.1 _ _ _ _ ?_
  refine ⟨⟨by rw [hP2.1]; rfl, rfl, by decide, by rw [hP2.1, hP.1]; decide⟩, ?_⟩
  rw [hP2.1]
  have hP3 := zP_new hP2
  generalize zuN τ2 = τ3 at hP3 ⊢
  show V 17 [(0, .ref 7)] [.ref 9, .ref 7] τ3
  refine hV.1 _ _ _ _ ?_
  refine ⟨⟨by rw [hP3.1]; decide, rfl, Or.inr ⟨rfl, rfl⟩⟩, ?_⟩
  show V 20 [(0, .ref 7)] [] (zuR τ3 7 1 (.ref 9))
  have hP4 := zP_ref (a := 7) (k := 1) (b := 9) hP3 (by decide) (List.forall_mem_cons.mpr ⟨by decide, (fun t_z ht q_z => hlt t_z ht q_z.1)⟩)
  generalize zuR τ3 7 1 (.ref 9) = τ4 at hP4 ⊢
  refine hV.1 _ _ _ _ ?_
  refine ⟨rfl, rfl, by rw [hP4.1, hP.1]; rfl, ?_⟩
  exact hK _ hP4
set_option maxRecDepth 8000 in
theorem init_X4_18 {d : Nat} {σ : zSt} {K : Option Value → zSt → Prop} {R : List (Nat × Nat × Nat)} {I : List (Nat × (Nat → Int32))} (hP : zP 19 R I σ) (hlt : ∀ t ∈ R, t.1 ≠ 18) (hK : ∀ τ, zP 21 ([(18, 1, 20), (18, 0, 19)] ++ R) ((20, zz) :: (19, zz) :: I) τ → K none τ) : zSp zx (d + 1) mX4_init [.ref 18] σ K := by
  refine ⟨⟨by decide, Nat.le_of_ble_eq_true rfl⟩, fun V hV => ?_⟩
  refine hV.1 _ _ _ _ ?_
  show V 1 [(0, .ref 18)] [.ref 18] σ
  refine hV.1 _ _ _ _ ?_
  show _ ∧ V 4 [(0, .ref 18)] [] σ
  refine ⟨by decide, ?_⟩
  refine hV.1 _ _ _ _ ?_
  show V 5 [(0, .ref 18)] [.ref 18] σ
  refine hV.1 _ _ _ _ ?_
  show V 7 [(0, .ref 18)] [.int 20, .ref 18] σ
  refine hV.1 _ _ _ _ ?_
  refine ⟨⟨by rw [hP.1]; rfl, rfl, by decide, by rw [hP.1]; decide⟩, ?_⟩
  rw [hP.1]
  have hP1 := zP_new hP
  generalize zuN σ = τ1 at hP1 ⊢
  show V 9 [(0, .ref 18)] [.ref 19, .ref 18] τ1
  refine hV.1 _ _ _ _ ?_
  refine ⟨⟨by rw [hP1.1]; decide, rfl, Or.inr ⟨rfl, rfl⟩⟩, ?_⟩
  show V 12 [(0, .ref 18)] [] (zuR τ1 18 0 (.ref 19))
  have hP2 := zP_ref (a := 18) (k := 0) (b := 19) hP1 (by decide) (fun t_z ht q_z => hlt t_z ht q_z.1)
  generalize zuR τ1 18 0 (.ref 19) = τ2 at hP2 ⊢
  refine hV.1 _ _ _ _ ?_
  show V 13 [(0, .ref 18)] [.ref 18] τ2
  refine hV.1 _ _ _ _ ?_
  show V 15 [(0, .ref 18)] [.int 20, .ref 18] τ2
  refine hV.1 _ _ _ _ ?_
  refine ⟨⟨by rw [hP2.1]; rfl, rfl, by decide, by rw [hP2.1, hP.1]; decide⟩, ?_⟩
  rw [hP2.1]
  have hP3 := zP_new hP2
  generalize zuN τ2 = τ3 at hP3 ⊢
  show V 17 [(0, .ref 18)] [.ref 20, .ref 18] τ3
  refine hV.1 _ _ _ _ ?_
  refine ⟨⟨by rw [hP3.1]; decide, rfl, Or.inr ⟨rfl, rfl⟩⟩, ?_⟩
  show V 20 [(0, .ref 18)] [] (zuR τ3 18 1 (.ref 20))
  have hP4 := zP_ref (a := 18) (k := 1) (b := 20) hP3 (by decide) (List.forall_mem_cons.mpr ⟨by decide, (fun t_z ht q_z => hlt t_z ht q_z.1)⟩)
  generalize zuR τ3 18 1 (.ref 20) = τ4 at hP4 ⊢
  refine hV.1 _ _ _ _ ?_
  refine ⟨rfl, rfl, by rw [hP4.1, hP.1]; rfl, ?_⟩
  exact hK _ hP4
set_option maxRecDepth 8000 in
theorem init_X6_14 {d : Nat} {σ : zSt} {K : Option Value → zSt → Prop} {R : List (Nat × Nat × Nat)} {I : List (Nat × (Nat → Int32))} (hP : zP 15 R I σ) (hlt : ∀ t ∈ R, t.1 ≠ 14) (hK : ∀ τ, zP 18 ([(14, 2, 17), (14, 1, 16), (14, 0, 15)] ++ R) ((17, zz) :: (16, zz) :: (15, zz) :: I) τ → K none τ) : zSp zx (d + 1) mX6_init [.ref 14] σ K := by
  refine ⟨⟨by decide, Nat.le_of_ble_eq_true rfl⟩, fun V hV => ?_⟩
  refine hV.1 _ _ _ _ ?_
  show V 1 [(0, .ref 14)] [.ref 14] σ
  refine hV.1 _ _ _ _ ?_
  show _ ∧ V 4 [(0, .ref 14)] [] σ
  refine ⟨by decide, ?_⟩
  refine hV.1 _ _ _ _ ?_
  show V 5 [(0, .ref 14)] [.ref 14] σ
  refine hV.1 _ _ _ _ ?_
  show V 7 [(0, .ref 14)] [.int 7, .ref 14] σ
  refine hV.1 _ _ _ _ ?_
  refine ⟨⟨by rw [hP.1]; rfl, rfl, by decide, by rw [hP.1]; decide⟩, ?_⟩
  rw [hP.1]
  have hP1 := zP_new hP
  generalize zuN σ = τ1 at hP1 ⊢
  show V 9 [(0, .ref 14)] [.ref 15, .ref 14] τ1
  refine hV.1 _ _ _ _ ?_
  refine ⟨⟨by rw [hP1.1]; decide, rfl, Or.inr ⟨rfl, rfl⟩⟩, ?_⟩
  show V 12 [(0, .ref 14)] [] (zuR τ1 14 0 (.ref 15))
  have hP2 := zP_ref (a := 14) (k := 0) (b := 15) hP1 (by decide) (fun t_z ht q_z => hlt t_z ht q_z.1)
  generalize zuR τ1 14 0 (.ref 15) = τ2 at hP2 ⊢
  refine hV.1 _ _ _ _ ?_
  show V 13 [(0, .ref 14)] [.ref 14] τ2
  refine hV.1 _ _ _ _ ?_
  show V 15 [(0, .ref 14)] [.int 7, .ref 14] τ2
  refine hV.1 _ _ _ _ ?_
  refine ⟨⟨by rw [hP2.1]; rfl, rfl, by decide, by rw [hP2.1, hP.1]; decide⟩, ?_⟩
  rw [hP2.1]
  have hP3 := zP_new hP2
  generalize zuN τ2 = τ3 at hP3 ⊢
  show V 17 [(0, .ref 14)] [.ref 16, .ref 14] τ3
  refine hV.1 _ _ _ _ ?_
  refine ⟨⟨by rw [hP3.1]; decide, rfl, Or.inr ⟨rfl, rfl⟩⟩, ?_⟩
  show V 20 [(0, .ref 14)] [] (zuR τ3 14 1 (.ref 16))
  have hP4 := zP_ref (a := 14) (k := 1) (b := 16) hP3 (by decide) (List.forall_mem_cons.mpr ⟨by decide, (fun t_z ht q_z => hlt t_z ht q_z.1)⟩)
  generalize zuR τ3 14 1 (.ref 16) = τ4 at hP4 ⊢
  refine hV.1 _ _ _ _ ?_
  show V 21 [(0, .ref 14)] [.ref 14] τ4
  refine hV.1 _ _ _ _ ?_
  show V 23 [(0, .ref 14)] [.int 7, .ref 14] τ4
  refine hV.1 _ _ _ _ ?_
  refine ⟨⟨by rw [hP4.1]; rfl, rfl, by decide, by rw [hP4.1, hP.1]; decide⟩, ?_⟩
  rw [hP4.1]
  have hP5 := zP_new hP4
  generalize zuN τ4 = τ5 at hP5 ⊢
  show V 25 [(0, .ref 14)] [.ref 17, .ref 14] τ5
  refine hV.1 _ _ _ _ ?_
  refine ⟨⟨by rw [hP5.1]; decide, rfl, Or.inr ⟨rfl, rfl⟩⟩, ?_⟩
  show V 28 [(0, .ref 14)] [] (zuR τ5 14 2 (.ref 17))
  have hP6 := zP_ref (a := 14) (k := 2) (b := 17) hP5 (by decide) (List.forall_mem_cons.mpr ⟨by decide, (List.forall_mem_cons.mpr ⟨by decide, (fun t_z ht q_z => hlt t_z ht q_z.1)⟩)⟩)
  generalize zuR τ5 14 2 (.ref 17) = τ6 at hP6 ⊢
  refine hV.1 _ _ _ _ ?_
  refine ⟨rfl, rfl, by rw [hP6.1, hP.1]; rfl, ?_⟩
  exact hK _ hP6
set_option maxRecDepth 8000 in
theorem init_X7_10 {d : Nat} {σ : zSt} {K : Option Value → zSt → Prop} {R : List (Nat × Nat × Nat)} {I : List (Nat × (Nat → Int32))} (hP : zP 11 R I σ) (hlt : ∀ t ∈ R, t.1 ≠ 10) (hK : ∀ τ, zP 14 ([(10, 2, 13), (10, 1, 12), (10, 0, 11)] ++ R) ((13, zz) :: (12, zz) :: (11, zz) :: I) τ → K none τ) : zSp zx (d + 1) mX7_init [.ref 10] σ K := by
  refine ⟨⟨by decide, Nat.le_of_ble_eq_true rfl⟩, fun V hV => ?_⟩
  refine hV.1 _ _ _ _ ?_
  show V 1 [(0, .ref 10)] [.ref 10] σ
  refine hV.1 _ _ _ _ ?_
  show _ ∧ V 4 [(0, .ref 10)] [] σ
  refine ⟨by decide, ?_⟩
  refine hV.1 _ _ _ _ ?_
  show V 5 [(0, .ref 10)] [.ref 10] σ
  refine hV.1 _ _ _ _ ?_
  show V 7 [(0, .ref 10)] [.int 16, .ref 10] σ
  refine hV.1 _ _ _ _ ?_
  refine ⟨⟨by rw [hP.1]; rfl, rfl, by decide, by rw [hP.1]; decide⟩, ?_⟩
  rw [hP.1]
  have hP1 := zP_new hP
  generalize zuN σ = τ1 at hP1 ⊢
  show V 9 [(0, .ref 10)] [.ref 11, .ref 10] τ1
  refine hV.1 _ _ _ _ ?_
  refine ⟨⟨by rw [hP1.1]; decide, rfl, Or.inr ⟨rfl, rfl⟩⟩, ?_⟩
  show V 12 [(0, .ref 10)] [] (zuR τ1 10 0 (.ref 11))
  have hP2 := zP_ref (a := 10) (k := 0) (b := 11) hP1 (by decide) (fun t_z ht q_z => hlt t_z ht q_z.1)
  generalize zuR τ1 10 0 (.ref 11) = τ2 at hP2 ⊢
  refine hV.1 _ _ _ _ ?_
  show V 13 [(0, .ref 10)] [.ref 10] τ2
  refine hV.1 _ _ _ _ ?_
  show V 15 [(0, .ref 10)] [.int 16, .ref 10] τ2
  refine hV.1 _ _ _ _ ?_
  refine ⟨⟨by rw [hP2.1]; rfl, rfl, by decide, by rw [hP2.1, hP.1]; decide⟩, ?_⟩
  rw [hP2.1]
  have hP3 := zP_new hP2
  generalize zuN τ2 = τ3 at hP3 ⊢
  show V 17 [(0, .ref 10)] [.ref 12, .ref 10] τ3
  refine hV.1 _ _ _ _ ?_
  refine ⟨⟨by rw [hP3.1]; decide, rfl, Or.inr ⟨rfl, rfl⟩⟩, ?_⟩
  show V 20 [(0, .ref 10)] [] (zuR τ3 10 1 (.ref 12))
  have hP4 := zP_ref (a := 10) (k := 1) (b := 12) hP3 (by decide) (List.forall_mem_cons.mpr ⟨by decide, (fun t_z ht q_z => hlt t_z ht q_z.1)⟩)
  generalize zuR τ3 10 1 (.ref 12) = τ4 at hP4 ⊢
  refine hV.1 _ _ _ _ ?_
  show V 21 [(0, .ref 10)] [.ref 10] τ4
  refine hV.1 _ _ _ _ ?_
  show V 23 [(0, .ref 10)] [.int 16, .ref 10] τ4
  refine hV.1 _ _ _ _ ?_
  refine ⟨⟨by rw [hP4.1]; rfl, rfl, by decide, by rw [hP4.1, hP.1]; decide⟩, ?_⟩
  rw [hP4.1]
  have hP5 := zP_new hP4
  generalize zuN τ4 = τ5 at hP5 ⊢
  show V 25 [(0, .ref 10)] [.ref 13, .ref 10] τ5
  refine hV.1 _ _ _ _ ?_
  refine ⟨⟨by rw [hP5.1]; decide, rfl, Or.inr ⟨rfl, rfl⟩⟩, ?_⟩
  show V 28 [(0, .ref 10)] [] (zuR τ5 10 2 (.ref 13))
  have hP6 := zP_ref (a := 10) (k := 2) (b := 13) hP5 (by decide) (List.forall_mem_cons.mpr ⟨by decide, (List.forall_mem_cons.mpr ⟨by decide, (fun t_z ht q_z => hlt t_z ht q_z.1)⟩)⟩)
  generalize zuR τ5 10 2 (.ref 13) = τ6 at hP6 ⊢
  refine hV.1 _ _ _ _ ?_
  refine ⟨rfl, rfl, by rw [hP6.1, hP.1]; rfl, ?_⟩
  exact hK _ hP6
def zX0 : Nat → Int32 := upd (upd (upd zz 0 0) 1 10) 2 0
def zY0 : Nat → Int32 := upd (upd (upd zz 0 0) 1 0) 2 10
set_option maxRecDepth 8000 in
theorem init_X3 {d : Nat} {σ : zSt} {K : Option Value → zSt → Prop} (hP : zP 2 [] [(1, zz), (0, zz)] σ) (hK : ∀ τ, zP 4 [(1, 1, 3), (1, 0, 2)] [(3, zY0), (2, zX0), (1, τ.1 1), (0, zz)] τ → τ.1 1 2 = nI 3 → τ.1 1 3 = zAr 3 zX0 zY0 3 → τ.1 1 4 = zMx 3 zX0 zY0 3 → τ.1 1 5 = zMy 3 zX0 zY0 3 → K none τ) : zSp zx (d + 4) mX3_init [.ref 1] σ K := by
  refine ⟨⟨by decide, Nat.le_of_ble_eq_true rfl⟩, fun V hV => ?_⟩
  refine hV.1 _ _ _ _ ?_
  show V 1 [(0, .ref 1)] [.ref 1] σ
  refine hV.1 _ _ _ _ ?_
  show _ ∧ V 4 [(0, .ref 1)] [] σ
  refine ⟨by decide, ?_⟩
  refine hV.1 _ _ _ _ ?_
  show V 5 [(0, .ref 1)] [.ref 1] σ
  refine hV.1 _ _ _ _ ?_
  show V 7 [(0, .ref 1)] [.int 10, .ref 1] σ
  refine hV.1 _ _ _ _ ?_
  refine ⟨⟨by rw [hP.1]; rfl, rfl, by decide, by rw [hP.1]; decide⟩, ?_⟩
  rw [hP.1]
  have hP1 := zP_new hP
  generalize zuN σ = τ1 at hP1 ⊢
  show V 9 [(0, .ref 1)] [.ref 2, .ref 1] τ1
  refine hV.1 _ _ _ _ ?_
  refine ⟨⟨by rw [hP1.1]; decide, rfl, Or.inr ⟨rfl, rfl⟩⟩, ?_⟩
  show V 12 [(0, .ref 1)] [] (zuR τ1 1 0 (.ref 2))
  have hP2 := zP_ref (a := 1) (k := 0) (b := 2) hP1 (by decide) (by decide)
  generalize zuR τ1 1 0 (.ref 2) = τ2 at hP2 ⊢
  refine hV.1 _ _ _ _ ?_
  show V 13 [(0, .ref 1)] [.ref 1] τ2
  refine hV.1 _ _ _ _ ?_
  show V 15 [(0, .ref 1)] [.int 10, .ref 1] τ2
  refine hV.1 _ _ _ _ ?_
  refine ⟨⟨by rw [hP2.1]; rfl, rfl, by decide, by rw [hP2.1, hP.1]; decide⟩, ?_⟩
  rw [hP2.1]
  have hP3 := zP_new hP2
  generalize zuN τ2 = τ3 at hP3 ⊢
  show V 17 [(0, .ref 1)] [.ref 3, .ref 1] τ3
  refine hV.1 _ _ _ _ ?_
  refine ⟨⟨by rw [hP3.1]; decide, rfl, Or.inr ⟨rfl, rfl⟩⟩, ?_⟩
  show V 20 [(0, .ref 1)] [] (zuR τ3 1 1 (.ref 3))
  have hP4 := zP_ref (a := 1) (k := 1) (b := 3) hP3 (by decide) (by decide)
  generalize zuR τ3 1 1 (.ref 3) = τ4 at hP4 ⊢
  have hI : zQI (kR 1 4) τ4.2.2 := zQI_P hP4 (by decide) (by decide)
  have hn : τ4.2.2.2 = σ.2.2.2 + zAl mX3_init := by rw [hP4.1, hP.1]; rfl
  refine zq (σ := τ4) hV hI hn 5 ?_
  show zSp _ _ 14 [.ref 1, .int 0, .int 0, .int 0] τ4 (fun r_z σ' => σ'.2.2.2 = τ4.2.2.2 + zAl 14 → V 27 [(0, .ref 1)] (r_z.toList ++ []) σ')
  refine setCorner_ok (zR_of hI rfl rfl) (k := 0) rfl (by decide) (fun _ => ?_)
  refine zq (σ := (zuI (zuI τ4 2 0 0) 3 0 0)) hV hI hn 5 ?_
  show zSp _ _ 14 [.ref 1, .int 1, .int 10, .int 0] (zuI (zuI τ4 2 0 0) 3 0 0) (fun r_z σ' => σ'.2.2.2 = (zuI (zuI τ4 2 0 0) 3 0 0).2.2.2 + zAl 14 → V 35 [(0, .ref 1)] (r_z.toList ++ []) σ')
  refine setCorner_ok (zR_of hI rfl rfl) (k := 1) rfl (by decide) (fun _ => ?_)
  refine zq (σ := (zuI (zuI (zuI (zuI τ4 2 0 0) 3 0 0) 2 1 10) 3 1 0)) hV hI hn 5 ?_
  show zSp _ _ 14 [.ref 1, .int 2, .int 0, .int 10] (zuI (zuI (zuI (zuI τ4 2 0 0) 3 0 0) 2 1 10) 3 1 0) (fun r_z σ' => σ'.2.2.2 = (zuI (zuI (zuI (zuI τ4 2 0 0) 3 0 0) 2 1 10) 3 1 0).2.2.2 + zAl 14 → V 43 [(0, .ref 1)] (r_z.toList ++ []) σ')
  refine setCorner_ok (zR_of hI rfl rfl) (k := 2) rfl (by decide) (fun _ => ?_)
  refine zq (σ := (zuI (zuI (zuI (zuI (zuI (zuI τ4 2 0 0) 3 0 0) 2 1 10) 3 1 0) 2 2 0) 3 2 10)) hV hI hn 3 ?_
  show zSp _ _ 15 [.ref 1, .int 3] (zuI (zuI (zuI (zuI (zuI (zuI τ4 2 0 0) 3 0 0) 2 1 10) 3 1 0) 2 2 0) 3 2 10) (fun r_z σ' => σ'.2.2.2 = (zuI (zuI (zuI (zuI (zuI (zuI τ4 2 0 0) 3 0 0) 2 1 10) 3 1 0) 2 2 0) 3 2 10).2.2.2 + zAl 15 → V 48 [(0, .ref 1)] (r_z.toList ++ []) σ')
  refine close_ok (zR_of hI rfl rfl) (n := 3) (by decide) (fun υ hu hcn har hmx hmy _ => ?_)
  have hIυ := zQI_eq hI hu.2.2
  have hnυ : υ.2.2.2 = _ := (congrArg Prod.snd hu.2.2).trans hn
  refine zq (σ := υ) hV hIυ hnυ 1 ?_
  show K none υ
  have y2 : υ.1 2 = zX0 := (funext fun j_z => hu.1 2 j_z rfl).trans (by show upd (upd (upd (τ4.1 2) 0 0) 1 10) 2 0 = _; rw [zP_mem hP4 1 rfl]; rfl)
  have y3 : υ.1 3 = zY0 := (funext fun j_z => hu.1 3 j_z rfl).trans (by show upd (upd (upd (τ4.1 3) 0 0) 1 0) 2 10 = _; rw [zP_mem hP4 0 rfl]; rfl)
  have c2_z : ((zuI (zuI (zuI (zuI (zuI (zuI τ4 2 0 0) 3 0 0) 2 1 10) 3 1 0) 2 2 0) 3 2 10)).1 2 = zX0 := by show upd (upd (upd (τ4.1 2) 0 0) 1 10) 2 0 = _; rw [zP_mem hP4 1 rfl]; rfl
  have c3_z : ((zuI (zuI (zuI (zuI (zuI (zuI τ4 2 0 0) 3 0 0) 2 1 10) 3 1 0) 2 2 0) 3 2 10)).1 3 = zY0 := by show upd (upd (upd (τ4.1 3) 0 0) 1 0) 2 10 = _; rw [zP_mem hP4 0 rfl]; rfl
  rw [c2_z, c3_z] at har hmx hmy
  have y0 : υ.1 0 = zz := (funext fun j_z => hu.1 0 j_z rfl).trans (zP_mem hP4 3 rfl)
  refine hK υ ⟨(congrArg Prod.snd hu.2.2).trans hP4.1, fun t_z ht => ?_, List.forall_mem_cons.mpr ⟨⟨Nat.le_of_ble_eq_true rfl, y3⟩, List.forall_mem_cons.mpr ⟨⟨Nat.le_of_ble_eq_true rfl, y2⟩, List.forall_mem_cons.mpr ⟨⟨Nat.le_of_ble_eq_true rfl, rfl⟩, List.forall_mem_cons.mpr ⟨⟨Nat.le_of_ble_eq_true rfl, y0⟩, fun t_z ht => absurd ht List.not_mem_nil⟩⟩⟩⟩⟩ hcn har hmx hmy
  rw [show υ.2.2.1 = τ4.2.2.1 from congrArg Prod.fst hu.2.2]
  exact hP4.2.1 t_z ht
def zF0 : Nat → Int32 := upd (upd (upd (upd zz 0 (-1)) 1 (-1)) 2 (-1)) 3 (-1)
set_option maxRecDepth 8000 in
theorem init_X5 {d : Nat} {σ : zSt} {K : Option Value → zSt → Prop} {R : List (Nat × Nat × Nat)} {I : List (Nat × (Nat → Int32))} (hP : zP 27 R I σ) (hlt : ∀ t ∈ R, t.1 ≠ 26) (hK : ∀ τ, zP 30 ([(26, 2, 29), (26, 1, 28), (26, 0, 27)] ++ R) ((29, zz) :: (28, zz) :: (27, zF0) :: I) τ → K none τ) : zSp zx (d + 3) mX5_init [.ref 26] σ K := by
  refine ⟨⟨by decide, Nat.le_of_ble_eq_true rfl⟩, fun V hV => ?_⟩
  refine hV.1 _ _ _ _ ?_
  show V 1 [(0, .ref 26)] [.ref 26] σ
  refine hV.1 _ _ _ _ ?_
  show _ ∧ V 4 [(0, .ref 26)] [] σ
  refine ⟨by decide, ?_⟩
  refine hV.1 _ _ _ _ ?_
  show V 5 [(0, .ref 26)] [.ref 26] σ
  refine hV.1 _ _ _ _ ?_
  show V 6 [(0, .ref 26)] [.int 4, .ref 26] σ
  refine hV.1 _ _ _ _ ?_
  refine ⟨⟨by rw [hP.1]; rfl, rfl, by decide, by rw [hP.1]; decide⟩, ?_⟩
  rw [hP.1]
  have hP1 := zP_new hP
  generalize zuN σ = τ1 at hP1 ⊢
  show V 8 [(0, .ref 26)] [.ref 27, .ref 26] τ1
  refine hV.1 _ _ _ _ ?_
  refine ⟨⟨by rw [hP1.1]; decide, rfl, Or.inr ⟨rfl, rfl⟩⟩, ?_⟩
  show V 11 [(0, .ref 26)] [] (zuR τ1 26 0 (.ref 27))
  have hP2 := zP_ref (a := 26) (k := 0) (b := 27) hP1 (by decide) (fun t_z ht q_z => hlt t_z ht q_z.1)
  generalize zuR τ1 26 0 (.ref 27) = τ2 at hP2 ⊢
  refine hV.1 _ _ _ _ ?_
  show V 12 [(0, .ref 26)] [.ref 26] τ2
  refine hV.1 _ _ _ _ ?_
  show V 13 [(0, .ref 26)] [.int 4, .ref 26] τ2
  refine hV.1 _ _ _ _ ?_
  refine ⟨⟨by rw [hP2.1]; rfl, rfl, by decide, by rw [hP2.1, hP.1]; decide⟩, ?_⟩
  rw [hP2.1]
  have hP3 := zP_new hP2
  generalize zuN τ2 = τ3 at hP3 ⊢
  show V 15 [(0, .ref 26)] [.ref 28, .ref 26] τ3
  refine hV.1 _ _ _ _ ?_
  refine ⟨⟨by rw [hP3.1]; decide, rfl, Or.inr ⟨rfl, rfl⟩⟩, ?_⟩
  show V 18 [(0, .ref 26)] [] (zuR τ3 26 1 (.ref 28))
  have hP4 := zP_ref (a := 26) (k := 1) (b := 28) hP3 (by decide) (List.forall_mem_cons.mpr ⟨by decide, (fun t_z ht q_z => hlt t_z ht q_z.1)⟩)
  generalize zuR τ3 26 1 (.ref 28) = τ4 at hP4 ⊢
  refine hV.1 _ _ _ _ ?_
  show V 19 [(0, .ref 26)] [.ref 26] τ4
  refine hV.1 _ _ _ _ ?_
  show V 22 [(0, .ref 26)] [.int 240, .ref 26] τ4
  refine hV.1 _ _ _ _ ?_
  refine ⟨⟨by rw [hP4.1]; rfl, rfl, by decide, by rw [hP4.1, hP.1]; decide⟩, ?_⟩
  rw [hP4.1]
  have hP5 := zP_new hP4
  generalize zuN τ4 = τ5 at hP5 ⊢
  show V 24 [(0, .ref 26)] [.ref 29, .ref 26] τ5
  refine hV.1 _ _ _ _ ?_
  refine ⟨⟨by rw [hP5.1]; decide, rfl, Or.inr ⟨rfl, rfl⟩⟩, ?_⟩
  show V 27 [(0, .ref 26)] [] (zuR τ5 26 2 (.ref 29))
  have hP6 := zP_ref (a := 26) (k := 2) (b := 29) hP5 (by decide) (List.forall_mem_cons.mpr ⟨by decide, (List.forall_mem_cons.mpr ⟨by decide, (fun t_z ht q_z => hlt t_z ht q_z.1)⟩)⟩)
  generalize zuR τ5 26 2 (.ref 29) = τ6 at hP6 ⊢
  have hI : zQI (kR 26 30) τ6.2.2 := zQI_P hP6 (by decide) rfl
  have hn : τ6.2.2.2 = σ.2.2.2 + zAl mX5_init := by rw [hP6.1, hP.1]; rfl
  refine zq (σ := τ6) hV hI hn 2 ?_
  show V 29 [(1, .int 0), (0, .ref 26)] [] τ6
  refine zq (σ := τ6) hV hI hn 3 ?_
  show (4 ≤ (0 : Int32) → V 45 [(1, .int 0), (0, .ref 26)] [] τ6) ∧ (¬ 4 ≤ (0 : Int32) → V 34 [(1, .int 0), (0, .ref 26)] [] τ6)
  refine ⟨fun hc_z => absurd hc_z (by decide), fun _ => ?_⟩
  refine zq (σ := τ6) hV hI hn 3 ?_
  show zSp _ _ 31 [.ref 26, .int 0] τ6 (fun r_z σ' => σ'.2.2.2 = τ6.2.2.2 + zAl 31 → V 39 [(1, .int 0), (0, .ref 26)] (r_z.toList ++ []) σ')
  refine forget_ok (zR_of hI rfl rfl) (k := 0) rfl (by decide) (fun _ => ?_)
  refine zq (σ := (zuI (zuI τ6 27 0 (-1)) 28 0 0)) hV hI hn 2 ?_
  show V 29 [(1, .int (0 + 1)), (0, .ref 26)] [] (zuI (zuI τ6 27 0 (-1)) 28 0 0)
  rw [show ((0 + 1) : Int32) = 1 from by decide]
  refine zq (σ := (zuI (zuI τ6 27 0 (-1)) 28 0 0)) hV hI hn 3 ?_
  show (4 ≤ (1 : Int32) → V 45 [(1, .int 1), (0, .ref 26)] [] (zuI (zuI τ6 27 0 (-1)) 28 0 0)) ∧ (¬ 4 ≤ (1 : Int32) → V 34 [(1, .int 1), (0, .ref 26)] [] (zuI (zuI τ6 27 0 (-1)) 28 0 0))
  refine ⟨fun hc_z => absurd hc_z (by decide), fun _ => ?_⟩
  refine zq (σ := (zuI (zuI τ6 27 0 (-1)) 28 0 0)) hV hI hn 3 ?_
  show zSp _ _ 31 [.ref 26, .int 1] (zuI (zuI τ6 27 0 (-1)) 28 0 0) (fun r_z σ' => σ'.2.2.2 = (zuI (zuI τ6 27 0 (-1)) 28 0 0).2.2.2 + zAl 31 → V 39 [(1, .int 1), (0, .ref 26)] (r_z.toList ++ []) σ')
  refine forget_ok (zR_of hI rfl rfl) (k := 1) rfl (by decide) (fun _ => ?_)
  refine zq (σ := (zuI (zuI (zuI (zuI τ6 27 0 (-1)) 28 0 0) 27 1 (-1)) 28 1 0)) hV hI hn 2 ?_
  show V 29 [(1, .int (1 + 1)), (0, .ref 26)] [] (zuI (zuI (zuI (zuI τ6 27 0 (-1)) 28 0 0) 27 1 (-1)) 28 1 0)
  rw [show ((1 + 1) : Int32) = 2 from by decide]
  refine zq (σ := (zuI (zuI (zuI (zuI τ6 27 0 (-1)) 28 0 0) 27 1 (-1)) 28 1 0)) hV hI hn 3 ?_
  show (4 ≤ (2 : Int32) → V 45 [(1, .int 2), (0, .ref 26)] [] (zuI (zuI (zuI (zuI τ6 27 0 (-1)) 28 0 0) 27 1 (-1)) 28 1 0)) ∧ (¬ 4 ≤ (2 : Int32) → V 34 [(1, .int 2), (0, .ref 26)] [] (zuI (zuI (zuI (zuI τ6 27 0 (-1)) 28 0 0) 27 1 (-1)) 28 1 0))
  refine ⟨fun hc_z => absurd hc_z (by decide), fun _ => ?_⟩
  refine zq (σ := (zuI (zuI (zuI (zuI τ6 27 0 (-1)) 28 0 0) 27 1 (-1)) 28 1 0)) hV hI hn 3 ?_
  show zSp _ _ 31 [.ref 26, .int 2] (zuI (zuI (zuI (zuI τ6 27 0 (-1)) 28 0 0) 27 1 (-1)) 28 1 0) (fun r_z σ' => σ'.2.2.2 = (zuI (zuI (zuI (zuI τ6 27 0 (-1)) 28 0 0) 27 1 (-1)) 28 1 0).2.2.2 + zAl 31 → V 39 [(1, .int 2), (0, .ref 26)] (r_z.toList ++ []) σ')
  refine forget_ok (zR_of hI rfl rfl) (k := 2) rfl (by decide) (fun _ => ?_)
  refine zq (σ := (zuI (zuI (zuI (zuI (zuI (zuI τ6 27 0 (-1)) 28 0 0) 27 1 (-1)) 28 1 0) 27 2 (-1)) 28 2 0)) hV hI hn 2 ?_
  show V 29 [(1, .int (2 + 1)), (0, .ref 26)] [] (zuI (zuI (zuI (zuI (zuI (zuI τ6 27 0 (-1)) 28 0 0) 27 1 (-1)) 28 1 0) 27 2 (-1)) 28 2 0)
  rw [show ((2 + 1) : Int32) = 3 from by decide]
  refine zq (σ := (zuI (zuI (zuI (zuI (zuI (zuI τ6 27 0 (-1)) 28 0 0) 27 1 (-1)) 28 1 0) 27 2 (-1)) 28 2 0)) hV hI hn 3 ?_
  show (4 ≤ (3 : Int32) → V 45 [(1, .int 3), (0, .ref 26)] [] (zuI (zuI (zuI (zuI (zuI (zuI τ6 27 0 (-1)) 28 0 0) 27 1 (-1)) 28 1 0) 27 2 (-1)) 28 2 0)) ∧ (¬ 4 ≤ (3 : Int32) → V 34 [(1, .int 3), (0, .ref 26)] [] (zuI (zuI (zuI (zuI (zuI (zuI τ6 27 0 (-1)) 28 0 0) 27 1 (-1)) 28 1 0) 27 2 (-1)) 28 2 0))
  refine ⟨fun hc_z => absurd hc_z (by decide), fun _ => ?_⟩
  refine zq (σ := (zuI (zuI (zuI (zuI (zuI (zuI τ6 27 0 (-1)) 28 0 0) 27 1 (-1)) 28 1 0) 27 2 (-1)) 28 2 0)) hV hI hn 3 ?_
  show zSp _ _ 31 [.ref 26, .int 3] (zuI (zuI (zuI (zuI (zuI (zuI τ6 27 0 (-1)) 28 0 0) 27 1 (-1)) 28 1 0) 27 2 (-1)) 28 2 0) (fun r_z σ' => σ'.2.2.2 = (zuI (zuI (zuI (zuI (zuI (zuI τ6 27 0 (-1)) 28 0 0) 27 1 (-1)) 28 1 0) 27 2 (-1)) 28 2 0).2.2.2 + zAl 31 → V 39 [(1, .int 3), (0, .ref 26)] (r_z.toList ++ []) σ')
  refine forget_ok (zR_of hI rfl rfl) (k := 3) rfl (by decide) (fun _ => ?_)
  refine zq (σ := (zuI (zuI (zuI (zuI (zuI (zuI (zuI (zuI τ6 27 0 (-1)) 28 0 0) 27 1 (-1)) 28 1 0) 27 2 (-1)) 28 2 0) 27 3 (-1)) 28 3 0)) hV hI hn 2 ?_
  show V 29 [(1, .int (3 + 1)), (0, .ref 26)] [] (zuI (zuI (zuI (zuI (zuI (zuI (zuI (zuI τ6 27 0 (-1)) 28 0 0) 27 1 (-1)) 28 1 0) 27 2 (-1)) 28 2 0) 27 3 (-1)) 28 3 0)
  rw [show ((3 + 1) : Int32) = 4 from by decide]
  refine zq (σ := (zuI (zuI (zuI (zuI (zuI (zuI (zuI (zuI τ6 27 0 (-1)) 28 0 0) 27 1 (-1)) 28 1 0) 27 2 (-1)) 28 2 0) 27 3 (-1)) 28 3 0)) hV hI hn 3 ?_
  show ((4 : Int32) ≤ 4 → V 45 [(1, .int 4), (0, .ref 26)] [] (zuI (zuI (zuI (zuI (zuI (zuI (zuI (zuI τ6 27 0 (-1)) 28 0 0) 27 1 (-1)) 28 1 0) 27 2 (-1)) 28 2 0) 27 3 (-1)) 28 3 0)) ∧ (¬ (4 : Int32) ≤ 4 → V 34 [(1, .int 4), (0, .ref 26)] [] (zuI (zuI (zuI (zuI (zuI (zuI (zuI (zuI τ6 27 0 (-1)) 28 0 0) 27 1 (-1)) 28 1 0) 27 2 (-1)) 28 2 0) 27 3 (-1)) 28 3 0))
  refine ⟨fun _ => ?_, fun hc_z => absurd (by decide) hc_z⟩
  refine zq (σ := (zuI (zuI (zuI (zuI (zuI (zuI (zuI (zuI τ6 27 0 (-1)) 28 0 0) 27 1 (-1)) 28 1 0) 27 2 (-1)) 28 2 0) 27 3 (-1)) 28 3 0)) hV hI hn 1 ?_
  show K none (zuI (zuI (zuI (zuI (zuI (zuI (zuI (zuI τ6 27 0 (-1)) 28 0 0) 27 1 (-1)) 28 1 0) 27 2 (-1)) 28 2 0) 27 3 (-1)) 28 3 0)
  refine hK _ ⟨hP6.1, hP6.2.1, List.forall_mem_cons.mpr ⟨⟨by decide, zP_mem hP6 0 rfl⟩, List.forall_mem_cons.mpr ⟨⟨by decide, ?_⟩, List.forall_mem_cons.mpr ⟨⟨by decide, ?_⟩, fun t_z ht => ?_⟩⟩⟩⟩
  · show upd (upd (upd (upd (τ6.1 28) 0 0) 1 0) 2 0) 3 0 = zz
    rw [zP_mem hP6 1 rfl]
    funext j_z
    unfold upd zz
    split
    · rfl
    · split
      · rfl
      · split
        · rfl
        · split <;> rfl
  · show upd (upd (upd (upd (τ6.1 27) 0 (-1)) 1 (-1)) 2 (-1)) 3 (-1) = zF0
    rw [zP_mem hP6 2 rfl]; rfl
  · have h27 := (hP.2.2 t_z ht).1
    obtain ⟨q1_z, q2_z⟩ := hP6.2.2 t_z (List.mem_cons_of_mem _ (List.mem_cons_of_mem _ (List.mem_cons_of_mem _ ht)))
    refine ⟨q1_z, ?_⟩
    rw [zuI_ne (by omega), zuI_ne (by omega), zuI_ne (by omega), zuI_ne (by omega), zuI_ne (by omega), zuI_ne (by omega), zuI_ne (by omega), zuI_ne (by omega)]
    exact q2_z
