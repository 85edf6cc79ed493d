def zfX (a j : Nat) : Bool := Nat.beq a 30 && (Nat.ble 13 j && Nat.ble j 17)
theorem zab_1 {x : Int32} {o : Bool} {q : Int64} (hx : x = zb o) (h : ¬ x = 0) : (1 : Int32) = zb (o || decide (0 < q)) := by
  cases o
  · exact absurd hx h
  · rw [Bool.true_or]; rfl
theorem zab_2 {x : Int32} {o : Bool} {q : Int64} (h : ¬ lg_cmp q 0 ≤ 0) : (1 : Int32) = zb (o || decide (0 < q)) := by
  have hq : 0 < q := Int64.not_le.mp (fun y => h (zcmp_le.mpr y))
  rw [decide_eq_true hq, Bool.or_true]; rfl
theorem zab_0 {x : Int32} {o : Bool} {q : Int64} (hx : x = zb o) (h : x = 0) (h2 : lg_cmp q 0 ≤ 0) : (0 : Int32) = zb (o || decide (0 < q)) := by
  have hq : ¬ 0 < q := Int64.not_lt.mpr (zcmp_le.mp h2)
  rw [decide_eq_false hq, Bool.or_false, ← hx, h]
theorem zbl_1 {x : Int32} {o : Bool} {q : Int64} (hx : x = zb o) (h : ¬ x = 0) : (1 : Int32) = zb (o || decide (q < 0)) := by
  cases o
  · exact absurd hx h
  · rw [Bool.true_or]; rfl
theorem zbl_2 {x : Int32} {o : Bool} {q : Int64} (h : ¬ 0 ≤ lg_cmp q 0) : (1 : Int32) = zb (o || decide (q < 0)) := by
  have hq : q < 0 := Int64.not_le.mp (fun y => h (zcmp_ge.mpr y))
  rw [decide_eq_true hq, Bool.or_true]; rfl
theorem zbl_0 {x : Int32} {o : Bool} {q : Int64} (hx : x = zb o) (h : x = 0) (h2 : 0 ≤ lg_cmp q 0) : (0 : Int32) = zb (o || decide (q < 0)) := by
  have hq : ¬ q < 0 := Int64.not_lt.mpr (zcmp_ge.mp h2)
  rw [decide_eq_false hq, Bool.or_false, ← hx, h]
theorem zb_ne {o : Bool} (h : ¬ zb o = 0) : o = true := by cases o; exact absurd rfl h; rfl
theorem zb_eq {o : Bool} (h : zb o = 0) : o = false := by cases o; rfl; exact absurd h (by decide)
def zPw (P : Nat → Nat → Prop) (m u v : Nat) : Prop := ∀ u' v', u' < v' → v' < m → zBf u' v' u v → P u' v'
theorem zPw_0 {P : Nat → Nat → Prop} {m : Nat} : zPw P m 0 (0 + 1) := fun u' v' h1 _ h3 => by unfold zBf at h3; omega
theorem zPw_next {P : Nat → Nat → Prop} {m u v : Nat} (h : zPw P m u v) (hp : P u v) : zPw P m u (v + 1) := fun u' v' h1 h2 h3 => by
  by_cases e : u' = u ∧ v' = v
  · rw [e.1, e.2]; exact hp
  · exact h u' v' h1 h2 (by unfold zBf at h3 ⊢; omega)
theorem zPw_row {P : Nat → Nat → Prop} {m u v : Nat} (h : zPw P m u v) (hv : m ≤ v) : zPw P m (u + 1) (u + 1 + 1) := fun u' v' h1 h2 h3 => h u' v' h1 h2 (by unfold zBf at h3 ⊢; omega)
theorem zPw_end {P : Nat → Nat → Prop} {m u : Nat} (h : zPw P m u (u + 1)) (hu : m ≤ u) : ∀ u' v', u' < v' → v' < m → P u' v' := fun u' v' h1 h2 => h u' v' h1 h2 (by unfold zBf; omega)
/-- a cross product that some triple is on a side of -/
def zFq (A B C : Nat → Int64) (m u v : Nat) : Prop := zNz A B C u v ∧ (zAe A B C m u v = true ∨ zBe A B C m u v = true)
def zFl (A B C : Nat → Int64) (m : Nat) : Prop := ∃ u v, u < v ∧ v < m ∧ zFq A B C m u v
theorem zHold_Fl {A B C : Nat → Int64} {m : Nat} (h : zHold A B C m) : zFl A B C m := by
  obtain ⟨⟨u, v, h1, h2, h3⟩, h4⟩ := h
  exact ⟨u, v, h1, h2, h3, Or.inr (h4 u v h1 h2 h3).1⟩
theorem zFl_Hold {A B C : Nat → Int64} {m : Nat} (h : zFl A B C m) (h4 : ∀ u v, u < v → v < m → zGd A B C m u v) : zHold A B C m := by
  obtain ⟨u, v, h1, h2, h3, _⟩ := h
  exact ⟨⟨u, v, h1, h2, h3⟩, h4⟩
set_option maxRecDepth 8000 in
set_option maxHeartbeats 4000000 in
theorem crosses_M {d : Nat} {σ : zSt} {K : Option Value → zSt → Prop} {u v m : Nat} (hI : zQI (kR 30 52) σ.2.2) (hu : u < 16) (hv : v < 16) (hs : σ.1 30 9 = nI m) (hm : m ≤ 16) (h1 : ∀ τ, zOnly zfX σ τ → τ.2.1 30 13 = zX1 (σ.2.1 37) (σ.2.1 38) (σ.2.1 39) u v → τ.2.1 30 14 = zX2 (σ.2.1 37) (σ.2.1 38) (σ.2.1 39) u v → τ.2.1 30 15 = zX3 (σ.2.1 37) (σ.2.1 38) (σ.2.1 39) u v → τ.1 30 16 = zb (zAe (σ.2.1 37) (σ.2.1 38) (σ.2.1 39) m u v) → τ.1 30 17 = zb (zBe (σ.2.1 37) (σ.2.1 38) (σ.2.1 39) m u v) → zNz (σ.2.1 37) (σ.2.1 38) (σ.2.1 39) u v → K (some (.int 1)) τ) (h0 : ∀ τ, zOnly zfX σ τ → τ.2.1 30 13 = zX1 (σ.2.1 37) (σ.2.1 38) (σ.2.1 39) u v → τ.2.1 30 14 = zX2 (σ.2.1 37) (σ.2.1 38) (σ.2.1 39) u v → τ.2.1 30 15 = zX3 (σ.2.1 37) (σ.2.1 38) (σ.2.1 39) u v → τ.1 30 16 = zb (zAe (σ.2.1 37) (σ.2.1 38) (σ.2.1 39) m u v) → τ.1 30 17 = zb (zBe (σ.2.1 37) (σ.2.1 38) (σ.2.1 39) m u v) → ¬ zNz (σ.2.1 37) (σ.2.1 38) (σ.2.1 39) u v → K (some (.int 0)) τ) : zSp (d + 1) mX9_crosses [.ref 30, .int (nI u), .int (nI v)] σ K := by
  refine ⟨⟨by decide, Nat.le_of_ble_eq_true rfl⟩, fun V hV => ?_⟩
  refine zq (σ := σ) hV hI rfl 5 ?_
  show vp_in (nI u) 16 ∧ V 7 [(0, .ref 30), (1, .int (nI u)), (2, .int (nI v))] [.long (σ.2.1 38 (Int32.toNatClampNeg (nI u))), .ref 30] σ
  refine ⟨zix (k := u) rfl (by omega) (by decide), ?_⟩
  rw [zcl_k (i := (nI u)) (k := u) rfl (by omega)]
  refine zq (σ := σ) hV hI rfl 4 ?_
  show vp_in (nI v) 16 ∧ V 13 [(0, .ref 30), (1, .int (nI u)), (2, .int (nI v))] [.long (σ.2.1 39 (Int32.toNatClampNeg (nI v))), .long (σ.2.1 38 u), .ref 30] σ
  refine ⟨zix (k := v) rfl (by omega) (by decide), ?_⟩
  rw [zcl_k (i := (nI v)) (k := v) rfl (by omega)]
  refine zq (σ := σ) hV hI rfl 5 ?_
  show vp_in (nI u) 16 ∧ V 20 [(0, .ref 30), (1, .int (nI u)), (2, .int (nI v))] [.long (σ.2.1 39 (Int32.toNatClampNeg (nI u))), .long ((σ.2.1 38 u) * (σ.2.1 39 v)), .ref 30] σ
  refine ⟨zix (k := u) rfl (by omega) (by decide), ?_⟩
  rw [zcl_k (i := (nI u)) (k := u) rfl (by omega)]
  refine zq (σ := σ) hV hI rfl 4 ?_
  show vp_in (nI v) 16 ∧ V 26 [(0, .ref 30), (1, .int (nI u)), (2, .int (nI v))] [.long (σ.2.1 38 (Int32.toNatClampNeg (nI v))), .long (σ.2.1 39 u), .long ((σ.2.1 38 u) * (σ.2.1 39 v)), .ref 30] σ
  refine ⟨zix (k := v) rfl (by omega) (by decide), ?_⟩
  rw [zcl_k (i := (nI v)) (k := v) rfl (by omega)]
  refine zq (σ := σ) hV hI rfl 8 ?_
  show vp_in (nI u) 16 ∧ V 38 [(0, .ref 30), (1, .int (nI u)), (2, .int (nI v))] [.long (σ.2.1 39 (Int32.toNatClampNeg (nI u))), .ref 30] (zuJ σ 30 13 (((σ.2.1 38 u) * (σ.2.1 39 v)) - ((σ.2.1 39 u) * (σ.2.1 38 v))))
  refine ⟨zix (k := u) rfl (by omega) (by decide), ?_⟩
  rw [zcl_k (i := (nI u)) (k := u) rfl (by omega)]
  refine zq (σ := (zuJ σ 30 13 (((σ.2.1 38 u) * (σ.2.1 39 v)) - ((σ.2.1 39 u) * (σ.2.1 38 v))))) hV hI rfl 4 ?_
  show vp_in (nI v) 16 ∧ V 44 [(0, .ref 30), (1, .int (nI u)), (2, .int (nI v))] [.long (σ.2.1 37 (Int32.toNatClampNeg (nI v))), .long (σ.2.1 39 u), .ref 30] (zuJ σ 30 13 (((σ.2.1 38 u) * (σ.2.1 39 v)) - ((σ.2.1 39 u) * (σ.2.1 38 v))))
  refine ⟨zix (k := v) rfl (by omega) (by decide), ?_⟩
  rw [zcl_k (i := (nI v)) (k := v) rfl (by omega)]
  refine zq (σ := (zuJ σ 30 13 (((σ.2.1 38 u) * (σ.2.1 39 v)) - ((σ.2.1 39 u) * (σ.2.1 38 v))))) hV hI rfl 5 ?_
  show vp_in (nI u) 16 ∧ V 51 [(0, .ref 30), (1, .int (nI u)), (2, .int (nI v))] [.long (σ.2.1 37 (Int32.toNatClampNeg (nI u))), .long ((σ.2.1 39 u) * (σ.2.1 37 v)), .ref 30] (zuJ σ 30 13 (((σ.2.1 38 u) * (σ.2.1 39 v)) - ((σ.2.1 39 u) * (σ.2.1 38 v))))
  refine ⟨zix (k := u) rfl (by omega) (by decide), ?_⟩
  rw [zcl_k (i := (nI u)) (k := u) rfl (by omega)]
  refine zq (σ := (zuJ σ 30 13 (((σ.2.1 38 u) * (σ.2.1 39 v)) - ((σ.2.1 39 u) * (σ.2.1 38 v))))) hV hI rfl 4 ?_
  show vp_in (nI v) 16 ∧ V 57 [(0, .ref 30), (1, .int (nI u)), (2, .int (nI v))] [.long (σ.2.1 39 (Int32.toNatClampNeg (nI v))), .long (σ.2.1 37 u), .long ((σ.2.1 39 u) * (σ.2.1 37 v)), .ref 30] (zuJ σ 30 13 (((σ.2.1 38 u) * (σ.2.1 39 v)) - ((σ.2.1 39 u) * (σ.2.1 38 v))))
  refine ⟨zix (k := v) rfl (by omega) (by decide), ?_⟩
  rw [zcl_k (i := (nI v)) (k := v) rfl (by omega)]
  refine zq (σ := (zuJ σ 30 13 (((σ.2.1 38 u) * (σ.2.1 39 v)) - ((σ.2.1 39 u) * (σ.2.1 38 v))))) hV hI rfl 8 ?_
  show vp_in (nI u) 16 ∧ V 69 [(0, .ref 30), (1, .int (nI u)), (2, .int (nI v))] [.long (σ.2.1 37 (Int32.toNatClampNeg (nI u))), .ref 30] (zuJ (zuJ σ 30 13 (((σ.2.1 38 u) * (σ.2.1 39 v)) - ((σ.2.1 39 u) * (σ.2.1 38 v)))) 30 14 (((σ.2.1 39 u) * (σ.2.1 37 v)) - ((σ.2.1 37 u) * (σ.2.1 39 v))))
  refine ⟨zix (k := u) rfl (by omega) (by decide), ?_⟩
  rw [zcl_k (i := (nI u)) (k := u) rfl (by omega)]
  refine zq (σ := (zuJ (zuJ σ 30 13 (((σ.2.1 38 u) * (σ.2.1 39 v)) - ((σ.2.1 39 u) * (σ.2.1 38 v)))) 30 14 (((σ.2.1 39 u) * (σ.2.1 37 v)) - ((σ.2.1 37 u) * (σ.2.1 39 v))))) hV hI rfl 4 ?_
  show vp_in (nI v) 16 ∧ V 75 [(0, .ref 30), (1, .int (nI u)), (2, .int (nI v))] [.long (σ.2.1 38 (Int32.toNatClampNeg (nI v))), .long (σ.2.1 37 u), .ref 30] (zuJ (zuJ σ 30 13 (((σ.2.1 38 u) * (σ.2.1 39 v)) - ((σ.2.1 39 u) * (σ.2.1 38 v)))) 30 14 (((σ.2.1 39 u) * (σ.2.1 37 v)) - ((σ.2.1 37 u) * (σ.2.1 39 v))))
  refine ⟨zix (k := v) rfl (by omega) (by decide), ?_⟩
  rw [zcl_k (i := (nI v)) (k := v) rfl (by omega)]
  refine zq (σ := (zuJ (zuJ σ 30 13 (((σ.2.1 38 u) * (σ.2.1 39 v)) - ((σ.2.1 39 u) * (σ.2.1 38 v)))) 30 14 (((σ.2.1 39 u) * (σ.2.1 37 v)) - ((σ.2.1 37 u) * (σ.2.1 39 v))))) hV hI rfl 5 ?_
  show vp_in (nI u) 16 ∧ V 82 [(0, .ref 30), (1, .int (nI u)), (2, .int (nI v))] [.long (σ.2.1 38 (Int32.toNatClampNeg (nI u))), .long ((σ.2.1 37 u) * (σ.2.1 38 v)), .ref 30] (zuJ (zuJ σ 30 13 (((σ.2.1 38 u) * (σ.2.1 39 v)) - ((σ.2.1 39 u) * (σ.2.1 38 v)))) 30 14 (((σ.2.1 39 u) * (σ.2.1 37 v)) - ((σ.2.1 37 u) * (σ.2.1 39 v))))
  refine ⟨zix (k := u) rfl (by omega) (by decide), ?_⟩
  rw [zcl_k (i := (nI u)) (k := u) rfl (by omega)]
  refine zq (σ := (zuJ (zuJ σ 30 13 (((σ.2.1 38 u) * (σ.2.1 39 v)) - ((σ.2.1 39 u) * (σ.2.1 38 v)))) 30 14 (((σ.2.1 39 u) * (σ.2.1 37 v)) - ((σ.2.1 37 u) * (σ.2.1 39 v))))) hV hI rfl 4 ?_
  show vp_in (nI v) 16 ∧ V 88 [(0, .ref 30), (1, .int (nI u)), (2, .int (nI v))] [.long (σ.2.1 37 (Int32.toNatClampNeg (nI v))), .long (σ.2.1 38 u), .long ((σ.2.1 37 u) * (σ.2.1 38 v)), .ref 30] (zuJ (zuJ σ 30 13 (((σ.2.1 38 u) * (σ.2.1 39 v)) - ((σ.2.1 39 u) * (σ.2.1 38 v)))) 30 14 (((σ.2.1 39 u) * (σ.2.1 37 v)) - ((σ.2.1 37 u) * (σ.2.1 39 v))))
  refine ⟨zix (k := v) rfl (by omega) (by decide), ?_⟩
  rw [zcl_k (i := (nI v)) (k := v) rfl (by omega)]
  refine zq (σ := (zuJ (zuJ σ 30 13 (((σ.2.1 38 u) * (σ.2.1 39 v)) - ((σ.2.1 39 u) * (σ.2.1 38 v)))) 30 14 (((σ.2.1 39 u) * (σ.2.1 37 v)) - ((σ.2.1 37 u) * (σ.2.1 39 v))))) hV hI rfl 6 ?_
  show ((0 : Int32) = 0 ∨ (0 : Int32) = 1) ∧ V 98 [(0, .ref 30), (1, .int (nI u)), (2, .int (nI v))] [] (zuI (zuJ (zuJ (zuJ σ 30 13 (((σ.2.1 38 u) * (σ.2.1 39 v)) - ((σ.2.1 39 u) * (σ.2.1 38 v)))) 30 14 (((σ.2.1 39 u) * (σ.2.1 37 v)) - ((σ.2.1 37 u) * (σ.2.1 39 v)))) 30 15 (((σ.2.1 37 u) * (σ.2.1 38 v)) - ((σ.2.1 38 u) * (σ.2.1 37 v)))) 30 16 0)
  refine ⟨by decide, ?_⟩
  refine zq (σ := (zuI (zuJ (zuJ (zuJ σ 30 13 (((σ.2.1 38 u) * (σ.2.1 39 v)) - ((σ.2.1 39 u) * (σ.2.1 38 v)))) 30 14 (((σ.2.1 39 u) * (σ.2.1 37 v)) - ((σ.2.1 37 u) * (σ.2.1 39 v)))) 30 15 (((σ.2.1 37 u) * (σ.2.1 38 v)) - ((σ.2.1 38 u) * (σ.2.1 37 v)))) 30 16 0)) hV hI rfl 3 ?_
  show ((0 : Int32) = 0 ∨ (0 : Int32) = 1) ∧ V 103 [(0, .ref 30), (1, .int (nI u)), (2, .int (nI v))] [] (zuI (zuI (zuJ (zuJ (zuJ σ 30 13 (((σ.2.1 38 u) * (σ.2.1 39 v)) - ((σ.2.1 39 u) * (σ.2.1 38 v)))) 30 14 (((σ.2.1 39 u) * (σ.2.1 37 v)) - ((σ.2.1 37 u) * (σ.2.1 39 v)))) 30 15 (((σ.2.1 37 u) * (σ.2.1 38 v)) - ((σ.2.1 38 u) * (σ.2.1 37 v)))) 30 16 0) 30 17 0)
  refine ⟨by decide, ?_⟩
  refine zq (σ := (zuI (zuI (zuJ (zuJ (zuJ σ 30 13 (((σ.2.1 38 u) * (σ.2.1 39 v)) - ((σ.2.1 39 u) * (σ.2.1 38 v)))) 30 14 (((σ.2.1 39 u) * (σ.2.1 37 v)) - ((σ.2.1 37 u) * (σ.2.1 39 v)))) 30 15 (((σ.2.1 37 u) * (σ.2.1 38 v)) - ((σ.2.1 38 u) * (σ.2.1 37 v)))) 30 16 0) 30 17 0)) hV hI rfl 2 ?_
  show V 105 [(3, .int 0), (0, .ref 30), (1, .int (nI u)), (2, .int (nI v))] [] (zuI (zuI (zuJ (zuJ (zuJ σ 30 13 (((σ.2.1 38 u) * (σ.2.1 39 v)) - ((σ.2.1 39 u) * (σ.2.1 38 v)))) 30 14 (((σ.2.1 39 u) * (σ.2.1 37 v)) - ((σ.2.1 37 u) * (σ.2.1 39 v)))) 30 15 (((σ.2.1 37 u) * (σ.2.1 38 v)) - ((σ.2.1 38 u) * (σ.2.1 37 v)))) 30 16 0) 30 17 0)
  refine zwk hV [1, 2, 3, 0] rfl ?_
  have Ht : ∀ (r : Nat) (t : Nat) (τ : zSt), t + r = m → zOnly zfX σ τ → τ.2.1 30 13 = zX1 (σ.2.1 37) (σ.2.1 38) (σ.2.1 39) u v → τ.2.1 30 14 = zX2 (σ.2.1 37) (σ.2.1 38) (σ.2.1 39) u v → τ.2.1 30 15 = zX3 (σ.2.1 37) (σ.2.1 38) (σ.2.1 39) u v → τ.1 30 16 = zb (zAb (σ.2.1 37) (σ.2.1 38) (σ.2.1 39) (zX1 (σ.2.1 37) (σ.2.1 38) (σ.2.1 39) u v) (zX2 (σ.2.1 37) (σ.2.1 38) (σ.2.1 39) u v) (zX3 (σ.2.1 37) (σ.2.1 38) (σ.2.1 39) u v) t) → τ.1 30 17 = zb (zBl (σ.2.1 37) (σ.2.1 38) (σ.2.1 39) (zX1 (σ.2.1 37) (σ.2.1 38) (σ.2.1 39) u v) (zX2 (σ.2.1 37) (σ.2.1 38) (σ.2.1 39) u v) (zX3 (σ.2.1 37) (σ.2.1 38) (σ.2.1 39) u v) t) → V 105 [(0, .ref 30), (1, .int (nI u)), (2, .int (nI v)), (3, .int (nI t))] [] τ := by
    intro r
    induction r with
    | zero =>
      intro t τ htr ht h13 h14 h15 h16 h17
      have hIτ := zQI_eq hI ht.2.2
      have hnτ : τ.2.2.2 = σ.2.2.2 := congrArg Prod.snd ht.2.2
      have hst : τ.1 30 9 = nI m := (ht.1 30 9 rfl).trans hs
      have a37 : τ.2.1 37 = σ.2.1 37 := funext fun j => ht.2.1 37 j rfl
      have a38 : τ.2.1 38 = σ.2.1 38 := funext fun j => ht.2.1 38 j rfl
      have a39 : τ.2.1 39 = σ.2.1 39 := funext fun j => ht.2.1 39 j rfl
      refine zq (σ := τ) hV hIτ hnτ 4 ?_
      show ((τ.1 30 9) ≤ (nI t) → V 202 [(0, .ref 30), (1, .int (nI u)), (2, .int (nI v)), (3, .int (nI t))] [] τ) ∧ (¬ (τ.1 30 9) ≤ (nI t) → V 113 [(0, .ref 30), (1, .int (nI u)), (2, .int (nI v)), (3, .int (nI t))] [] τ)
      refine ⟨fun _ => ?_, fun hc => absurd (show (τ.1 30 9) ≤ nI t by rw [hst]; exact zge_self (by omega)) hc⟩
      refine zq (σ := τ) hV hIτ hnτ 5 ?_
      show (¬ (lg_cmp (τ.2.1 30 13) 0) = 0 → V 229 [(0, .ref 30), (1, .int (nI u)), (2, .int (nI v)), (3, .int (nI t))] [] τ) ∧ (¬ (¬ (lg_cmp (τ.2.1 30 13) 0) = 0) → V 211 [(0, .ref 30), (1, .int (nI u)), (2, .int (nI v)), (3, .int (nI t))] [] τ)
      refine ⟨fun h_208 => ?_, fun h_208 => ?_⟩
      · skip
        refine zq (σ := τ) hV hIτ hnτ 3 ?_
        show ((1 : Int32) = 0 ∨ (1 : Int32) = 1) ∧ K (some (.int 1)) τ
        refine ⟨by decide, ?_⟩
        obtain rfl : t = m := by omega
        have hz : zNz (σ.2.1 37) (σ.2.1 38) (σ.2.1 39) u v := by
          rw [h13] at h_208
          exact Or.inl (fun q => h_208 (zcmp_eq.mpr q))
        exact h1 τ ht h13 h14 h15 h16 h17 hz
      · skip
        have h_208 := Classical.not_not.mp h_208
        refine zq (σ := τ) hV hIτ hnτ 5 ?_
        show (¬ (lg_cmp (τ.2.1 30 14) 0) = 0 → V 229 [(0, .ref 30), (1, .int (nI u)), (2, .int (nI v)), (3, .int (nI t))] [] τ) ∧ (¬ (¬ (lg_cmp (τ.2.1 30 14) 0) = 0) → V 220 [(0, .ref 30), (1, .int (nI u)), (2, .int (nI v)), (3, .int (nI t))] [] τ)
        refine ⟨fun h_217 => ?_, fun h_217 => ?_⟩
        · skip
          refine zq (σ := τ) hV hIτ hnτ 3 ?_
          show ((1 : Int32) = 0 ∨ (1 : Int32) = 1) ∧ K (some (.int 1)) τ
          refine ⟨by decide, ?_⟩
          obtain rfl : t = m := by omega
          have hz : zNz (σ.2.1 37) (σ.2.1 38) (σ.2.1 39) u v := by
            rw [h14] at h_217
            exact Or.inr (Or.inl (fun q => h_217 (zcmp_eq.mpr q)))
          exact h1 τ ht h13 h14 h15 h16 h17 hz
        · skip
          have h_217 := Classical.not_not.mp h_217
          refine zq (σ := τ) hV hIτ hnτ 5 ?_
          show ((lg_cmp (τ.2.1 30 15) 0) = 0 → V 233 [(0, .ref 30), (1, .int (nI u)), (2, .int (nI v)), (3, .int (nI t))] [] τ) ∧ (¬ (lg_cmp (τ.2.1 30 15) 0) = 0 → V 229 [(0, .ref 30), (1, .int (nI u)), (2, .int (nI v)), (3, .int (nI t))] [] τ)
          refine ⟨fun h_226 => ?_, fun h_226 => ?_⟩
          · skip
            refine zq (σ := τ) hV hIτ hnτ 2 ?_
            show ((0 : Int32) = 0 ∨ (0 : Int32) = 1) ∧ K (some (.int 0)) τ
            refine ⟨by decide, ?_⟩
            obtain rfl : t = m := by omega
            rw [h13] at h_208
            rw [h14] at h_217
            rw [h15] at h_226
            exact h0 τ ht h13 h14 h15 h16 h17 (fun q => q.elim (fun q => q (zcmp_eq.mp h_208)) (fun q => q.elim (fun q => q (zcmp_eq.mp h_217)) (fun q => q (zcmp_eq.mp h_226))))
          · skip
            refine zq (σ := τ) hV hIτ hnτ 3 ?_
            show ((1 : Int32) = 0 ∨ (1 : Int32) = 1) ∧ K (some (.int 1)) τ
            refine ⟨by decide, ?_⟩
            obtain rfl : t = m := by omega
            have hz : zNz (σ.2.1 37) (σ.2.1 38) (σ.2.1 39) u v := by
              rw [h15] at h_226
              exact Or.inr (Or.inr (fun q => h_226 (zcmp_eq.mpr q)))
            exact h1 τ ht h13 h14 h15 h16 h17 hz
    | succ r iht =>
      intro t τ htr ht h13 h14 h15 h16 h17
      have hIτ := zQI_eq hI ht.2.2
      have hnτ : τ.2.2.2 = σ.2.2.2 := congrArg Prod.snd ht.2.2
      have hst : τ.1 30 9 = nI m := (ht.1 30 9 rfl).trans hs
      have a37 : τ.2.1 37 = σ.2.1 37 := funext fun j => ht.2.1 37 j rfl
      have a38 : τ.2.1 38 = σ.2.1 38 := funext fun j => ht.2.1 38 j rfl
      have a39 : τ.2.1 39 = σ.2.1 39 := funext fun j => ht.2.1 39 j rfl
      refine zq (σ := τ) hV hIτ hnτ 4 ?_
      show ((τ.1 30 9) ≤ (nI t) → V 202 [(0, .ref 30), (1, .int (nI u)), (2, .int (nI v)), (3, .int (nI t))] [] τ) ∧ (¬ (τ.1 30 9) ≤ (nI t) → V 113 [(0, .ref 30), (1, .int (nI u)), (2, .int (nI v)), (3, .int (nI t))] [] τ)
      refine ⟨fun hc => absurd hc (show ¬ (τ.1 30 9) ≤ nI t by rw [hst]; exact nI_ge (by omega) (by omega)), fun _ => ?_⟩
      refine zq (σ := τ) hV hIτ hnτ 6 ?_
      show vp_in (nI t) 16 ∧ V 123 [(0, .ref 30), (1, .int (nI u)), (2, .int (nI v)), (3, .int (nI t))] [.long (τ.2.1 37 (Int32.toNatClampNeg (nI t))), .long (τ.2.1 30 13)] τ
      refine ⟨zix (k := t) rfl (by omega) (by decide), ?_⟩
      rw [zcl_k (i := (nI t)) (k := t) rfl (by omega)]
      refine zq (σ := τ) hV hIτ hnτ 7 ?_
      show vp_in (nI t) 16 ∧ V 134 [(0, .ref 30), (1, .int (nI u)), (2, .int (nI v)), (3, .int (nI t))] [.long (τ.2.1 38 (Int32.toNatClampNeg (nI t))), .long (τ.2.1 30 14), .long ((τ.2.1 30 13) * (τ.2.1 37 t))] τ
      refine ⟨zix (k := t) rfl (by omega) (by decide), ?_⟩
      rw [zcl_k (i := (nI t)) (k := t) rfl (by omega)]
      refine zq (σ := τ) hV hIτ hnτ 8 ?_
      show vp_in (nI t) 16 ∧ V 146 [(0, .ref 30), (1, .int (nI u)), (2, .int (nI v)), (3, .int (nI t))] [.long (τ.2.1 39 (Int32.toNatClampNeg (nI t))), .long (τ.2.1 30 15), .long (((τ.2.1 30 13) * (τ.2.1 37 t)) + ((τ.2.1 30 14) * (τ.2.1 38 t)))] τ
      refine ⟨zix (k := t) rfl (by omega) (by decide), ?_⟩
      rw [zcl_k (i := (nI t)) (k := t) rfl (by omega)]
      refine zq (σ := τ) hV hIτ hnτ 7 ?_
      show (¬ (τ.1 30 16) = 0 → V 165 [(4, .long ((((τ.2.1 30 13) * (τ.2.1 37 t)) + ((τ.2.1 30 14) * (τ.2.1 38 t))) + ((τ.2.1 30 15) * (τ.2.1 39 t)))), (0, .ref 30), (1, .int (nI u)), (2, .int (nI v)), (3, .int (nI t))] [.ref 30] τ) ∧ (¬ (¬ (τ.1 30 16) = 0) → V 158 [(4, .long ((((τ.2.1 30 13) * (τ.2.1 37 t)) + ((τ.2.1 30 14) * (τ.2.1 38 t))) + ((τ.2.1 30 15) * (τ.2.1 39 t)))), (0, .ref 30), (1, .int (nI u)), (2, .int (nI v)), (3, .int (nI t))] [.ref 30] τ)
      refine ⟨fun h_155 => ?_, fun h_155 => ?_⟩
      · skip
        refine zq (σ := τ) hV hIτ hnτ 3 ?_
        show ((1 : Int32) = 0 ∨ (1 : Int32) = 1) ∧ V 173 [(4, .long ((((τ.2.1 30 13) * (τ.2.1 37 t)) + ((τ.2.1 30 14) * (τ.2.1 38 t))) + ((τ.2.1 30 15) * (τ.2.1 39 t)))), (0, .ref 30), (1, .int (nI u)), (2, .int (nI v)), (3, .int (nI t))] [] (zuI τ 30 16 1)
        refine ⟨by decide, ?_⟩
        refine zq (σ := (zuI τ 30 16 1)) hV hIτ hnτ 4 ?_
        show (¬ (τ.1 30 17) = 0 → V 188 [(4, .long ((((τ.2.1 30 13) * (τ.2.1 37 t)) + ((τ.2.1 30 14) * (τ.2.1 38 t))) + ((τ.2.1 30 15) * (τ.2.1 39 t)))), (0, .ref 30), (1, .int (nI u)), (2, .int (nI v)), (3, .int (nI t))] [.ref 30] (zuI τ 30 16 1)) ∧ (¬ (¬ (τ.1 30 17) = 0) → V 181 [(4, .long ((((τ.2.1 30 13) * (τ.2.1 37 t)) + ((τ.2.1 30 14) * (τ.2.1 38 t))) + ((τ.2.1 30 15) * (τ.2.1 39 t)))), (0, .ref 30), (1, .int (nI u)), (2, .int (nI v)), (3, .int (nI t))] [.ref 30] (zuI τ 30 16 1))
        refine ⟨fun h_178 => ?_, fun h_178 => ?_⟩
        · skip
          refine zq (σ := (zuI τ 30 16 1)) hV hIτ hnτ 3 ?_
          show ((1 : Int32) = 0 ∨ (1 : Int32) = 1) ∧ V 196 [(4, .long ((((τ.2.1 30 13) * (τ.2.1 37 t)) + ((τ.2.1 30 14) * (τ.2.1 38 t))) + ((τ.2.1 30 15) * (τ.2.1 39 t)))), (0, .ref 30), (1, .int (nI u)), (2, .int (nI v)), (3, .int (nI t))] [] (zuI (zuI τ 30 16 1) 30 17 1)
          refine ⟨by decide, ?_⟩
          refine zq (σ := (zuI (zuI τ 30 16 1) 30 17 1)) hV hIτ hnτ 2 ?_
          show V 105 [(3, .int ((nI t) + 1)), (4, .long ((((τ.2.1 30 13) * (τ.2.1 37 t)) + ((τ.2.1 30 14) * (τ.2.1 38 t))) + ((τ.2.1 30 15) * (τ.2.1 39 t)))), (0, .ref 30), (1, .int (nI u)), (2, .int (nI v))] [] (zuI (zuI τ 30 16 1) 30 17 1)
          refine zwk hV [2, 3, 4, 0] rfl ?_
          rw [nI_1]
          refine iht (t + 1) _ (by omega) ((ht.uI rfl).uI rfl) h13 h14 h15 ?_ ?_
          · exact zab_1 h16 h_155
          · exact zbl_1 h17 h_178
        · skip
          have h_178 := Classical.not_not.mp h_178
          refine zq (σ := (zuI τ 30 16 1)) hV hIτ hnτ 4 ?_
          show (0 ≤ (lg_cmp ((((τ.2.1 30 13) * (τ.2.1 37 t)) + ((τ.2.1 30 14) * (τ.2.1 38 t))) + ((τ.2.1 30 15) * (τ.2.1 39 t))) 0) → V 192 [(4, .long ((((τ.2.1 30 13) * (τ.2.1 37 t)) + ((τ.2.1 30 14) * (τ.2.1 38 t))) + ((τ.2.1 30 15) * (τ.2.1 39 t)))), (0, .ref 30), (1, .int (nI u)), (2, .int (nI v)), (3, .int (nI t))] [.ref 30] (zuI τ 30 16 1)) ∧ (¬ 0 ≤ (lg_cmp ((((τ.2.1 30 13) * (τ.2.1 37 t)) + ((τ.2.1 30 14) * (τ.2.1 38 t))) + ((τ.2.1 30 15) * (τ.2.1 39 t))) 0) → V 188 [(4, .long ((((τ.2.1 30 13) * (τ.2.1 37 t)) + ((τ.2.1 30 14) * (τ.2.1 38 t))) + ((τ.2.1 30 15) * (τ.2.1 39 t)))), (0, .ref 30), (1, .int (nI u)), (2, .int (nI v)), (3, .int (nI t))] [.ref 30] (zuI τ 30 16 1))
          refine ⟨fun h_185 => ?_, fun h_185 => ?_⟩
          · skip
            refine zq (σ := (zuI τ 30 16 1)) hV hIτ hnτ 2 ?_
            show ((0 : Int32) = 0 ∨ (0 : Int32) = 1) ∧ V 196 [(4, .long ((((τ.2.1 30 13) * (τ.2.1 37 t)) + ((τ.2.1 30 14) * (τ.2.1 38 t))) + ((τ.2.1 30 15) * (τ.2.1 39 t)))), (0, .ref 30), (1, .int (nI u)), (2, .int (nI v)), (3, .int (nI t))] [] (zuI (zuI τ 30 16 1) 30 17 0)
            refine ⟨by decide, ?_⟩
            refine zq (σ := (zuI (zuI τ 30 16 1) 30 17 0)) hV hIτ hnτ 2 ?_
            show V 105 [(3, .int ((nI t) + 1)), (4, .long ((((τ.2.1 30 13) * (τ.2.1 37 t)) + ((τ.2.1 30 14) * (τ.2.1 38 t))) + ((τ.2.1 30 15) * (τ.2.1 39 t)))), (0, .ref 30), (1, .int (nI u)), (2, .int (nI v))] [] (zuI (zuI τ 30 16 1) 30 17 0)
            refine zwk hV [2, 3, 4, 0] rfl ?_
            rw [nI_1]
            refine iht (t + 1) _ (by omega) ((ht.uI rfl).uI rfl) h13 h14 h15 ?_ ?_
            · exact zab_1 h16 h_155
            · rw [h13, h14, h15, a37, a38, a39] at h_185
              exact zbl_0 h17 h_178 h_185
          · skip
            refine zq (σ := (zuI τ 30 16 1)) hV hIτ hnτ 3 ?_
            show ((1 : Int32) = 0 ∨ (1 : Int32) = 1) ∧ V 196 [(4, .long ((((τ.2.1 30 13) * (τ.2.1 37 t)) + ((τ.2.1 30 14) * (τ.2.1 38 t))) + ((τ.2.1 30 15) * (τ.2.1 39 t)))), (0, .ref 30), (1, .int (nI u)), (2, .int (nI v)), (3, .int (nI t))] [] (zuI (zuI τ 30 16 1) 30 17 1)
            refine ⟨by decide, ?_⟩
            refine zq (σ := (zuI (zuI τ 30 16 1) 30 17 1)) hV hIτ hnτ 2 ?_
            show V 105 [(3, .int ((nI t) + 1)), (4, .long ((((τ.2.1 30 13) * (τ.2.1 37 t)) + ((τ.2.1 30 14) * (τ.2.1 38 t))) + ((τ.2.1 30 15) * (τ.2.1 39 t)))), (0, .ref 30), (1, .int (nI u)), (2, .int (nI v))] [] (zuI (zuI τ 30 16 1) 30 17 1)
            refine zwk hV [2, 3, 4, 0] rfl ?_
            rw [nI_1]
            refine iht (t + 1) _ (by omega) ((ht.uI rfl).uI rfl) h13 h14 h15 ?_ ?_
            · exact zab_1 h16 h_155
            · rw [h13, h14, h15, a37, a38, a39] at h_185
              exact zbl_2 (x := τ.1 30 17) h_185
      · skip
        have h_155 := Classical.not_not.mp h_155
        refine zq (σ := τ) hV hIτ hnτ 4 ?_
        show ((lg_cmp ((((τ.2.1 30 13) * (τ.2.1 37 t)) + ((τ.2.1 30 14) * (τ.2.1 38 t))) + ((τ.2.1 30 15) * (τ.2.1 39 t))) 0) ≤ 0 → V 169 [(4, .long ((((τ.2.1 30 13) * (τ.2.1 37 t)) + ((τ.2.1 30 14) * (τ.2.1 38 t))) + ((τ.2.1 30 15) * (τ.2.1 39 t)))), (0, .ref 30), (1, .int (nI u)), (2, .int (nI v)), (3, .int (nI t))] [.ref 30] τ) ∧ (¬ (lg_cmp ((((τ.2.1 30 13) * (τ.2.1 37 t)) + ((τ.2.1 30 14) * (τ.2.1 38 t))) + ((τ.2.1 30 15) * (τ.2.1 39 t))) 0) ≤ 0 → V 165 [(4, .long ((((τ.2.1 30 13) * (τ.2.1 37 t)) + ((τ.2.1 30 14) * (τ.2.1 38 t))) + ((τ.2.1 30 15) * (τ.2.1 39 t)))), (0, .ref 30), (1, .int (nI u)), (2, .int (nI v)), (3, .int (nI t))] [.ref 30] τ)
        refine ⟨fun h_162 => ?_, fun h_162 => ?_⟩
        · skip
          refine zq (σ := τ) hV hIτ hnτ 2 ?_
          show ((0 : Int32) = 0 ∨ (0 : Int32) = 1) ∧ V 173 [(4, .long ((((τ.2.1 30 13) * (τ.2.1 37 t)) + ((τ.2.1 30 14) * (τ.2.1 38 t))) + ((τ.2.1 30 15) * (τ.2.1 39 t)))), (0, .ref 30), (1, .int (nI u)), (2, .int (nI v)), (3, .int (nI t))] [] (zuI τ 30 16 0)
          refine ⟨by decide, ?_⟩
          refine zq (σ := (zuI τ 30 16 0)) hV hIτ hnτ 4 ?_
          show (¬ (τ.1 30 17) = 0 → V 188 [(4, .long ((((τ.2.1 30 13) * (τ.2.1 37 t)) + ((τ.2.1 30 14) * (τ.2.1 38 t))) + ((τ.2.1 30 15) * (τ.2.1 39 t)))), (0, .ref 30), (1, .int (nI u)), (2, .int (nI v)), (3, .int (nI t))] [.ref 30] (zuI τ 30 16 0)) ∧ (¬ (¬ (τ.1 30 17) = 0) → V 181 [(4, .long ((((τ.2.1 30 13) * (τ.2.1 37 t)) + ((τ.2.1 30 14) * (τ.2.1 38 t))) + ((τ.2.1 30 15) * (τ.2.1 39 t)))), (0, .ref 30), (1, .int (nI u)), (2, .int (nI v)), (3, .int (nI t))] [.ref 30] (zuI τ 30 16 0))
          refine ⟨fun h_178 => ?_, fun h_178 => ?_⟩
          · skip
            refine zq (σ := (zuI τ 30 16 0)) hV hIτ hnτ 3 ?_
            show ((1 : Int32) = 0 ∨ (1 : Int32) = 1) ∧ V 196 [(4, .long ((((τ.2.1 30 13) * (τ.2.1 37 t)) + ((τ.2.1 30 14) * (τ.2.1 38 t))) + ((τ.2.1 30 15) * (τ.2.1 39 t)))), (0, .ref 30), (1, .int (nI u)), (2, .int (nI v)), (3, .int (nI t))] [] (zuI (zuI τ 30 16 0) 30 17 1)
            refine ⟨by decide, ?_⟩
            refine zq (σ := (zuI (zuI τ 30 16 0) 30 17 1)) hV hIτ hnτ 2 ?_
            show V 105 [(3, .int ((nI t) + 1)), (4, .long ((((τ.2.1 30 13) * (τ.2.1 37 t)) + ((τ.2.1 30 14) * (τ.2.1 38 t))) + ((τ.2.1 30 15) * (τ.2.1 39 t)))), (0, .ref 30), (1, .int (nI u)), (2, .int (nI v))] [] (zuI (zuI τ 30 16 0) 30 17 1)
            refine zwk hV [2, 3, 4, 0] rfl ?_
            rw [nI_1]
            refine iht (t + 1) _ (by omega) ((ht.uI rfl).uI rfl) h13 h14 h15 ?_ ?_
            · rw [h13, h14, h15, a37, a38, a39] at h_162
              exact zab_0 h16 h_155 h_162
            · exact zbl_1 h17 h_178
          · skip
            have h_178 := Classical.not_not.mp h_178
            refine zq (σ := (zuI τ 30 16 0)) hV hIτ hnτ 4 ?_
            show (0 ≤ (lg_cmp ((((τ.2.1 30 13) * (τ.2.1 37 t)) + ((τ.2.1 30 14) * (τ.2.1 38 t))) + ((τ.2.1 30 15) * (τ.2.1 39 t))) 0) → V 192 [(4, .long ((((τ.2.1 30 13) * (τ.2.1 37 t)) + ((τ.2.1 30 14) * (τ.2.1 38 t))) + ((τ.2.1 30 15) * (τ.2.1 39 t)))), (0, .ref 30), (1, .int (nI u)), (2, .int (nI v)), (3, .int (nI t))] [.ref 30] (zuI τ 30 16 0)) ∧ (¬ 0 ≤ (lg_cmp ((((τ.2.1 30 13) * (τ.2.1 37 t)) + ((τ.2.1 30 14) * (τ.2.1 38 t))) + ((τ.2.1 30 15) * (τ.2.1 39 t))) 0) → V 188 [(4, .long ((((τ.2.1 30 13) * (τ.2.1 37 t)) + ((τ.2.1 30 14) * (τ.2.1 38 t))) + ((τ.2.1 30 15) * (τ.2.1 39 t)))), (0, .ref 30), (1, .int (nI u)), (2, .int (nI v)), (3, .int (nI t))] [.ref 30] (zuI τ 30 16 0))
            refine ⟨fun h_185 => ?_, fun h_185 => ?_⟩
            · skip
              refine zq (σ := (zuI τ 30 16 0)) hV hIτ hnτ 2 ?_
              show ((0 : Int32) = 0 ∨ (0 : Int32) = 1) ∧ V 196 [(4, .long ((((τ.2.1 30 13) * (τ.2.1 37 t)) + ((τ.2.1 30 14) * (τ.2.1 38 t))) + ((τ.2.1 30 15) * (τ.2.1 39 t)))), (0, .ref 30), (1, .int (nI u)), (2, .int (nI v)), (3, .int (nI t))] [] (zuI (zuI τ 30 16 0) 30 17 0)
              refine ⟨by decide, ?_⟩
              refine zq (σ := (zuI (zuI τ 30 16 0) 30 17 0)) hV hIτ hnτ 2 ?_
              show V 105 [(3, .int ((nI t) + 1)), (4, .long ((((τ.2.1 30 13) * (τ.2.1 37 t)) + ((τ.2.1 30 14) * (τ.2.1 38 t))) + ((τ.2.1 30 15) * (τ.2.1 39 t)))), (0, .ref 30), (1, .int (nI u)), (2, .int (nI v))] [] (zuI (zuI τ 30 16 0) 30 17 0)
              refine zwk hV [2, 3, 4, 0] rfl ?_
              rw [nI_1]
              refine iht (t + 1) _ (by omega) ((ht.uI rfl).uI rfl) h13 h14 h15 ?_ ?_
              · rw [h13, h14, h15, a37, a38, a39] at h_162
                exact zab_0 h16 h_155 h_162
              · rw [h13, h14, h15, a37, a38, a39] at h_185
                exact zbl_0 h17 h_178 h_185
            · skip
              refine zq (σ := (zuI τ 30 16 0)) hV hIτ hnτ 3 ?_
              show ((1 : Int32) = 0 ∨ (1 : Int32) = 1) ∧ V 196 [(4, .long ((((τ.2.1 30 13) * (τ.2.1 37 t)) + ((τ.2.1 30 14) * (τ.2.1 38 t))) + ((τ.2.1 30 15) * (τ.2.1 39 t)))), (0, .ref 30), (1, .int (nI u)), (2, .int (nI v)), (3, .int (nI t))] [] (zuI (zuI τ 30 16 0) 30 17 1)
              refine ⟨by decide, ?_⟩
              refine zq (σ := (zuI (zuI τ 30 16 0) 30 17 1)) hV hIτ hnτ 2 ?_
              show V 105 [(3, .int ((nI t) + 1)), (4, .long ((((τ.2.1 30 13) * (τ.2.1 37 t)) + ((τ.2.1 30 14) * (τ.2.1 38 t))) + ((τ.2.1 30 15) * (τ.2.1 39 t)))), (0, .ref 30), (1, .int (nI u)), (2, .int (nI v))] [] (zuI (zuI τ 30 16 0) 30 17 1)
              refine zwk hV [2, 3, 4, 0] rfl ?_
              rw [nI_1]
              refine iht (t + 1) _ (by omega) ((ht.uI rfl).uI rfl) h13 h14 h15 ?_ ?_
              · rw [h13, h14, h15, a37, a38, a39] at h_162
                exact zab_0 h16 h_155 h_162
              · rw [h13, h14, h15, a37, a38, a39] at h_185
                exact zbl_2 (x := τ.1 30 17) h_185
        · skip
          refine zq (σ := τ) hV hIτ hnτ 3 ?_
          show ((1 : Int32) = 0 ∨ (1 : Int32) = 1) ∧ V 173 [(4, .long ((((τ.2.1 30 13) * (τ.2.1 37 t)) + ((τ.2.1 30 14) * (τ.2.1 38 t))) + ((τ.2.1 30 15) * (τ.2.1 39 t)))), (0, .ref 30), (1, .int (nI u)), (2, .int (nI v)), (3, .int (nI t))] [] (zuI τ 30 16 1)
          refine ⟨by decide, ?_⟩
          refine zq (σ := (zuI τ 30 16 1)) hV hIτ hnτ 4 ?_
          show (¬ (τ.1 30 17) = 0 → V 188 [(4, .long ((((τ.2.1 30 13) * (τ.2.1 37 t)) + ((τ.2.1 30 14) * (τ.2.1 38 t))) + ((τ.2.1 30 15) * (τ.2.1 39 t)))), (0, .ref 30), (1, .int (nI u)), (2, .int (nI v)), (3, .int (nI t))] [.ref 30] (zuI τ 30 16 1)) ∧ (¬ (¬ (τ.1 30 17) = 0) → V 181 [(4, .long ((((τ.2.1 30 13) * (τ.2.1 37 t)) + ((τ.2.1 30 14) * (τ.2.1 38 t))) + ((τ.2.1 30 15) * (τ.2.1 39 t)))), (0, .ref 30), (1, .int (nI u)), (2, .int (nI v)), (3, .int (nI t))] [.ref 30] (zuI τ 30 16 1))
          refine ⟨fun h_178 => ?_, fun h_178 => ?_⟩
          · skip
            refine zq (σ := (zuI τ 30 16 1)) hV hIτ hnτ 3 ?_
            show ((1 : Int32) = 0 ∨ (1 : Int32) = 1) ∧ V 196 [(4, .long ((((τ.2.1 30 13) * (τ.2.1 37 t)) + ((τ.2.1 30 14) * (τ.2.1 38 t))) + ((τ.2.1 30 15) * (τ.2.1 39 t)))), (0, .ref 30), (1, .int (nI u)), (2, .int (nI v)), (3, .int (nI t))] [] (zuI (zuI τ 30 16 1) 30 17 1)
            refine ⟨by decide, ?_⟩
            refine zq (σ := (zuI (zuI τ 30 16 1) 30 17 1)) hV hIτ hnτ 2 ?_
            show V 105 [(3, .int ((nI t) + 1)), (4, .long ((((τ.2.1 30 13) * (τ.2.1 37 t)) + ((τ.2.1 30 14) * (τ.2.1 38 t))) + ((τ.2.1 30 15) * (τ.2.1 39 t)))), (0, .ref 30), (1, .int (nI u)), (2, .int (nI v))] [] (zuI (zuI τ 30 16 1) 30 17 1)
            refine zwk hV [2, 3, 4, 0] rfl ?_
            rw [nI_1]
            refine iht (t + 1) _ (by omega) ((ht.uI rfl).uI rfl) h13 h14 h15 ?_ ?_
            · rw [h13, h14, h15, a37, a38, a39] at h_162
              exact zab_2 (x := τ.1 30 16) h_162
            · exact zbl_1 h17 h_178
          · skip
            have h_178 := Classical.not_not.mp h_178
            refine zq (σ := (zuI τ 30 16 1)) hV hIτ hnτ 4 ?_
            show (0 ≤ (lg_cmp ((((τ.2.1 30 13) * (τ.2.1 37 t)) + ((τ.2.1 30 14) * (τ.2.1 38 t))) + ((τ.2.1 30 15) * (τ.2.1 39 t))) 0) → V 192 [(4, .long ((((τ.2.1 30 13) * (τ.2.1 37 t)) + ((τ.2.1 30 14) * (τ.2.1 38 t))) + ((τ.2.1 30 15) * (τ.2.1 39 t)))), (0, .ref 30), (1, .int (nI u)), (2, .int (nI v)), (3, .int (nI t))] [.ref 30] (zuI τ 30 16 1)) ∧ (¬ 0 ≤ (lg_cmp ((((τ.2.1 30 13) * (τ.2.1 37 t)) + ((τ.2.1 30 14) * (τ.2.1 38 t))) + ((τ.2.1 30 15) * (τ.2.1 39 t))) 0) → V 188 [(4, .long ((((τ.2.1 30 13) * (τ.2.1 37 t)) + ((τ.2.1 30 14) * (τ.2.1 38 t))) + ((τ.2.1 30 15) * (τ.2.1 39 t)))), (0, .ref 30), (1, .int (nI u)), (2, .int (nI v)), (3, .int (nI t))] [.ref 30] (zuI τ 30 16 1))
            refine ⟨fun h_185 => ?_, fun h_185 => ?_⟩
            · skip
              refine zq (σ := (zuI τ 30 16 1)) hV hIτ hnτ 2 ?_
              show ((0 : Int32) = 0 ∨ (0 : Int32) = 1) ∧ V 196 [(4, .long ((((τ.2.1 30 13) * (τ.2.1 37 t)) + ((τ.2.1 30 14) * (τ.2.1 38 t))) + ((τ.2.1 30 15) * (τ.2.1 39 t)))), (0, .ref 30), (1, .int (nI u)), (2, .int (nI v)), (3, .int (nI t))] [] (zuI (zuI τ 30 16 1) 30 17 0)
              refine ⟨by decide, ?_⟩
              refine zq (σ := (zuI (zuI τ 30 16 1) 30 17 0)) hV hIτ hnτ 2 ?_
              show V 105 [(3, .int ((nI t) + 1)), (4, .long ((((τ.2.1 30 13) * (τ.2.1 37 t)) + ((τ.2.1 30 14) * (τ.2.1 38 t))) + ((τ.2.1 30 15) * (τ.2.1 39 t)))), (0, .ref 30), (1, .int (nI u)), (2, .int (nI v))] [] (zuI (zuI τ 30 16 1) 30 17 0)
              refine zwk hV [2, 3, 4, 0] rfl ?_
              rw [nI_1]
              refine iht (t + 1) _ (by omega) ((ht.uI rfl).uI rfl) h13 h14 h15 ?_ ?_
              · rw [h13, h14, h15, a37, a38, a39] at h_162
                exact zab_2 (x := τ.1 30 16) h_162
              · rw [h13, h14, h15, a37, a38, a39] at h_185
                exact zbl_0 h17 h_178 h_185
            · skip
              refine zq (σ := (zuI τ 30 16 1)) hV hIτ hnτ 3 ?_
              show ((1 : Int32) = 0 ∨ (1 : Int32) = 1) ∧ V 196 [(4, .long ((((τ.2.1 30 13) * (τ.2.1 37 t)) + ((τ.2.1 30 14) * (τ.2.1 38 t))) + ((τ.2.1 30 15) * (τ.2.1 39 t)))), (0, .ref 30), (1, .int (nI u)), (2, .int (nI v)), (3, .int (nI t))] [] (zuI (zuI τ 30 16 1) 30 17 1)
              refine ⟨by decide, ?_⟩
              refine zq (σ := (zuI (zuI τ 30 16 1) 30 17 1)) hV hIτ hnτ 2 ?_
              show V 105 [(3, .int ((nI t) + 1)), (4, .long ((((τ.2.1 30 13) * (τ.2.1 37 t)) + ((τ.2.1 30 14) * (τ.2.1 38 t))) + ((τ.2.1 30 15) * (τ.2.1 39 t)))), (0, .ref 30), (1, .int (nI u)), (2, .int (nI v))] [] (zuI (zuI τ 30 16 1) 30 17 1)
              refine zwk hV [2, 3, 4, 0] rfl ?_
              rw [nI_1]
              refine iht (t + 1) _ (by omega) ((ht.uI rfl).uI rfl) h13 h14 h15 ?_ ?_
              · rw [h13, h14, h15, a37, a38, a39] at h_162
                exact zab_2 (x := τ.1 30 16) h_162
              · rw [h13, h14, h15, a37, a38, a39] at h_185
                exact zbl_2 (x := τ.1 30 17) h_185
  exact Ht m 0 _ (by omega) (((((zOnly.rf.uJ rfl).uJ rfl).uJ rfl).uI rfl).uI rfl) rfl rfl rfl rfl rfl
set_option maxRecDepth 8000 in
set_option maxHeartbeats 4000000 in
theorem isFull_M {d : Nat} {σ : zSt} {K : Option Value → zSt → Prop} {m : Nat} (hI : zQI (kR 30 52) σ.2.2) (hs : σ.1 30 9 = nI m) (hm : m ≤ 16) (h1 : ∀ τ, zOnly zfX σ τ → zFl (σ.2.1 37) (σ.2.1 38) (σ.2.1 39) m → K (some (.int 1)) τ) (h0 : ∀ τ, zOnly zfX σ τ → ¬ zFl (σ.2.1 37) (σ.2.1 38) (σ.2.1 39) m → K (some (.int 0)) τ) : zSp (d + 2) mX9_isFull [.ref 30] σ K := by
  refine ⟨⟨by decide, Nat.le_of_ble_eq_true rfl⟩, fun V hV => ?_⟩
  refine zq (σ := σ) hV hI rfl 4 ?_
  show V 4 [(2, .int 0), (1, .int 0), (0, .ref 30)] [] σ
  refine zwk hV [2, 1, 0] rfl ?_
  have Hu : ∀ (r : Nat) (u : Nat) (τ : zSt), u + r = m → zOnly zfX σ τ → zPw (fun u v => ¬ zFq (σ.2.1 37) (σ.2.1 38) (σ.2.1 39) m u v) m u (u + 1) → V 4 [(0, .ref 30), (1, .int 0), (2, .int (nI u))] [] τ := by
    intro r
    induction r with
    | zero =>
      intro u τ hum ht hwO
      have hIτ := zQI_eq hI ht.2.2
      have hnτ : τ.2.2.2 = σ.2.2.2 := congrArg Prod.snd ht.2.2
      have hsτ : τ.1 30 9 = nI m := (ht.1 30 9 rfl).trans hs
      have a37 : τ.2.1 37 = σ.2.1 37 := funext fun j => ht.2.1 37 j rfl
      have a38 : τ.2.1 38 = σ.2.1 38 := funext fun j => ht.2.1 38 j rfl
      have a39 : τ.2.1 39 = σ.2.1 39 := funext fun j => ht.2.1 39 j rfl
      refine zq (σ := τ) hV hIτ hnτ 4 ?_
      show ((τ.1 30 9) ≤ (nI u) → V 73 [(0, .ref 30), (1, .int 0), (2, .int (nI u))] [] τ) ∧ (¬ (τ.1 30 9) ≤ (nI u) → V 12 [(0, .ref 30), (1, .int 0), (2, .int (nI u))] [] τ)
      refine ⟨fun _ => ?_, fun hc => absurd (show (τ.1 30 9) ≤ nI u by rw [hsτ]; exact zge_self (by omega)) hc⟩
      refine zq (σ := τ) hV hIτ hnτ 2 ?_
      show ((0 : Int32) = 0 ∨ (0 : Int32) = 1) ∧ K (some (.int 0)) τ
      refine ⟨by decide, ?_⟩
      exact h0 τ ht (fun ⟨u1, v1, q1, q2, q3⟩ => zPw_end hwO (by omega) u1 v1 q1 q2 q3)
    | succ r ihu =>
      intro u τ hum ht hwO
      have hIτ := zQI_eq hI ht.2.2
      have hnτ : τ.2.2.2 = σ.2.2.2 := congrArg Prod.snd ht.2.2
      have hsτ : τ.1 30 9 = nI m := (ht.1 30 9 rfl).trans hs
      have a37 : τ.2.1 37 = σ.2.1 37 := funext fun j => ht.2.1 37 j rfl
      have a38 : τ.2.1 38 = σ.2.1 38 := funext fun j => ht.2.1 38 j rfl
      have a39 : τ.2.1 39 = σ.2.1 39 := funext fun j => ht.2.1 39 j rfl
      refine zq (σ := τ) hV hIτ hnτ 4 ?_
      show ((τ.1 30 9) ≤ (nI u) → V 73 [(0, .ref 30), (1, .int 0), (2, .int (nI u))] [] τ) ∧ (¬ (τ.1 30 9) ≤ (nI u) → V 12 [(0, .ref 30), (1, .int 0), (2, .int (nI u))] [] τ)
      refine ⟨fun hc => absurd hc (show ¬ (τ.1 30 9) ≤ nI u by rw [hsτ]; exact nI_ge (by omega) (by omega)), fun _ => ?_⟩
      refine zq (σ := τ) hV hIτ hnτ 2 ?_
      show (¬ (0 : Int32) = 0 → V 73 [(0, .ref 30), (1, .int 0), (2, .int (nI u))] [] τ) ∧ (¬ (¬ (0 : Int32) = 0) → V 16 [(0, .ref 30), (1, .int 0), (2, .int (nI u))] [] τ)
      refine ⟨fun hc => absurd hc (by decide), fun _ => ?_⟩
      refine zq (σ := τ) hV hIτ hnτ 4 ?_
      show V 20 [(3, .int ((nI u) + 1)), (0, .ref 30), (1, .int 0), (2, .int (nI u))] [] τ
      refine zwk hV [1, 2, 3, 0] rfl ?_
      rw [nI_1]
      have Hv : ∀ (r : Nat) (v : Nat) (υ : zSt), v + r = m → u < v → zOnly zfX σ υ → zPw (fun u v => ¬ zFq (σ.2.1 37) (σ.2.1 38) (σ.2.1 39) m u v) m u v → V 20 [(0, .ref 30), (1, .int 0), (2, .int (nI u)), (3, .int (nI v))] [] υ := by
        intro r
        induction r with
        | zero =>
          intro v υ hvm huv hu hw
          have hIυ := zQI_eq hI hu.2.2
          have hnυ : υ.2.2.2 = σ.2.2.2 := congrArg Prod.snd hu.2.2
          have hsυ : υ.1 30 9 = nI m := (hu.1 30 9 rfl).trans hs
          have b37 : υ.2.1 37 = σ.2.1 37 := funext fun j => hu.2.1 37 j rfl
          have b38 : υ.2.1 38 = σ.2.1 38 := funext fun j => hu.2.1 38 j rfl
          have b39 : υ.2.1 39 = σ.2.1 39 := funext fun j => hu.2.1 39 j rfl
          refine zq (σ := υ) hV hIυ hnυ 4 ?_
          show ((υ.1 30 9) ≤ (nI v) → V 67 [(0, .ref 30), (1, .int 0), (2, .int (nI u)), (3, .int (nI v))] [] υ) ∧ (¬ (υ.1 30 9) ≤ (nI v) → V 28 [(0, .ref 30), (1, .int 0), (2, .int (nI u)), (3, .int (nI v))] [] υ)
          refine ⟨fun _ => ?_, fun hc => absurd (show (υ.1 30 9) ≤ nI v by rw [hsυ]; exact zge_self (by omega)) hc⟩
          refine zq (σ := υ) hV hIυ hnυ 2 ?_
          show V 4 [(2, .int ((nI u) + 1)), (0, .ref 30), (1, .int 0), (3, .int (nI v))] [] υ
          refine zwk hV [1, 2, 0] rfl ?_
          rw [nI_1]
          exact ihu (u + 1) υ (by omega) hu (zPw_row hw (by omega))
        | succ r ihv =>
          intro v υ hvm huv hu hw
          have hIυ := zQI_eq hI hu.2.2
          have hnυ : υ.2.2.2 = σ.2.2.2 := congrArg Prod.snd hu.2.2
          have hsυ : υ.1 30 9 = nI m := (hu.1 30 9 rfl).trans hs
          have b37 : υ.2.1 37 = σ.2.1 37 := funext fun j => hu.2.1 37 j rfl
          have b38 : υ.2.1 38 = σ.2.1 38 := funext fun j => hu.2.1 38 j rfl
          have b39 : υ.2.1 39 = σ.2.1 39 := funext fun j => hu.2.1 39 j rfl
          refine zq (σ := υ) hV hIυ hnυ 4 ?_
          show ((υ.1 30 9) ≤ (nI v) → V 67 [(0, .ref 30), (1, .int 0), (2, .int (nI u)), (3, .int (nI v))] [] υ) ∧ (¬ (υ.1 30 9) ≤ (nI v) → V 28 [(0, .ref 30), (1, .int 0), (2, .int (nI u)), (3, .int (nI v))] [] υ)
          refine ⟨fun hc => absurd hc (show ¬ (υ.1 30 9) ≤ nI v by rw [hsυ]; exact nI_ge (by omega) (by omega)), fun _ => ?_⟩
          refine zq (σ := υ) hV hIυ hnυ 2 ?_
          show (¬ (0 : Int32) = 0 → V 67 [(0, .ref 30), (1, .int 0), (2, .int (nI u)), (3, .int (nI v))] [] υ) ∧ (¬ (¬ (0 : Int32) = 0) → V 32 [(0, .ref 30), (1, .int 0), (2, .int (nI u)), (3, .int (nI v))] [] υ)
          refine ⟨fun hc => absurd hc (by decide), fun _ => ?_⟩
          refine zq (σ := υ) hV hIυ hnυ 4 ?_
          show zSp _ 153 [.ref 30, .int (nI u), .int (nI v)] υ (fun r σ' => σ'.2.2.2 = υ.2.2.2 + zAl 153 → V 38 [(0, .ref 30), (1, .int 0), (2, .int (nI u)), (3, .int (nI v))] (r.toList ++ []) σ')
          refine crosses_M hIυ (u := u) (v := v) (by omega) (by omega) hsυ hm (fun φ hf0 h13 h14 h15 h16 h17 hz _ => ?_) (fun φ hf0 h13 h14 h15 h16 h17 hz _ => ?_)
          · skip
            rw [b37, b38, b39] at h13 h14 h15 h16 h17 hz
            have hf := hu.tr hf0
            have hIφ := zQI_eq hI hf.2.2
            have hnφ : φ.2.2.2 = σ.2.2.2 := congrArg Prod.snd hf.2.2
            refine zq (σ := φ) hV hIφ hnφ 1 ?_
            show ((1 : Int32) = 0 → V 59 [(0, .ref 30), (1, .int 0), (2, .int (nI u)), (3, .int (nI v))] [] φ) ∧ (¬ (1 : Int32) = 0 → V 41 [(0, .ref 30), (1, .int 0), (2, .int (nI u)), (3, .int (nI v))] [] φ)
            refine ⟨fun hc => absurd hc (by decide), fun _ => ?_⟩
            refine zq (σ := φ) hV hIφ hnφ 3 ?_
            show (¬ (φ.1 30 16) = 0 → V 55 [(0, .ref 30), (1, .int 0), (2, .int (nI u)), (3, .int (nI v))] [] φ) ∧ (¬ (¬ (φ.1 30 16) = 0) → V 48 [(0, .ref 30), (1, .int 0), (2, .int (nI u)), (3, .int (nI v))] [] φ)
            refine ⟨fun h_45 => ?_, fun h_45 => ?_⟩
            · skip
              refine zq (σ := φ) hV hIφ hnφ 5 ?_
              show V 20 [(3, .int ((nI v) + 1)), (1, .int 1), (0, .ref 30), (2, .int (nI u))] [] φ
              refine zq (σ := φ) hV hIφ hnφ 4 ?_
              show ((φ.1 30 9) ≤ ((nI v) + 1) → V 67 [(3, .int ((nI v) + 1)), (1, .int 1), (0, .ref 30), (2, .int (nI u))] [] φ) ∧ (¬ (φ.1 30 9) ≤ ((nI v) + 1) → V 28 [(3, .int ((nI v) + 1)), (1, .int 1), (0, .ref 30), (2, .int (nI u))] [] φ)
              refine ⟨fun h_25 => ?_, fun h_25 => ?_⟩
              · skip
                refine zq (σ := φ) hV hIφ hnφ 2 ?_
                show V 4 [(2, .int ((nI u) + 1)), (3, .int ((nI v) + 1)), (1, .int 1), (0, .ref 30)] [] φ
                refine zq (σ := φ) hV hIφ hnφ 4 ?_
                show ((φ.1 30 9) ≤ ((nI u) + 1) → V 73 [(2, .int ((nI u) + 1)), (3, .int ((nI v) + 1)), (1, .int 1), (0, .ref 30)] [] φ) ∧ (¬ (φ.1 30 9) ≤ ((nI u) + 1) → V 12 [(2, .int ((nI u) + 1)), (3, .int ((nI v) + 1)), (1, .int 1), (0, .ref 30)] [] φ)
                refine ⟨fun h_9 => ?_, fun h_9 => ?_⟩
                · skip
                  refine zq (σ := φ) hV hIφ hnφ 2 ?_
                  show ((1 : Int32) = 0 ∨ (1 : Int32) = 1) ∧ K (some (.int 1)) φ
                  refine ⟨by decide, ?_⟩
                  exact h1 φ hf ⟨u, v, huv, by omega, hz, Or.inl (zb_ne (fun q => h_45 (h16.trans q)))⟩
                · skip
                  refine zq (σ := φ) hV hIφ hnφ 2 ?_
                  show (¬ (1 : Int32) = 0 → V 73 [(2, .int ((nI u) + 1)), (3, .int ((nI v) + 1)), (1, .int 1), (0, .ref 30)] [] φ) ∧ (¬ (¬ (1 : Int32) = 0) → V 16 [(2, .int ((nI u) + 1)), (3, .int ((nI v) + 1)), (1, .int 1), (0, .ref 30)] [] φ)
                  refine ⟨fun _ => ?_, fun hc => absurd (by decide) hc⟩
                  refine zq (σ := φ) hV hIφ hnφ 2 ?_
                  show ((1 : Int32) = 0 ∨ (1 : Int32) = 1) ∧ K (some (.int 1)) φ
                  refine ⟨by decide, ?_⟩
                  exact h1 φ hf ⟨u, v, huv, by omega, hz, Or.inl (zb_ne (fun q => h_45 (h16.trans q)))⟩
              · skip
                refine zq (σ := φ) hV hIφ hnφ 2 ?_
                show (¬ (1 : Int32) = 0 → V 67 [(3, .int ((nI v) + 1)), (1, .int 1), (0, .ref 30), (2, .int (nI u))] [] φ) ∧ (¬ (¬ (1 : Int32) = 0) → V 32 [(3, .int ((nI v) + 1)), (1, .int 1), (0, .ref 30), (2, .int (nI u))] [] φ)
                refine ⟨fun _ => ?_, fun hc => absurd (by decide) hc⟩
                refine zq (σ := φ) hV hIφ hnφ 2 ?_
                show V 4 [(2, .int ((nI u) + 1)), (3, .int ((nI v) + 1)), (1, .int 1), (0, .ref 30)] [] φ
                refine zq (σ := φ) hV hIφ hnφ 4 ?_
                show ((φ.1 30 9) ≤ ((nI u) + 1) → V 73 [(2, .int ((nI u) + 1)), (3, .int ((nI v) + 1)), (1, .int 1), (0, .ref 30)] [] φ) ∧ (¬ (φ.1 30 9) ≤ ((nI u) + 1) → V 12 [(2, .int ((nI u) + 1)), (3, .int ((nI v) + 1)), (1, .int 1), (0, .ref 30)] [] φ)
                refine ⟨fun h_9 => ?_, fun h_9 => ?_⟩
                · skip
                  refine zq (σ := φ) hV hIφ hnφ 2 ?_
                  show ((1 : Int32) = 0 ∨ (1 : Int32) = 1) ∧ K (some (.int 1)) φ
                  refine ⟨by decide, ?_⟩
                  exact h1 φ hf ⟨u, v, huv, by omega, hz, Or.inl (zb_ne (fun q => h_45 (h16.trans q)))⟩
                · skip
                  refine zq (σ := φ) hV hIφ hnφ 2 ?_
                  show (¬ (1 : Int32) = 0 → V 73 [(2, .int ((nI u) + 1)), (3, .int ((nI v) + 1)), (1, .int 1), (0, .ref 30)] [] φ) ∧ (¬ (¬ (1 : Int32) = 0) → V 16 [(2, .int ((nI u) + 1)), (3, .int ((nI v) + 1)), (1, .int 1), (0, .ref 30)] [] φ)
                  refine ⟨fun _ => ?_, fun hc => absurd (by decide) hc⟩
                  refine zq (σ := φ) hV hIφ hnφ 2 ?_
                  show ((1 : Int32) = 0 ∨ (1 : Int32) = 1) ∧ K (some (.int 1)) φ
                  refine ⟨by decide, ?_⟩
                  exact h1 φ hf ⟨u, v, huv, by omega, hz, Or.inl (zb_ne (fun q => h_45 (h16.trans q)))⟩
            · skip
              have h_45 := Classical.not_not.mp h_45
              refine zq (σ := φ) hV hIφ hnφ 3 ?_
              show ((φ.1 30 17) = 0 → V 59 [(0, .ref 30), (1, .int 0), (2, .int (nI u)), (3, .int (nI v))] [] φ) ∧ (¬ (φ.1 30 17) = 0 → V 55 [(0, .ref 30), (1, .int 0), (2, .int (nI u)), (3, .int (nI v))] [] φ)
              refine ⟨fun h_52 => ?_, fun h_52 => ?_⟩
              · skip
                refine zq (σ := φ) hV hIφ hnφ 4 ?_
                show V 20 [(3, .int ((nI v) + 1)), (1, .int 0), (0, .ref 30), (2, .int (nI u))] [] φ
                refine zwk hV [2, 1, 3, 0] rfl ?_
                rw [nI_1]
                exact ihv (v + 1) φ (by omega) (by omega) hf (zPw_next hw (fun q => q.2.elim (fun q => absurd (h16.trans (congrArg zb q)) (by rw [h_45]; decide)) (fun q => absurd (h17.trans (congrArg zb q)) (by rw [h_52]; decide))))
              · skip
                refine zq (σ := φ) hV hIφ hnφ 5 ?_
                show V 20 [(3, .int ((nI v) + 1)), (1, .int 1), (0, .ref 30), (2, .int (nI u))] [] φ
                refine zq (σ := φ) hV hIφ hnφ 4 ?_
                show ((φ.1 30 9) ≤ ((nI v) + 1) → V 67 [(3, .int ((nI v) + 1)), (1, .int 1), (0, .ref 30), (2, .int (nI u))] [] φ) ∧ (¬ (φ.1 30 9) ≤ ((nI v) + 1) → V 28 [(3, .int ((nI v) + 1)), (1, .int 1), (0, .ref 30), (2, .int (nI u))] [] φ)
                refine ⟨fun h_25 => ?_, fun h_25 => ?_⟩
                · skip
                  refine zq (σ := φ) hV hIφ hnφ 2 ?_
                  show V 4 [(2, .int ((nI u) + 1)), (3, .int ((nI v) + 1)), (1, .int 1), (0, .ref 30)] [] φ
                  refine zq (σ := φ) hV hIφ hnφ 4 ?_
                  show ((φ.1 30 9) ≤ ((nI u) + 1) → V 73 [(2, .int ((nI u) + 1)), (3, .int ((nI v) + 1)), (1, .int 1), (0, .ref 30)] [] φ) ∧ (¬ (φ.1 30 9) ≤ ((nI u) + 1) → V 12 [(2, .int ((nI u) + 1)), (3, .int ((nI v) + 1)), (1, .int 1), (0, .ref 30)] [] φ)
                  refine ⟨fun h_9 => ?_, fun h_9 => ?_⟩
                  · skip
                    refine zq (σ := φ) hV hIφ hnφ 2 ?_
                    show ((1 : Int32) = 0 ∨ (1 : Int32) = 1) ∧ K (some (.int 1)) φ
                    refine ⟨by decide, ?_⟩
                    exact h1 φ hf ⟨u, v, huv, by omega, hz, Or.inr (zb_ne (fun q => h_52 (h17.trans q)))⟩
                  · skip
                    refine zq (σ := φ) hV hIφ hnφ 2 ?_
                    show (¬ (1 : Int32) = 0 → V 73 [(2, .int ((nI u) + 1)), (3, .int ((nI v) + 1)), (1, .int 1), (0, .ref 30)] [] φ) ∧ (¬ (¬ (1 : Int32) = 0) → V 16 [(2, .int ((nI u) + 1)), (3, .int ((nI v) + 1)), (1, .int 1), (0, .ref 30)] [] φ)
                    refine ⟨fun _ => ?_, fun hc => absurd (by decide) hc⟩
                    refine zq (σ := φ) hV hIφ hnφ 2 ?_
                    show ((1 : Int32) = 0 ∨ (1 : Int32) = 1) ∧ K (some (.int 1)) φ
                    refine ⟨by decide, ?_⟩
                    exact h1 φ hf ⟨u, v, huv, by omega, hz, Or.inr (zb_ne (fun q => h_52 (h17.trans q)))⟩
                · skip
                  refine zq (σ := φ) hV hIφ hnφ 2 ?_
                  show (¬ (1 : Int32) = 0 → V 67 [(3, .int ((nI v) + 1)), (1, .int 1), (0, .ref 30), (2, .int (nI u))] [] φ) ∧ (¬ (¬ (1 : Int32) = 0) → V 32 [(3, .int ((nI v) + 1)), (1, .int 1), (0, .ref 30), (2, .int (nI u))] [] φ)
                  refine ⟨fun _ => ?_, fun hc => absurd (by decide) hc⟩
                  refine zq (σ := φ) hV hIφ hnφ 2 ?_
                  show V 4 [(2, .int ((nI u) + 1)), (3, .int ((nI v) + 1)), (1, .int 1), (0, .ref 30)] [] φ
                  refine zq (σ := φ) hV hIφ hnφ 4 ?_
                  show ((φ.1 30 9) ≤ ((nI u) + 1) → V 73 [(2, .int ((nI u) + 1)), (3, .int ((nI v) + 1)), (1, .int 1), (0, .ref 30)] [] φ) ∧ (¬ (φ.1 30 9) ≤ ((nI u) + 1) → V 12 [(2, .int ((nI u) + 1)), (3, .int ((nI v) + 1)), (1, .int 1), (0, .ref 30)] [] φ)
                  refine ⟨fun h_9 => ?_, fun h_9 => ?_⟩
                  · skip
                    refine zq (σ := φ) hV hIφ hnφ 2 ?_
                    show ((1 : Int32) = 0 ∨ (1 : Int32) = 1) ∧ K (some (.int 1)) φ
                    refine ⟨by decide, ?_⟩
                    exact h1 φ hf ⟨u, v, huv, by omega, hz, Or.inr (zb_ne (fun q => h_52 (h17.trans q)))⟩
                  · skip
                    refine zq (σ := φ) hV hIφ hnφ 2 ?_
                    show (¬ (1 : Int32) = 0 → V 73 [(2, .int ((nI u) + 1)), (3, .int ((nI v) + 1)), (1, .int 1), (0, .ref 30)] [] φ) ∧ (¬ (¬ (1 : Int32) = 0) → V 16 [(2, .int ((nI u) + 1)), (3, .int ((nI v) + 1)), (1, .int 1), (0, .ref 30)] [] φ)
                    refine ⟨fun _ => ?_, fun hc => absurd (by decide) hc⟩
                    refine zq (σ := φ) hV hIφ hnφ 2 ?_
                    show ((1 : Int32) = 0 ∨ (1 : Int32) = 1) ∧ K (some (.int 1)) φ
                    refine ⟨by decide, ?_⟩
                    exact h1 φ hf ⟨u, v, huv, by omega, hz, Or.inr (zb_ne (fun q => h_52 (h17.trans q)))⟩
          · skip
            rw [b37, b38, b39] at h13 h14 h15 h16 h17 hz
            have hf := hu.tr hf0
            have hIφ := zQI_eq hI hf.2.2
            have hnφ : φ.2.2.2 = σ.2.2.2 := congrArg Prod.snd hf.2.2
            refine zq (σ := φ) hV hIφ hnφ 1 ?_
            show ((0 : Int32) = 0 → V 59 [(0, .ref 30), (1, .int 0), (2, .int (nI u)), (3, .int (nI v))] [] φ) ∧ (¬ (0 : Int32) = 0 → V 41 [(0, .ref 30), (1, .int 0), (2, .int (nI u)), (3, .int (nI v))] [] φ)
            refine ⟨fun _ => ?_, fun hc => absurd (by decide) hc⟩
            refine zq (σ := φ) hV hIφ hnφ 4 ?_
            show V 20 [(3, .int ((nI v) + 1)), (1, .int 0), (0, .ref 30), (2, .int (nI u))] [] φ
            refine zwk hV [2, 1, 3, 0] rfl ?_
            rw [nI_1]
            exact ihv (v + 1) φ (by omega) (by omega) hf (zPw_next hw (fun q => hz q.1))
      exact Hv (m - (u + 1)) (u + 1) τ (by omega) (by omega) ht hwO
  exact Hu m 0 σ (by omega) zOnly.rf zPw_0
set_option maxRecDepth 8000 in
set_option maxHeartbeats 4000000 in
theorem hold_M {d : Nat} {σ : zSt} {K : Option Value → zSt → Prop} {m : Nat} (hI : zQI (kR 30 52) σ.2.2) (hs : σ.1 30 9 = nI m) (hm : m ≤ 16) (h1 : ∀ τ, zOnly zfX σ τ → zHold (σ.2.1 37) (σ.2.1 38) (σ.2.1 39) m → K (some (.int 1)) τ) (h0 : ∀ τ, zOnly zfX σ τ → ¬ zHold (σ.2.1 37) (σ.2.1 38) (σ.2.1 39) m → K (some (.int 0)) τ) : zSp (d + 3) mX9_hold [.ref 30] σ K := by
  refine ⟨⟨by decide, Nat.le_of_ble_eq_true rfl⟩, fun V hV => ?_⟩
  refine zq (σ := σ) hV hI rfl 2 ?_
  show zSp _ 154 [.ref 30] σ (fun r σ' => σ'.2.2.2 = σ.2.2.2 + zAl 154 → V 4 [(0, .ref 30)] (r.toList ++ []) σ')
  refine isFull_M hI hs hm (fun χ hx hfl _ => ?_) (fun χ hx hfl _ => ?_)
  · skip
    have hIχ := zQI_eq hI hx.2.2
    have hnχ : χ.2.2.2 = σ.2.2.2 := congrArg Prod.snd hx.2.2
    refine zq (σ := χ) hV hIχ hnχ 1 ?_
    show (¬ (1 : Int32) = 0 → V 9 [(0, .ref 30)] [] χ) ∧ (¬ (¬ (1 : Int32) = 0) → V 7 [(0, .ref 30)] [] χ)
    refine ⟨fun _ => ?_, fun hc => absurd (by decide) hc⟩
    refine zq (σ := χ) hV hIχ hnχ 2 ?_
    show V 11 [(1, .int 0), (0, .ref 30)] [] χ
    refine zwk hV [1, 0] rfl ?_
    have Hu : ∀ (r : Nat) (u : Nat) (τ : zSt), u + r = m → zOnly zfX σ τ → zPw (zGd (σ.2.1 37) (σ.2.1 38) (σ.2.1 39) m) m u (u + 1) → V 11 [(0, .ref 30), (1, .int (nI u))] [] τ := by
      intro r
      induction r with
      | zero =>
        intro u τ hum ht hwO
        have hIτ := zQI_eq hI ht.2.2
        have hnτ : τ.2.2.2 = σ.2.2.2 := congrArg Prod.snd ht.2.2
        have hsτ : τ.1 30 9 = nI m := (ht.1 30 9 rfl).trans hs
        have a37 : τ.2.1 37 = σ.2.1 37 := funext fun j => ht.2.1 37 j rfl
        have a38 : τ.2.1 38 = σ.2.1 38 := funext fun j => ht.2.1 38 j rfl
        have a39 : τ.2.1 39 = σ.2.1 39 := funext fun j => ht.2.1 39 j rfl
        refine zq (σ := τ) hV hIτ hnτ 4 ?_
        show ((τ.1 30 9) ≤ (nI u) → V 68 [(0, .ref 30), (1, .int (nI u))] [] τ) ∧ (¬ (τ.1 30 9) ≤ (nI u) → V 19 [(0, .ref 30), (1, .int (nI u))] [] τ)
        refine ⟨fun _ => ?_, fun hc => absurd (show (τ.1 30 9) ≤ nI u by rw [hsτ]; exact zge_self (by omega)) hc⟩
        refine zq (σ := τ) hV hIτ hnτ 2 ?_
        show ((1 : Int32) = 0 ∨ (1 : Int32) = 1) ∧ K (some (.int 1)) τ
        refine ⟨by decide, ?_⟩
        exact h1 τ ht (zFl_Hold hfl (zPw_end hwO (by omega)))
      | succ r ihu =>
        intro u τ hum ht hwO
        have hIτ := zQI_eq hI ht.2.2
        have hnτ : τ.2.2.2 = σ.2.2.2 := congrArg Prod.snd ht.2.2
        have hsτ : τ.1 30 9 = nI m := (ht.1 30 9 rfl).trans hs
        have a37 : τ.2.1 37 = σ.2.1 37 := funext fun j => ht.2.1 37 j rfl
        have a38 : τ.2.1 38 = σ.2.1 38 := funext fun j => ht.2.1 38 j rfl
        have a39 : τ.2.1 39 = σ.2.1 39 := funext fun j => ht.2.1 39 j rfl
        refine zq (σ := τ) hV hIτ hnτ 4 ?_
        show ((τ.1 30 9) ≤ (nI u) → V 68 [(0, .ref 30), (1, .int (nI u))] [] τ) ∧ (¬ (τ.1 30 9) ≤ (nI u) → V 19 [(0, .ref 30), (1, .int (nI u))] [] τ)
        refine ⟨fun hc => absurd hc (show ¬ (τ.1 30 9) ≤ nI u by rw [hsτ]; exact nI_ge (by omega) (by omega)), fun _ => ?_⟩
        refine zq (σ := τ) hV hIτ hnτ 4 ?_
        show V 23 [(2, .int ((nI u) + 1)), (0, .ref 30), (1, .int (nI u))] [] τ
        refine zwk hV [1, 2, 0] rfl ?_
        rw [nI_1]
        have Hv : ∀ (r : Nat) (v : Nat) (υ : zSt), v + r = m → u < v → zOnly zfX σ υ → zPw (zGd (σ.2.1 37) (σ.2.1 38) (σ.2.1 39) m) m u v → V 23 [(0, .ref 30), (1, .int (nI u)), (2, .int (nI v))] [] υ := by
          intro r
          induction r with
          | zero =>
            intro v υ hvm huv hu hw
            have hIυ := zQI_eq hI hu.2.2
            have hnυ : υ.2.2.2 = σ.2.2.2 := congrArg Prod.snd hu.2.2
            have hsυ : υ.1 30 9 = nI m := (hu.1 30 9 rfl).trans hs
            have b37 : υ.2.1 37 = σ.2.1 37 := funext fun j => hu.2.1 37 j rfl
            have b38 : υ.2.1 38 = σ.2.1 38 := funext fun j => hu.2.1 38 j rfl
            have b39 : υ.2.1 39 = σ.2.1 39 := funext fun j => hu.2.1 39 j rfl
            refine zq (σ := υ) hV hIυ hnυ 4 ?_
            show ((υ.1 30 9) ≤ (nI v) → V 62 [(0, .ref 30), (1, .int (nI u)), (2, .int (nI v))] [] υ) ∧ (¬ (υ.1 30 9) ≤ (nI v) → V 31 [(0, .ref 30), (1, .int (nI u)), (2, .int (nI v))] [] υ)
            refine ⟨fun _ => ?_, fun hc => absurd (show (υ.1 30 9) ≤ nI v by rw [hsυ]; exact zge_self (by omega)) hc⟩
            refine zq (σ := υ) hV hIυ hnυ 2 ?_
            show V 11 [(1, .int ((nI u) + 1)), (0, .ref 30), (2, .int (nI v))] [] υ
            refine zwk hV [1, 0] rfl ?_
            rw [nI_1]
            exact ihu (u + 1) υ (by omega) hu (zPw_row hw (by omega))
          | succ r ihv =>
            intro v υ hvm huv hu hw
            have hIυ := zQI_eq hI hu.2.2
            have hnυ : υ.2.2.2 = σ.2.2.2 := congrArg Prod.snd hu.2.2
            have hsυ : υ.1 30 9 = nI m := (hu.1 30 9 rfl).trans hs
            have b37 : υ.2.1 37 = σ.2.1 37 := funext fun j => hu.2.1 37 j rfl
            have b38 : υ.2.1 38 = σ.2.1 38 := funext fun j => hu.2.1 38 j rfl
            have b39 : υ.2.1 39 = σ.2.1 39 := funext fun j => hu.2.1 39 j rfl
            refine zq (σ := υ) hV hIυ hnυ 4 ?_
            show ((υ.1 30 9) ≤ (nI v) → V 62 [(0, .ref 30), (1, .int (nI u)), (2, .int (nI v))] [] υ) ∧ (¬ (υ.1 30 9) ≤ (nI v) → V 31 [(0, .ref 30), (1, .int (nI u)), (2, .int (nI v))] [] υ)
            refine ⟨fun hc => absurd hc (show ¬ (υ.1 30 9) ≤ nI v by rw [hsυ]; exact nI_ge (by omega) (by omega)), fun _ => ?_⟩
            refine zq (σ := υ) hV hIυ hnυ 4 ?_
            show zSp _ 153 [.ref 30, .int (nI u), .int (nI v)] υ (fun r σ' => σ'.2.2.2 = υ.2.2.2 + zAl 153 → V 37 [(0, .ref 30), (1, .int (nI u)), (2, .int (nI v))] (r.toList ++ []) σ')
            refine crosses_M hIυ (u := u) (v := v) (by omega) (by omega) hsυ hm (fun φ hf0 h13 h14 h15 h16 h17 hz _ => ?_) (fun φ hf0 h13 h14 h15 h16 h17 hz _ => ?_)
            · skip
              rw [b37, b38, b39] at h13 h14 h15 h16 h17 hz
              have hf := hu.tr hf0
              have hIφ := zQI_eq hI hf.2.2
              have hnφ : φ.2.2.2 = σ.2.2.2 := congrArg Prod.snd hf.2.2
              refine zq (σ := φ) hV hIφ hnφ 1 ?_
              show ((1 : Int32) = 0 → V 56 [(0, .ref 30), (1, .int (nI u)), (2, .int (nI v))] [] φ) ∧ (¬ (1 : Int32) = 0 → V 40 [(0, .ref 30), (1, .int (nI u)), (2, .int (nI v))] [] φ)
              refine ⟨fun hc => absurd hc (by decide), fun _ => ?_⟩
              refine zq (σ := φ) hV hIφ hnφ 3 ?_
              show ((φ.1 30 16) = 0 → V 54 [(0, .ref 30), (1, .int (nI u)), (2, .int (nI v))] [] φ) ∧ (¬ (φ.1 30 16) = 0 → V 47 [(0, .ref 30), (1, .int (nI u)), (2, .int (nI v))] [] φ)
              refine ⟨fun h_44 => ?_, fun h_44 => ?_⟩
              · skip
                refine zq (σ := φ) hV hIφ hnφ 2 ?_
                show ((0 : Int32) = 0 ∨ (0 : Int32) = 1) ∧ K (some (.int 0)) φ
                refine ⟨by decide, ?_⟩
                exact h0 φ hf (fun q => by
                  obtain ⟨q1, q2⟩ := q.2 u v huv (by omega) hz
                  rw [q2] at h16; rw [h16] at h_44; exact absurd h_44 (by decide))
              · skip
                refine zq (σ := φ) hV hIφ hnφ 3 ?_
                show (¬ (φ.1 30 17) = 0 → V 56 [(0, .ref 30), (1, .int (nI u)), (2, .int (nI v))] [] φ) ∧ (¬ (¬ (φ.1 30 17) = 0) → V 54 [(0, .ref 30), (1, .int (nI u)), (2, .int (nI v))] [] φ)
                refine ⟨fun h_51 => ?_, fun h_51 => ?_⟩
                · skip
                  refine zq (σ := φ) hV hIφ hnφ 2 ?_
                  show V 23 [(2, .int ((nI v) + 1)), (0, .ref 30), (1, .int (nI u))] [] φ
                  refine zwk hV [1, 2, 0] rfl ?_
                  rw [nI_1]
                  exact ihv (v + 1) φ (by omega) (by omega) hf (zPw_next hw (fun _ => ⟨zb_ne (fun q => h_51 (h17.trans q)), zb_ne (fun q => h_44 (h16.trans q))⟩))
                · skip
                  have h_51 := Classical.not_not.mp h_51
                  refine zq (σ := φ) hV hIφ hnφ 2 ?_
                  show ((0 : Int32) = 0 ∨ (0 : Int32) = 1) ∧ K (some (.int 0)) φ
                  refine ⟨by decide, ?_⟩
                  exact h0 φ hf (fun q => by
                    obtain ⟨q1, q2⟩ := q.2 u v huv (by omega) hz
                    rw [q1] at h17; rw [h17] at h_51; exact absurd h_51 (by decide))
            · skip
              rw [b37, b38, b39] at h13 h14 h15 h16 h17 hz
              have hf := hu.tr hf0
              have hIφ := zQI_eq hI hf.2.2
              have hnφ : φ.2.2.2 = σ.2.2.2 := congrArg Prod.snd hf.2.2
              refine zq (σ := φ) hV hIφ hnφ 1 ?_
              show ((0 : Int32) = 0 → V 56 [(0, .ref 30), (1, .int (nI u)), (2, .int (nI v))] [] φ) ∧ (¬ (0 : Int32) = 0 → V 40 [(0, .ref 30), (1, .int (nI u)), (2, .int (nI v))] [] φ)
              refine ⟨fun _ => ?_, fun hc => absurd (by decide) hc⟩
              refine zq (σ := φ) hV hIφ hnφ 2 ?_
              show V 23 [(2, .int ((nI v) + 1)), (0, .ref 30), (1, .int (nI u))] [] φ
              refine zwk hV [1, 2, 0] rfl ?_
              rw [nI_1]
              exact ihv (v + 1) φ (by omega) (by omega) hf (zPw_next hw (fun q => absurd q hz))
        exact Hv (m - (u + 1)) (u + 1) τ (by omega) (by omega) ht hwO
    exact Hu m 0 χ (by omega) hx zPw_0
  · skip
    have hIχ := zQI_eq hI hx.2.2
    have hnχ : χ.2.2.2 = σ.2.2.2 := congrArg Prod.snd hx.2.2
    refine zq (σ := χ) hV hIχ hnχ 1 ?_
    show (¬ (0 : Int32) = 0 → V 9 [(0, .ref 30)] [] χ) ∧ (¬ (¬ (0 : Int32) = 0) → V 7 [(0, .ref 30)] [] χ)
    refine ⟨fun hc => absurd hc (by decide), fun _ => ?_⟩
    refine zq (σ := χ) hV hIχ hnχ 2 ?_
    show ((0 : Int32) = 0 ∨ (0 : Int32) = 1) ∧ K (some (.int 0)) χ
    refine ⟨by decide, ?_⟩
    exact h0 χ hx (fun q => hfl (zHold_Fl q))
