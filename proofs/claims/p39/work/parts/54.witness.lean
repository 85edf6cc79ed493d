theorem zT_bd {n m : Nat} {X Y E S : Nat → Int32} {f : Int32} (hB : zHB n X Y) (hf : zBt 0 16 f) (hE : ∀ i, i < m → ∃ e, E i = nI e ∧ e < n) (hn : n ≤ 10) (hS : ∀ i, i < m → zBt 0 8 (S i)) : ∀ t, t < zMl f m → zBt (-1920) 1920 (zT1 n X Y f E t) ∧ zBt (-1920) 1920 (zT2 n X Y f E t) ∧ zBt (-2764800) 2764800 (zT3 n X Y f E S t) := by
  intro t ht
  have hi : zTi f t < m := by unfold zMl at ht; unfold zTi; by_cases q : f = 0 <;> simp only [q, if_true, if_false] at ht ⊢ <;> omega
  obtain ⟨e, he, hen⟩ := hE _ hi
  have hZ : zEd E (zTi f t) = e := by unfold zEd; rw [he]; exact nI_clamp (by omega)
  have hze := zNx_lt hen
  have dxb : zBt (-60) 60 (zDX n X e) := (zsubB (A := 30) (B := 30) (hB _ hze).1 (hB e hen).1 (by decide)).2
  have dyb : zBt (-60) 60 (zDX n Y e) := (zsubB (A := 30) (B := 30) (hB _ hze).2 (hB e hen).2 (by decide)).2
  have bx : zBt (-720) 720 (zPX n X e (S (zTi f t))) := zpxB (hB e hen).1 dxb (hS _ hi)
  have by0 : zBt (-720) 720 (zPX n Y e (S (zTi f t))) := zpxB (hB e hen).2 dyb (hS _ hi)
  have q1 := zpqB (c := -16) ⟨by decide, by decide⟩ dyb dxb hf
  have q2 := zpqB (c := 16) ⟨by decide, by decide⟩ dxb dyb hf
  have b1 : zBt (-1920) 1920 (zT1 n X Y f E t) := by
    unfold zT1; rw [hZ]; split
    · exact q1.1
    · exact q1.2
  have b2 : zBt (-1920) 1920 (zT2 n X Y f E t) := by
    unfold zT2; rw [hZ]; split
    · exact q2.1
    · exact q2.2
  refine ⟨b1, b2, ?_⟩
  unfold zT3; rw [hZ]
  exact (zl3 bx by0 b1 b2).2
/-- rows of triples that are not large -/
def zTB (A B C : Nat → Int64) (m : Nat) : Prop := ∀ t, t < m → (-1920 ≤ (A t).toInt ∧ (A t).toInt ≤ 1920) ∧ (-1920 ≤ (B t).toInt ∧ (B t).toInt ≤ 1920) ∧ (-2764800 ≤ (C t).toInt ∧ (C t).toInt ≤ 2764800)
theorem zTB_T {n m : Nat} {X Y E S : Nat → Int32} {f : Int32} (hB : zHB n X Y) (hf : zBt 0 16 f) (hE : ∀ i, i < m → ∃ e, E i = nI e ∧ e < n) (hn : n ≤ 10) (hS : ∀ i, i < m → zBt 0 8 (S i)) : zTB (zl (zT1 n X Y f E)) (zl (zT2 n X Y f E)) (zl (zT3 n X Y f E S)) (zMl f m) := fun t ht => by
  have h := zT_bd hB hf hE hn hS t ht
  unfold zBt at h
  simp only [zl, zL]
  exact h
theorem zX_int {A B C : Nat → Int64} {m u v : Nat} (h : zTB A B C m) (hu : u < m) (hv : v < m) : (zX1 A B C u v).toInt = (B u).toInt * (C v).toInt - (C u).toInt * (B v).toInt ∧ (zX2 A B C u v).toInt = (C u).toInt * (A v).toInt - (A u).toInt * (C v).toInt ∧ (zX3 A B C u v).toInt = (A u).toInt * (B v).toInt - (B u).toInt * (A v).toInt ∧
    (-10616832000 ≤ (zX1 A B C u v).toInt ∧ (zX1 A B C u v).toInt ≤ 10616832000) ∧ (-10616832000 ≤ (zX2 A B C u v).toInt ∧ (zX2 A B C u v).toInt ≤ 10616832000) ∧ (-7372800 ≤ (zX3 A B C u v).toInt ∧ (zX3 A B C u v).toInt ≤ 7372800) := by
  obtain ⟨a1, a2, a3⟩ := h u hu
  obtain ⟨b1, b2, b3⟩ := h v hv
  have p1 := zPB a2 b3
  have p2 := zPB a3 b2
  have p3 := zPB a3 b1
  have p4 := zPB a1 b3
  have p5 := zPB a1 b2
  have p6 := zPB a2 b1
  have m1 := zmul64 (x := B u) (y := C v) (by omega)
  have m2 := zmul64 (x := C u) (y := B v) (by omega)
  have m3 := zmul64 (x := C u) (y := A v) (by omega)
  have m4 := zmul64 (x := A u) (y := C v) (by omega)
  have m5 := zmul64 (x := A u) (y := B v) (by omega)
  have m6 := zmul64 (x := B u) (y := A v) (by omega)
  have e1 : (zX1 A B C u v).toInt = (B u).toInt * (C v).toInt - (C u).toInt * (B v).toInt := by unfold zX1; rw [zsub64 (by rw [m1, m2]; omega), m1, m2]
  have e2 : (zX2 A B C u v).toInt = (C u).toInt * (A v).toInt - (A u).toInt * (C v).toInt := by unfold zX2; rw [zsub64 (by rw [m3, m4]; omega), m3, m4]
  have e3 : (zX3 A B C u v).toInt = (A u).toInt * (B v).toInt - (B u).toInt * (A v).toInt := by unfold zX3; rw [zsub64 (by rw [m5, m6]; omega), m5, m6]
  refine ⟨e1, e2, e3, ?_, ?_, ?_⟩
  · rw [e1]; omega
  · rw [e2]; omega
  · rw [e3]; omega
theorem zPr_int {A B C : Nat → Int64} {m u v t : Nat} (h : zTB A B C m) (hu : u < m) (hv : v < m) (ht : t < m) : (zPr A B C (zX1 A B C u v) (zX2 A B C u v) (zX3 A B C u v) t).toInt = (zX1 A B C u v).toInt * (A t).toInt + (zX2 A B C u v).toInt * (B t).toInt + (zX3 A B C u v).toInt * (C t).toInt := by
  obtain ⟨-, -, -, x1, x2, x3⟩ := zX_int h hu hv
  obtain ⟨a1, a2, a3⟩ := h t ht
  have p1 := zPB x1 a1
  have p2 := zPB x2 a2
  have p3 := zPB x3 a3
  have m1 := zmul64 (x := zX1 A B C u v) (y := A t) (by omega)
  have m2 := zmul64 (x := zX2 A B C u v) (y := B t) (by omega)
  have m3 := zmul64 (x := zX3 A B C u v) (y := C t) (by omega)
  have s1 := zadd64 (x := zX1 A B C u v * A t) (y := zX2 A B C u v * B t) (by rw [m1, m2]; omega)
  unfold zPr
  rw [zadd64 (by rw [s1, m1, m2, m3]; omega), s1, m1, m2, m3]
theorem zAb_no {A B C : Nat → Int64} {c1 c2 c3 : Int64} {m : Nat} : zAb A B C c1 c2 c3 m = false ↔ ∀ t, t < m → ¬ 0 < zPr A B C c1 c2 c3 t := by
  induction m with
  | zero => exact ⟨fun _ t h => absurd h (Nat.not_lt_zero t), fun _ => rfl⟩
  | succ m ih =>
    unfold zAb
    rw [Bool.or_eq_false_iff, ih, decide_eq_false_iff_not]
    constructor
    · rintro ⟨h1, h2⟩ t ht
      by_cases e : t = m
      · rw [e]; exact h2
      · exact h1 t (by omega)
    · intro h; exact ⟨fun t ht => h t (by omega), h m (by omega)⟩
theorem zBl_no {A B C : Nat → Int64} {c1 c2 c3 : Int64} {m : Nat} : zBl A B C c1 c2 c3 m = false ↔ ∀ t, t < m → ¬ zPr A B C c1 c2 c3 t < 0 := by
  induction m with
  | zero => exact ⟨fun _ t h => absurd h (Nat.not_lt_zero t), fun _ => rfl⟩
  | succ m ih =>
    unfold zBl
    rw [Bool.or_eq_false_iff, ih, decide_eq_false_iff_not]
    constructor
    · rintro ⟨h1, h2⟩ t ht
      by_cases e : t = m
      · rw [e]; exact h2
      · exact h1 t (by omega)
    · intro h; exact ⟨fun t ht => h t (by omega), h m (by omega)⟩
