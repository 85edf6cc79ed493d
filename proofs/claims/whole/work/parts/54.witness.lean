theorem zT_bd {n m : Nat} {X Y E S : Nat → Int32} {f : Int32} (hB : zHB n X Y) (hf : zBt 0 16 f) (hE : ∀ i, i < m → ∃ e, E i = nI e ∧ e < n) (hn : n ≤ 10) (hS : ∀ i, i < m → zBt 0 8 (S i)) : ∀ t, t < zMl f m → zBt (-1920) 1920 (zT1 n X Y f E t) ∧ zBt (-1920) 1920 (zT2 n X Y f E t) ∧ zBt (-2764800) 2764800 (zT3 n X Y f E S t) := by
  intro t ht
  have hi : zTi f t < m := by unfold zMl at ht; unfold zTi; by_cases q : f = 0 <;> simp only [q, if_true, if_false] at ht ⊢ <;> omega
  obtain ⟨e, he, hen⟩ := hE _ hi
  have hZ : zEd E (zTi f t) = e := by unfold zEd; rw [he]; exact nI_clamp (by omega)
  have hze := zNx_lt hen
  have dxb : zBt (-60) 60 (zDX n X e) := (zsubB (A := 30) (B := 30) (hB _ hze).1 (hB e hen).1 (by decide)).2
  have dyb : zBt (-60) 60 (zDX n Y e) := (zsubB (A := 30) (B := 30) (hB _ hze).2 (hB e hen).2 (by decide)).2
  have bx : zBt (-720) 720 (zPX n X e (S (zTi f t))) := zpxB (hB e hen).1 dxb (hS _ hi)
  have by0 : zBt (-720) 720 (zPX n Y e (S (zTi f t))) := zpxB (hB e hen).2 dyb (hS _ hi)
  have q1 := zpqB (c := -16) ⟨by decide, by decide⟩ dyb dxb hf
  have q2 := zpqB (c := 16) ⟨by decide, by decide⟩ dxb dyb hf
  have b1 : zBt (-1920) 1920 (zT1 n X Y f E t) := by
    unfold zT1; rw [hZ]; split
    · exact q1.1
    · exact q1.2
  have b2 : zBt (-1920) 1920 (zT2 n X Y f E t) := by
    unfold zT2; rw [hZ]; split
    · exact q2.1
    · exact q2.2
  refine ⟨b1, b2, ?_⟩
  unfold zT3; rw [hZ]
  exact (zl3 bx by0 b1 b2).2
/-- rows of triples that are not large -/
def zTB (A B C : Nat → Int64) (m : Nat) : Prop := ∀ t, t < m → (-1920 ≤ (A t).toInt ∧ (A t).toInt ≤ 1920) ∧ (-1920 ≤ (B t).toInt ∧ (B t).toInt ≤ 1920) ∧ (-2764800 ≤ (C t).toInt ∧ (C t).toInt ≤ 2764800)
theorem zTB_T {n m : Nat} {X Y E S : Nat → Int32} {f : Int32} (hB : zHB n X Y) (hf : zBt 0 16 f) (hE : ∀ i, i < m → ∃ e, E i = nI e ∧ e < n) (hn : n ≤ 10) (hS : ∀ i, i < m → zBt 0 8 (S i)) : zTB (zl (zT1 n X Y f E)) (zl (zT2 n X Y f E)) (zl (zT3 n X Y f E S)) (zMl f m) := fun t ht => by
  have h := zT_bd hB hf hE hn hS t ht
  unfold zBt at h
  simp only [zl, zL]
  exact h
theorem zdet {a1 b1 c1 a2 b2 c2 a3 b3 c3 p q r : Int} (h1 : p * a1 + q * b1 + r * c1 = 0) (h2 : p * a2 + q * b2 + r * c2 = 0) (h3 : p * a3 + q * b3 + r * c3 = 0) (hz : p ≠ 0 ∨ q ≠ 0 ∨ r ≠ 0) : (b1 * c2 - c1 * b2) * a3 + (c1 * a2 - a1 * c2) * b3 + (a1 * b2 - b1 * a2) * c3 = 0 := by
  have e1 : p * ((b1 * c2 - c1 * b2) * a3 + (c1 * a2 - a1 * c2) * b3 + (a1 * b2 - b1 * a2) * c3) = 0 := by grind
  have e2 : q * ((b1 * c2 - c1 * b2) * a3 + (c1 * a2 - a1 * c2) * b3 + (a1 * b2 - b1 * a2) * c3) = 0 := by grind
  have e3 : r * ((b1 * c2 - c1 * b2) * a3 + (c1 * a2 - a1 * c2) * b3 + (a1 * b2 - b1 * a2) * c3) = 0 := by grind
  rcases hz with h | h | h
  · exact (Int.mul_eq_zero.mp e1).resolve_left h
  · exact (Int.mul_eq_zero.mp e2).resolve_left h
  · exact (Int.mul_eq_zero.mp e3).resolve_left h
theorem zX_int {A B C : Nat → Int64} {m u v : Nat} (h : zTB A B C m) (hu : u < m) (hv : v < m) : (zX1 A B C u v).toInt = (B u).toInt * (C v).toInt - (C u).toInt * (B v).toInt ∧ (zX2 A B C u v).toInt = (C u).toInt * (A v).toInt - (A u).toInt * (C v).toInt ∧ (zX3 A B C u v).toInt = (A u).toInt * (B v).toInt - (B u).toInt * (A v).toInt ∧
    (-10616832000 ≤ (zX1 A B C u v).toInt ∧ (zX1 A B C u v).toInt ≤ 10616832000) ∧ (-10616832000 ≤ (zX2 A B C u v).toInt ∧ (zX2 A B C u v).toInt ≤ 10616832000) ∧ (-7372800 ≤ (zX3 A B C u v).toInt ∧ (zX3 A B C u v).toInt ≤ 7372800) := by
  obtain ⟨a1, a2, a3⟩ := h u hu
  obtain ⟨b1, b2, b3⟩ := h v hv
  have p1 := zPB a2 b3
  have p2 := zPB a3 b2
  have p3 := zPB a3 b1
  have p4 := zPB a1 b3
  have p5 := zPB a1 b2
  have p6 := zPB a2 b1
  have m1 := zmul64 (x := B u) (y := C v) (by omega)
  have m2 := zmul64 (x := C u) (y := B v) (by omega)
  have m3 := zmul64 (x := C u) (y := A v) (by omega)
  have m4 := zmul64 (x := A u) (y := C v) (by omega)
  have m5 := zmul64 (x := A u) (y := B v) (by omega)
  have m6 := zmul64 (x := B u) (y := A v) (by omega)
  have e1 : (zX1 A B C u v).toInt = (B u).toInt * (C v).toInt - (C u).toInt * (B v).toInt := by unfold zX1; rw [zsub64 (by rw [m1, m2]; omega), m1, m2]
  have e2 : (zX2 A B C u v).toInt = (C u).toInt * (A v).toInt - (A u).toInt * (C v).toInt := by unfold zX2; rw [zsub64 (by rw [m3, m4]; omega), m3, m4]
  have e3 : (zX3 A B C u v).toInt = (A u).toInt * (B v).toInt - (B u).toInt * (A v).toInt := by unfold zX3; rw [zsub64 (by rw [m5, m6]; omega), m5, m6]
  refine ⟨e1, e2, e3, ?_, ?_, ?_⟩
  · rw [e1]; omega
  · rw [e2]; omega
  · rw [e3]; omega
theorem zPr_int {A B C : Nat → Int64} {m u v t : Nat} (h : zTB A B C m) (hu : u < m) (hv : v < m) (ht : t < m) : (zPr A B C (zX1 A B C u v) (zX2 A B C u v) (zX3 A B C u v) t).toInt = (zX1 A B C u v).toInt * (A t).toInt + (zX2 A B C u v).toInt * (B t).toInt + (zX3 A B C u v).toInt * (C t).toInt := by
  obtain ⟨-, -, -, x1, x2, x3⟩ := zX_int h hu hv
  obtain ⟨a1, a2, a3⟩ := h t ht
  have p1 := zPB x1 a1
  have p2 := zPB x2 a2
  have p3 := zPB x3 a3
  have m1 := zmul64 (x := zX1 A B C u v) (y := A t) (by omega)
  have m2 := zmul64 (x := zX2 A B C u v) (y := B t) (by omega)
  have m3 := zmul64 (x := zX3 A B C u v) (y := C t) (by omega)
  have s1 := zadd64 (x := zX1 A B C u v * A t) (y := zX2 A B C u v * B t) (by rw [m1, m2]; omega)
  unfold zPr
  rw [zadd64 (by rw [s1, m1, m2, m3]; omega), s1, m1, m2, m3]
theorem zAb_no {A B C : Nat → Int64} {c1 c2 c3 : Int64} {m : Nat} : zAb A B C c1 c2 c3 m = false ↔ ∀ t, t < m → ¬ 0 < zPr A B C c1 c2 c3 t := by
  induction m with
  | zero => exact ⟨fun _ t h => absurd h (Nat.not_lt_zero t), fun _ => rfl⟩
  | succ m ih =>
    unfold zAb
    rw [Bool.or_eq_false_iff, ih, decide_eq_false_iff_not]
    constructor
    · rintro ⟨h1, h2⟩ t ht
      by_cases e : t = m
      · rw [e]; exact h2
      · exact h1 t (by omega)
    · intro h; exact ⟨fun t ht => h t (by omega), h m (by omega)⟩
theorem zBl_no {A B C : Nat → Int64} {c1 c2 c3 : Int64} {m : Nat} : zBl A B C c1 c2 c3 m = false ↔ ∀ t, t < m → ¬ zPr A B C c1 c2 c3 t < 0 := by
  induction m with
  | zero => exact ⟨fun _ t h => absurd h (Nat.not_lt_zero t), fun _ => rfl⟩
  | succ m ih =>
    unfold zBl
    rw [Bool.or_eq_false_iff, ih, decide_eq_false_iff_not]
    constructor
    · rintro ⟨h1, h2⟩ t ht
      by_cases e : t = m
      · rw [e]; exact h2
      · exact h1 t (by omega)
    · intro h; exact ⟨fun t ht => h t (by omega), h m (by omega)⟩
/-- where a cross product has all triples on it, no other has one off it -/
theorem zLA {A B C : Nat → Int64} {m u v : Nat} (h : zTB A B C m) (hu : u < m) (hv : v < m) (hz : zNz A B C u v) (ha : zAe A B C m u v = false) (hb : zBe A B C m u v = false) : ¬ zFl A B C m := by
  rintro ⟨u', v', q1, q2, _, q4⟩
  have h0 : ∀ t, t < m → (zX1 A B C u v).toInt * (A t).toInt + (zX2 A B C u v).toInt * (B t).toInt + (zX3 A B C u v).toInt * (C t).toInt = 0 := fun t ht => by
    have y1 := zAb_no.mp ha t ht
    have y2 := zBl_no.mp hb t ht
    rw [← zPr_int h hu hv ht]
    rw [zlt64] at y1 y2
    have z0 : (0 : Int64).toInt = 0 := rfl
    omega
  have hz' : (zX1 A B C u v).toInt ≠ 0 ∨ (zX2 A B C u v).toInt ≠ 0 ∨ (zX3 A B C u v).toInt ≠ 0 := by
    have k : ∀ x : Int64, x ≠ 0 → x.toInt ≠ 0 := fun x hx e => hx (by rw [zeq64]; exact e)
    exact hz.imp (k _) (fun y => y.imp (k _) (k _))
  have hp : ∀ t, t < m → (zPr A B C (zX1 A B C u' v') (zX2 A B C u' v') (zX3 A B C u' v') t).toInt = 0 := fun t ht => by
    obtain ⟨x1, x2, x3, -⟩ := zX_int h (u := u') (v := v') (by omega) q2
    rw [zPr_int h (by omega) q2 ht, x1, x2, x3]
    exact zdet (h0 u' (by omega)) (h0 v' q2) (h0 t ht) hz'
  have z0 : (0 : Int64).toInt = 0 := rfl
  have na : zAe A B C m u' v' = false := zAb_no.mpr (fun t ht y => by rw [zlt64, hp t ht, z0] at y; omega)
  have nb : zBe A B C m u' v' = false := zBl_no.mpr (fun t ht y => by rw [zlt64, hp t ht, z0] at y; omega)
  rcases q4 with q | q
  · rw [na] at q; exact absurd q (by decide)
  · rw [nb] at q; exact absurd q (by decide)
def zfMh (a j : Nat) : Bool := (Nat.beq a 30 && (Nat.beq j 9 || (Nat.ble 13 j && Nat.ble j 17))) || (Nat.ble 37 a && Nat.ble a 39)
theorem zfLy_M (a j : Nat) (h : zfMh a j = false) : zfLy a j = false := by
  unfold zfMh at h; unfold zfLy
  rw [Bool.or_eq_false_iff, Bool.and_eq_false_iff] at h
  rw [Bool.or_eq_false_iff, Bool.and_eq_false_iff]
  exact ⟨h.1.imp id (fun q => (Bool.or_eq_false_iff.mp q).1), h.2⟩
theorem zfX_M (a j : Nat) (h : zfMh a j = false) : zfX a j = false := by
  unfold zfMh at h; unfold zfX
  rw [Bool.or_eq_false_iff, Bool.and_eq_false_iff] at h
  rw [Bool.and_eq_false_iff]
  exact h.1.imp id (fun q => (Bool.or_eq_false_iff.mp q).2)
theorem zTkM_congr {n : Nat} {X Y : Nat → Int32} {f : Int32} {E S E' S' : Nat → Int32} {m : Nat} {τ : zSt} (h : ∀ i, i < m → E i = E' i ∧ S i = S' i) (hT : zTkM n X Y f E S (zMl f m) τ) : zTkM n X Y f E' S' (zMl f m) τ := fun t ht => by
  have hi : zTi f t < m := by unfold zMl at ht; unfold zTi; by_cases q : f = 0 <;> simp only [q, if_true, if_false] at ht ⊢ <;> omega
  obtain ⟨h1, h2⟩ := h _ hi
  have h3 : zEd E (zTi f t) = zEd E' (zTi f t) := by unfold zEd; rw [h1]
  have := hT t ht
  simp only [zl, zT3, zT1, zT2, h3, h2] at this ⊢
  exact this
set_option maxRecDepth 8000 in
set_option maxHeartbeats 4000000 in
theorem holds_M {d : Nat} {σ : zSt} {K : Option Value → zSt → Prop} {n m : Nat} (hI : zQI (kR 30 52) σ.2.2) (hn : σ.1 30 0 = nI n) (hn10 : n ≤ 10) (hB : zHB n (σ.1 31) (σ.1 32)) (hfb : zBt 0 16 (σ.1 30 8)) (hs : σ.1 30 5 = nI m) (hm : m ≤ 8) (hE : ∀ i, i < m → ∃ e, σ.1 35 i = nI e ∧ e < n) (hS : ∀ i, i < m → zBt 0 8 (σ.1 36 i)) (h1 : ∀ τ, zOnly zfMh σ τ → zHo n (σ.1 31) (σ.1 32) (σ.1 30 8) (σ.1 35) (σ.1 36) m → K (some (.int 1)) τ) (h0 : ∀ τ, zOnly zfMh σ τ → ¬ zHo n (σ.1 31) (σ.1 32) (σ.1 30 8) (σ.1 35) (σ.1 36) m → K (some (.int 0)) τ) : zSp (d + 4) mX9_holds [.ref 30] σ K := by
  refine ⟨⟨by decide, Nat.le_of_ble_eq_true rfl⟩, fun V hV => ?_⟩
  refine zq (σ := σ) hV hI rfl 2 ?_
  show zSp _ 152 [.ref 30] σ (fun r σ' => σ'.2.2.2 = σ.2.2.2 + zAl 152 → V 4 [(0, .ref 30)] (r.toList ++ []) σ')
  refine layAll_M hI hn hn10 hB hfb hs hm hE hS (fun τ ht h9 hT _ => ?_)
  have hml := @zMl_le (σ.1 30 8) m hm
  have htM := ht.wk zfLy_M
  have hIτ := zQI_eq hI ht.2.2
  have hnτ : τ.2.2.2 = σ.2.2.2 := congrArg Prod.snd ht.2.2
  refine zq (σ := τ) hV hIτ hnτ 2 ?_
  show zSp _ 155 [.ref 30] τ (fun r σ' => σ'.2.2.2 = τ.2.2.2 + zAl 155 → V 8 [(0, .ref 30)] (r.toList ++ []) σ')
  refine hold_M hIτ h9 hml (fun υ hu0 hq0 _ => ?_) (fun υ hu0 hq0 _ => ?_)
  · skip
    have hq : zHo n (σ.1 31) (σ.1 32) (σ.1 30 8) (σ.1 35) (σ.1 36) m := (zHold_congr hT).mp hq0
    have hu := htM.tr (hu0.wk zfX_M)
    have hIυ := zQI_eq hI hu.2.2
    have hnυ : υ.2.2.2 = σ.2.2.2 := congrArg Prod.snd hu.2.2
    refine zq (σ := υ) hV hIυ hnυ 1 ?_
    show ((1 : Int32) = 0 → V 15 [(0, .ref 30)] [] υ) ∧ (¬ (1 : Int32) = 0 → V 11 [(0, .ref 30)] [] υ)
    refine ⟨fun hc => absurd hc (by decide), fun _ => ?_⟩
    refine zq (σ := υ) hV hIυ hnυ 3 ?_
    show K (some (.int 1)) υ
    exact h1 υ hu hq
  · skip
    have hq : ¬ zHo n (σ.1 31) (σ.1 32) (σ.1 30 8) (σ.1 35) (σ.1 36) m := fun x => hq0 ((zHold_congr hT).mpr x)
    have hu := htM.tr (hu0.wk zfX_M)
    have hIυ := zQI_eq hI hu.2.2
    have hnυ : υ.2.2.2 = σ.2.2.2 := congrArg Prod.snd hu.2.2
    refine zq (σ := υ) hV hIυ hnυ 1 ?_
    show ((0 : Int32) = 0 → V 15 [(0, .ref 30)] [] υ) ∧ (¬ (0 : Int32) = 0 → V 11 [(0, .ref 30)] [] υ)
    refine ⟨fun _ => ?_, fun hc => absurd (by decide) hc⟩
    refine zq (σ := υ) hV hIυ hnυ 2 ?_
    show K (some (.int 0)) υ
    exact h0 υ hu hq
set_option maxRecDepth 8000 in
set_option maxHeartbeats 4000000 in
theorem push_M {d : Nat} {σ : zSt} {K : Option Value → zSt → Prop} {t w : Int32} {n m : Nat} (hI : zQI (kR 30 52) σ.2.2) (hn : σ.1 30 0 = nI n) (hn10 : n ≤ 10) (hB : zHB n (σ.1 31) (σ.1 32)) (hfb : zBt 0 16 (σ.1 30 8)) (hs : σ.1 30 5 = nI m) (hm : m ≤ 8) (hE : ∀ i, i < m → ∃ e, σ.1 35 i = nI e ∧ e < n) (hS : ∀ i, i < m → zBt 0 8 (σ.1 36 i)) (hBad : ∀ τ, zOnly zfMh σ τ → ¬ (zBt 0 (zMl (σ.1 30 8) m - 1) t ∧ zBt 0 2 w) → K (some (.long (zRf (-2)))) τ) (hOk : ∀ τ k, zOnly zfMh σ τ → t = nI k → k < zMl (σ.1 30 8) m → zBt 0 2 w → K (some (.long (Int32.toInt64 (if w = 0 then zT1 n (σ.1 31) (σ.1 32) (σ.1 30 8) (σ.1 35) k else if w = 1 then zT2 n (σ.1 31) (σ.1 32) (σ.1 30 8) (σ.1 35) k else zT3 n (σ.1 31) (σ.1 32) (σ.1 30 8) (σ.1 35) (σ.1 36) k)))) τ) : zSp (d + 4) mX9_push [.ref 30, .int t, .int w] σ K := by
  refine ⟨⟨by decide, Nat.le_of_ble_eq_true rfl⟩, fun V hV => ?_⟩
  refine zq (σ := σ) hV hI rfl 2 ?_
  show zSp _ 152 [.ref 30] σ (fun r σ' => σ'.2.2.2 = σ.2.2.2 + zAl 152 → V 4 [(0, .ref 30), (1, .int t), (2, .int w)] (r.toList ++ []) σ')
  refine layAll_M hI hn hn10 hB hfb hs hm hE hS (fun τ ht h9 hT _ => ?_)
  have hml := @zMl_le (σ.1 30 8) m hm
  have htM := ht.wk zfLy_M
  have hIτ := zQI_eq hI ht.2.2
  have hnτ : τ.2.2.2 = σ.2.2.2 := congrArg Prod.snd ht.2.2
  refine zq (σ := τ) hV hIτ hnτ 9 ?_
  show zSp _ 131 [.long (Int32.toInt64 t), .long 0, .long (Int32.toInt64 ((τ.1 30 9) - 1))] τ (fun r σ' => σ'.2.2.2 = τ.2.2.2 + zAl 131 → V 17 [(0, .ref 30), (1, .int t), (2, .int w)] (r.toList ++ []) σ')
  refine in_M (lo := 0) (hi := (((zMl (σ.1 30 8) m) : Nat) : Int) - 1) (by decide) (zpm h9 (by omega)) (fun hb1 _ => ?_) (fun hb1 _ => ?_)
  · skip
    refine zq (σ := τ) hV hIτ hnτ 1 ?_
    show ((1 : Int32) = 0 → V 32 [(0, .ref 30), (1, .int t), (2, .int w)] [] τ) ∧ (¬ (1 : Int32) = 0 → V 20 [(0, .ref 30), (1, .int t), (2, .int w)] [] τ)
    refine ⟨fun hc => absurd hc (by decide), fun _ => ?_⟩
    refine zq (σ := τ) hV hIτ hnτ 5 ?_
    show zSp _ 131 [.long (Int32.toInt64 w), .long 0, .long 2] τ (fun r σ' => σ'.2.2.2 = τ.2.2.2 + zAl 131 → V 29 [(0, .ref 30), (1, .int t), (2, .int w)] (r.toList ++ []) σ')
    refine in_M (lo := 0) (hi := 2) (by decide) (by decide) (fun hb2 _ => ?_) (fun hb2 _ => ?_)
    · skip
      refine zq (σ := τ) hV hIτ hnτ 1 ?_
      show (¬ (1 : Int32) = 0 → V 38 [(0, .ref 30), (1, .int t), (2, .int w)] [] τ) ∧ (¬ (¬ (1 : Int32) = 0) → V 32 [(0, .ref 30), (1, .int t), (2, .int w)] [] τ)
      refine ⟨fun _ => ?_, fun hc => absurd (by decide) hc⟩
      obtain ⟨k, hk, hk2, _⟩ := zNat (x := t) (by unfold zBt at hb1; omega)
      have hkm : k < zMl (σ.1 30 8) m := by unfold zBt at hb1; omega
      have hTk := hT k hkm
      refine zq (σ := τ) hV hIτ hnτ 2 ?_
      show (¬ w = 0 → V 51 [(0, .ref 30), (1, .int t), (2, .int w)] [] τ) ∧ (¬ (¬ w = 0) → V 42 [(0, .ref 30), (1, .int t), (2, .int w)] [] τ)
      refine ⟨fun h_39 => ?_, fun h_39 => ?_⟩
      · skip
        refine zq (σ := τ) hV hIτ hnτ 3 ?_
        show (¬ w = 1 → V 65 [(0, .ref 30), (1, .int t), (2, .int w)] [] τ) ∧ (¬ (¬ w = 1) → V 56 [(0, .ref 30), (1, .int t), (2, .int w)] [] τ)
        refine ⟨fun h_53 => ?_, fun h_53 => ?_⟩
        · skip
          refine zq (σ := τ) hV hIτ hnτ 4 ?_
          show vp_in t 16 ∧ V 71 [(0, .ref 30), (1, .int t), (2, .int w)] [.long (τ.2.1 39 (Int32.toNatClampNeg t))] τ
          refine ⟨zix (k := k) hk (by omega) (by decide), ?_⟩
          rw [zcl_k (i := t) (k := k) hk (by omega)]
          refine zq (σ := τ) hV hIτ hnτ 1 ?_
          show K (some (.long (τ.2.1 39 k))) τ
          have q := hOk τ k htM hk hkm hb2
          first | (rw [if_pos h_39] at q; rw [hTk.1]; exact q) | (rw [if_neg h_39, if_pos h_53] at q; rw [hTk.2.1]; exact q) | (rw [if_neg h_39, if_neg h_53] at q; rw [hTk.2.2]; exact q)
        · skip
          have h_53 := Classical.not_not.mp h_53
          refine zq (σ := τ) hV hIτ hnτ 4 ?_
          show vp_in t 16 ∧ V 62 [(0, .ref 30), (1, .int t), (2, .int w)] [.long (τ.2.1 38 (Int32.toNatClampNeg t))] τ
          refine ⟨zix (k := k) hk (by omega) (by decide), ?_⟩
          rw [zcl_k (i := t) (k := k) hk (by omega)]
          refine zq (σ := τ) hV hIτ hnτ 2 ?_
          show K (some (.long (τ.2.1 38 k))) τ
          have q := hOk τ k htM hk hkm hb2
          first | (rw [if_pos h_39] at q; rw [hTk.1]; exact q) | (rw [if_neg h_39, if_pos h_53] at q; rw [hTk.2.1]; exact q) | (rw [if_neg h_39, if_neg h_53] at q; rw [hTk.2.2]; exact q)
      · skip
        have h_39 := Classical.not_not.mp h_39
        refine zq (σ := τ) hV hIτ hnτ 4 ?_
        show vp_in t 16 ∧ V 48 [(0, .ref 30), (1, .int t), (2, .int w)] [.long (τ.2.1 37 (Int32.toNatClampNeg t))] τ
        refine ⟨zix (k := k) hk (by omega) (by decide), ?_⟩
        rw [zcl_k (i := t) (k := k) hk (by omega)]
        refine zq (σ := τ) hV hIτ hnτ 2 ?_
        show K (some (.long (τ.2.1 37 k))) τ
        have q := hOk τ k htM hk hkm hb2
        first | (rw [if_pos h_39] at q; rw [hTk.1]; exact q) | (rw [if_neg h_39, if_pos h_53] at q; rw [hTk.2.1]; exact q) | (rw [if_neg h_39, if_neg h_53] at q; rw [hTk.2.2]; exact q)
    · skip
      refine zq (σ := τ) hV hIτ hnτ 1 ?_
      show (¬ (0 : Int32) = 0 → V 38 [(0, .ref 30), (1, .int t), (2, .int w)] [] τ) ∧ (¬ (¬ (0 : Int32) = 0) → V 32 [(0, .ref 30), (1, .int t), (2, .int w)] [] τ)
      refine ⟨fun hc => absurd hc (by decide), fun _ => ?_⟩
      refine zq (σ := τ) hV hIτ hnτ 2 ?_
      show zSp _ 132 [.int (-2)] τ (fun r σ' => σ'.2.2.2 = τ.2.2.2 + zAl 132 → V 37 [(0, .ref 30), (1, .int t), (2, .int w)] (r.toList ++ []) σ')
      refine no_M  (fun _ => ?_)
      refine zq (σ := τ) hV hIτ hnτ 1 ?_
      show K (some (.long (zRf (-2)))) τ
      exact hBad τ htM (fun q => hb2 q.2)
  · skip
    refine zq (σ := τ) hV hIτ hnτ 1 ?_
    show ((0 : Int32) = 0 → V 32 [(0, .ref 30), (1, .int t), (2, .int w)] [] τ) ∧ (¬ (0 : Int32) = 0 → V 20 [(0, .ref 30), (1, .int t), (2, .int w)] [] τ)
    refine ⟨fun _ => ?_, fun hc => absurd (by decide) hc⟩
    refine zq (σ := τ) hV hIτ hnτ 2 ?_
    show zSp _ 132 [.int (-2)] τ (fun r σ' => σ'.2.2.2 = τ.2.2.2 + zAl 132 → V 37 [(0, .ref 30), (1, .int t), (2, .int w)] (r.toList ++ []) σ')
    refine no_M  (fun _ => ?_)
    refine zq (σ := τ) hV hIτ hnτ 1 ?_
    show K (some (.long (zRf (-2)))) τ
    exact hBad τ htM (fun q => hb1 q.1)
set_option maxRecDepth 8000 in
set_option maxHeartbeats 4000000 in
theorem witness_M {d : Nat} {σ : zSt} {K : Option Value → zSt → Prop} {w : Int32} {n m : Nat} (hI : zQI (kR 30 52) σ.2.2) (hn : σ.1 30 0 = nI n) (hn10 : n ≤ 10) (hB : zHB n (σ.1 31) (σ.1 32)) (hfb : zBt 0 16 (σ.1 30 8)) (hs : σ.1 30 5 = nI m) (hm : m ≤ 8) (hE : ∀ i, i < m → ∃ e, σ.1 35 i = nI e ∧ e < n) (hS : ∀ i, i < m → zBt 0 8 (σ.1 36 i)) (hBad : ¬ zBt 0 2 w → K (some (.long (zRf (-2)))) σ)
    (hVal : ∀ τ u v, zOnly zfMh σ τ → zBt 0 2 w → zFst (zl (zT1 n (σ.1 31) (σ.1 32) (σ.1 30 8) (σ.1 35))) (zl (zT2 n (σ.1 31) (σ.1 32) (σ.1 30 8) (σ.1 35))) (zl (zT3 n (σ.1 31) (σ.1 32) (σ.1 30 8) (σ.1 35) (σ.1 36))) (zMl (σ.1 30 8) m) u v → (zBe (zl (zT1 n (σ.1 31) (σ.1 32) (σ.1 30 8) (σ.1 35))) (zl (zT2 n (σ.1 31) (σ.1 32) (σ.1 30 8) (σ.1 35))) (zl (zT3 n (σ.1 31) (σ.1 32) (σ.1 30 8) (σ.1 35) (σ.1 36))) (zMl (σ.1 30 8) m) u v || zAe (zl (zT1 n (σ.1 31) (σ.1 32) (σ.1 30 8) (σ.1 35))) (zl (zT2 n (σ.1 31) (σ.1 32) (σ.1 30 8) (σ.1 35))) (zl (zT3 n (σ.1 31) (σ.1 32) (σ.1 30 8) (σ.1 35) (σ.1 36))) (zMl (σ.1 30 8) m) u v) = true → K (some (.long (if w = 0 then zsn (zBe (zl (zT1 n (σ.1 31) (σ.1 32) (σ.1 30 8) (σ.1 35))) (zl (zT2 n (σ.1 31) (σ.1 32) (σ.1 30 8) (σ.1 35))) (zl (zT3 n (σ.1 31) (σ.1 32) (σ.1 30 8) (σ.1 35) (σ.1 36))) (zMl (σ.1 30 8) m) u v) (zX1 (zl (zT1 n (σ.1 31) (σ.1 32) (σ.1 30 8) (σ.1 35))) (zl (zT2 n (σ.1 31) (σ.1 32) (σ.1 30 8) (σ.1 35))) (zl (zT3 n (σ.1 31) (σ.1 32) (σ.1 30 8) (σ.1 35) (σ.1 36))) u v) else if w = 1 then zsn (zBe (zl (zT1 n (σ.1 31) (σ.1 32) (σ.1 30 8) (σ.1 35))) (zl (zT2 n (σ.1 31) (σ.1 32) (σ.1 30 8) (σ.1 35))) (zl (zT3 n (σ.1 31) (σ.1 32) (σ.1 30 8) (σ.1 35) (σ.1 36))) (zMl (σ.1 30 8) m) u v) (zX2 (zl (zT1 n (σ.1 31) (σ.1 32) (σ.1 30 8) (σ.1 35))) (zl (zT2 n (σ.1 31) (σ.1 32) (σ.1 30 8) (σ.1 35))) (zl (zT3 n (σ.1 31) (σ.1 32) (σ.1 30 8) (σ.1 35) (σ.1 36))) u v) else zsn (zBe (zl (zT1 n (σ.1 31) (σ.1 32) (σ.1 30 8) (σ.1 35))) (zl (zT2 n (σ.1 31) (σ.1 32) (σ.1 30 8) (σ.1 35))) (zl (zT3 n (σ.1 31) (σ.1 32) (σ.1 30 8) (σ.1 35) (σ.1 36))) (zMl (σ.1 30 8) m) u v) (zX3 (zl (zT1 n (σ.1 31) (σ.1 32) (σ.1 30 8) (σ.1 35))) (zl (zT2 n (σ.1 31) (σ.1 32) (σ.1 30 8) (σ.1 35))) (zl (zT3 n (σ.1 31) (σ.1 32) (σ.1 30 8) (σ.1 35) (σ.1 36))) u v)))) τ)
    (hNo : ∀ τ, zOnly zfMh σ τ → zBt 0 2 w → (∀ u v, zFst (zl (zT1 n (σ.1 31) (σ.1 32) (σ.1 30 8) (σ.1 35))) (zl (zT2 n (σ.1 31) (σ.1 32) (σ.1 30 8) (σ.1 35))) (zl (zT3 n (σ.1 31) (σ.1 32) (σ.1 30 8) (σ.1 35) (σ.1 36))) (zMl (σ.1 30 8) m) u v → (zBe (zl (zT1 n (σ.1 31) (σ.1 32) (σ.1 30 8) (σ.1 35))) (zl (zT2 n (σ.1 31) (σ.1 32) (σ.1 30 8) (σ.1 35))) (zl (zT3 n (σ.1 31) (σ.1 32) (σ.1 30 8) (σ.1 35) (σ.1 36))) (zMl (σ.1 30 8) m) u v || zAe (zl (zT1 n (σ.1 31) (σ.1 32) (σ.1 30 8) (σ.1 35))) (zl (zT2 n (σ.1 31) (σ.1 32) (σ.1 30 8) (σ.1 35))) (zl (zT3 n (σ.1 31) (σ.1 32) (σ.1 30 8) (σ.1 35) (σ.1 36))) (zMl (σ.1 30 8) m) u v) = false) → K (some (.long (zRf (-3)))) τ) : zSp (d + 4) mX9_witness [.ref 30, .int w] σ K := by
  refine ⟨⟨by decide, Nat.le_of_ble_eq_true rfl⟩, fun V hV => ?_⟩
  refine zq (σ := σ) hV hI rfl 5 ?_
  show zSp _ 131 [.long (Int32.toInt64 w), .long 0, .long 2] σ (fun r σ' => σ'.2.2.2 = σ.2.2.2 + zAl 131 → V 9 [(0, .ref 30), (1, .int w)] (r.toList ++ []) σ')
  refine in_M (lo := 0) (hi := 2) (by decide) (by decide) (fun hb1 _ => ?_) (fun hb1 _ => ?_)
  · skip
    refine zq (σ := σ) hV hI rfl 1 ?_
    show (¬ (1 : Int32) = 0 → V 18 [(0, .ref 30), (1, .int w)] [] σ) ∧ (¬ (¬ (1 : Int32) = 0) → V 12 [(0, .ref 30), (1, .int w)] [] σ)
    refine ⟨fun _ => ?_, fun hc => absurd (by decide) hc⟩
    refine zq (σ := σ) hV hI rfl 2 ?_
    show zSp _ 152 [.ref 30] σ (fun r σ' => σ'.2.2.2 = σ.2.2.2 + zAl 152 → V 22 [(0, .ref 30), (1, .int w)] (r.toList ++ []) σ')
    refine layAll_M hI hn hn10 hB hfb hs hm hE hS (fun τ ht h9 hT _ => ?_)
    have hml := @zMl_le (σ.1 30 8) m hm
    have htM := ht.wk zfLy_M
    have hIτ := zQI_eq hI ht.2.2
    have hnτ : τ.2.2.2 = σ.2.2.2 := congrArg Prod.snd ht.2.2
    refine zq (σ := τ) hV hIτ hnτ 2 ?_
    show zSp _ 154 [.ref 30] τ (fun r σ' => σ'.2.2.2 = τ.2.2.2 + zAl 154 → V 26 [(0, .ref 30), (1, .int w)] (r.toList ++ []) σ')
    refine isFull_M hIτ h9 hml (fun χ hx0 hfl _ => ?_) (fun χ hx0 hfl _ => ?_)
    · skip
      have hx := htM.tr (hx0.wk zfX_M)
      have hIχ := zQI_eq hI hx.2.2
      have hnχ : χ.2.2.2 = σ.2.2.2 := congrArg Prod.snd hx.2.2
      refine zq (σ := χ) hV hIχ hnχ 1 ?_
      show (¬ (1 : Int32) = 0 → V 35 [(0, .ref 30), (1, .int w)] [] χ) ∧ (¬ (¬ (1 : Int32) = 0) → V 29 [(0, .ref 30), (1, .int w)] [] χ)
      refine ⟨fun _ => ?_, fun hc => absurd (by decide) hc⟩
      refine zq (σ := χ) hV hIχ hnχ 2 ?_
      show V 37 [(2, .int 0), (0, .ref 30), (1, .int w)] [] χ
      refine zwk hV [1, 2, 0] rfl ?_
      have Hu : ∀ (r : Nat) (u : Nat) (ρ : zSt), u + r = (zMl (σ.1 30 8) m) → zOnly zfX τ ρ → zPw (zGd (τ.2.1 37) (τ.2.1 38) (τ.2.1 39) (zMl (σ.1 30 8) m)) (zMl (σ.1 30 8) m) u (u + 1) → V 37 [(0, .ref 30), (1, .int w), (2, .int (nI u))] [] ρ := by
        intro r
        induction r with
        | zero =>
          intro u ρ hum hr hwO
          have hzρ := htM.tr (hr.wk zfX_M)
          have hIρ := zQI_eq hI hzρ.2.2
          have hnρ : ρ.2.2.2 = σ.2.2.2 := congrArg Prod.snd hzρ.2.2
          have hsρ : ρ.1 30 9 = nI (zMl (σ.1 30 8) m) := (hr.1 30 9 rfl).trans h9
          have a37 : ρ.2.1 37 = τ.2.1 37 := funext fun j => hr.2.1 37 j rfl
          have a38 : ρ.2.1 38 = τ.2.1 38 := funext fun j => hr.2.1 38 j rfl
          have a39 : ρ.2.1 39 = τ.2.1 39 := funext fun j => hr.2.1 39 j rfl
          refine zq (σ := ρ) hV hIρ hnρ 4 ?_
          show ((ρ.1 30 9) ≤ (nI u) → V 137 [(0, .ref 30), (1, .int w), (2, .int (nI u))] [] ρ) ∧ (¬ (ρ.1 30 9) ≤ (nI u) → V 45 [(0, .ref 30), (1, .int w), (2, .int (nI u))] [] ρ)
          refine ⟨fun _ => ?_, fun hc => absurd (show ρ.1 30 9 ≤ nI u by rw [hsρ]; exact zge_self (by omega)) hc⟩
          refine zq (σ := ρ) hV hIρ hnρ 2 ?_
          show zSp _ 132 [.int (-3)] ρ (fun r σ' => σ'.2.2.2 = ρ.2.2.2 + zAl 132 → V 142 [(0, .ref 30), (1, .int w), (2, .int (nI u))] (r.toList ++ []) σ')
          refine no_M  (fun _ => ?_)
          refine zq (σ := ρ) hV hIρ hnρ 1 ?_
          show K (some (.long (zRf (-3)))) ρ
          refine hNo ρ hzρ hb1 (fun u1 v1 q => ?_)
          have q2 := (zFst_congr hT).mpr q
          exact absurd (zPw_end hwO (by omega) u1 v1 q2.1.1 q2.1.2.1 q2.1.2.2.1) q2.1.2.2.2
        | succ r ihu =>
          intro u ρ hum hr hwO
          have hzρ := htM.tr (hr.wk zfX_M)
          have hIρ := zQI_eq hI hzρ.2.2
          have hnρ : ρ.2.2.2 = σ.2.2.2 := congrArg Prod.snd hzρ.2.2
          have hsρ : ρ.1 30 9 = nI (zMl (σ.1 30 8) m) := (hr.1 30 9 rfl).trans h9
          have a37 : ρ.2.1 37 = τ.2.1 37 := funext fun j => hr.2.1 37 j rfl
          have a38 : ρ.2.1 38 = τ.2.1 38 := funext fun j => hr.2.1 38 j rfl
          have a39 : ρ.2.1 39 = τ.2.1 39 := funext fun j => hr.2.1 39 j rfl
          refine zq (σ := ρ) hV hIρ hnρ 4 ?_
          show ((ρ.1 30 9) ≤ (nI u) → V 137 [(0, .ref 30), (1, .int w), (2, .int (nI u))] [] ρ) ∧ (¬ (ρ.1 30 9) ≤ (nI u) → V 45 [(0, .ref 30), (1, .int w), (2, .int (nI u))] [] ρ)
          refine ⟨fun hc => absurd hc (show ¬ ρ.1 30 9 ≤ nI u by rw [hsρ]; exact nI_ge (by omega) (by omega)), fun _ => ?_⟩
          refine zq (σ := ρ) hV hIρ hnρ 4 ?_
          show V 49 [(3, .int ((nI u) + 1)), (0, .ref 30), (1, .int w), (2, .int (nI u))] [] ρ
          refine zwk hV [1, 2, 3, 0] rfl ?_
          rw [nI_1]
          have Hv : ∀ (r : Nat) (v : Nat) (υ : zSt), v + r = (zMl (σ.1 30 8) m) → u < v → zOnly zfX τ υ → zPw (zGd (τ.2.1 37) (τ.2.1 38) (τ.2.1 39) (zMl (σ.1 30 8) m)) (zMl (σ.1 30 8) m) u v → V 49 [(0, .ref 30), (1, .int w), (2, .int (nI u)), (3, .int (nI v))] [] υ := by
            intro r
            induction r with
            | zero =>
              intro v υ hvm huv hu hw
              have hzυ := htM.tr (hu.wk zfX_M)
              have hIυ := zQI_eq hI hzυ.2.2
              have hnυ : υ.2.2.2 = σ.2.2.2 := congrArg Prod.snd hzυ.2.2
              have hsυ : υ.1 30 9 = nI (zMl (σ.1 30 8) m) := (hu.1 30 9 rfl).trans h9
              have b37 : υ.2.1 37 = τ.2.1 37 := funext fun j => hu.2.1 37 j rfl
              have b38 : υ.2.1 38 = τ.2.1 38 := funext fun j => hu.2.1 38 j rfl
              have b39 : υ.2.1 39 = τ.2.1 39 := funext fun j => hu.2.1 39 j rfl
              refine zq (σ := υ) hV hIυ hnυ 4 ?_
              show ((υ.1 30 9) ≤ (nI v) → V 131 [(0, .ref 30), (1, .int w), (2, .int (nI u)), (3, .int (nI v))] [] υ) ∧ (¬ (υ.1 30 9) ≤ (nI v) → V 57 [(0, .ref 30), (1, .int w), (2, .int (nI u)), (3, .int (nI v))] [] υ)
              refine ⟨fun _ => ?_, fun hc => absurd (show υ.1 30 9 ≤ nI v by rw [hsυ]; exact zge_self (by omega)) hc⟩
              refine zq (σ := υ) hV hIυ hnυ 2 ?_
              show V 37 [(2, .int ((nI u) + 1)), (0, .ref 30), (1, .int w), (3, .int (nI v))] [] υ
              refine zwk hV [1, 2, 0] rfl ?_
              rw [nI_1]
              exact ihu (u + 1) υ (by omega) hu (zPw_row hw (by omega))
            | succ r ihv =>
              intro v υ hvm huv hu hw
              have hzυ := htM.tr (hu.wk zfX_M)
              have hIυ := zQI_eq hI hzυ.2.2
              have hnυ : υ.2.2.2 = σ.2.2.2 := congrArg Prod.snd hzυ.2.2
              have hsυ : υ.1 30 9 = nI (zMl (σ.1 30 8) m) := (hu.1 30 9 rfl).trans h9
              have b37 : υ.2.1 37 = τ.2.1 37 := funext fun j => hu.2.1 37 j rfl
              have b38 : υ.2.1 38 = τ.2.1 38 := funext fun j => hu.2.1 38 j rfl
              have b39 : υ.2.1 39 = τ.2.1 39 := funext fun j => hu.2.1 39 j rfl
              refine zq (σ := υ) hV hIυ hnυ 4 ?_
              show ((υ.1 30 9) ≤ (nI v) → V 131 [(0, .ref 30), (1, .int w), (2, .int (nI u)), (3, .int (nI v))] [] υ) ∧ (¬ (υ.1 30 9) ≤ (nI v) → V 57 [(0, .ref 30), (1, .int w), (2, .int (nI u)), (3, .int (nI v))] [] υ)
              refine ⟨fun hc => absurd hc (show ¬ υ.1 30 9 ≤ nI v by rw [hsυ]; exact nI_ge (by omega) (by omega)), fun _ => ?_⟩
              refine zq (σ := υ) hV hIυ hnυ 4 ?_
              show zSp _ 153 [.ref 30, .int (nI u), .int (nI v)] υ (fun r σ' => σ'.2.2.2 = υ.2.2.2 + zAl 153 → V 63 [(0, .ref 30), (1, .int w), (2, .int (nI u)), (3, .int (nI v))] (r.toList ++ []) σ')
              refine crosses_M hIυ (u := u) (v := v) (by omega) (by omega) hsυ hml (fun φ hf0 h13 h14 h15 h16 h17 hz _ => ?_) (fun φ hf0 h13 h14 h15 h16 h17 hz _ => ?_)
              · skip
                rw [b37, b38, b39] at h13 h14 h15 h16 h17 hz
                have hf := hu.tr hf0
                have hfM := htM.tr (hf.wk zfX_M)
                have hIφ := zQI_eq hI hfM.2.2
                have hnφ : φ.2.2.2 = σ.2.2.2 := congrArg Prod.snd hfM.2.2
                refine zq (σ := φ) hV hIφ hnφ 1 ?_
                show ((1 : Int32) = 0 → V 125 [(0, .ref 30), (1, .int w), (2, .int (nI u)), (3, .int (nI v))] [] φ) ∧ (¬ (1 : Int32) = 0 → V 66 [(0, .ref 30), (1, .int w), (2, .int (nI u)), (3, .int (nI v))] [] φ)
                refine ⟨fun hc => absurd hc (by decide), fun _ => ?_⟩
                refine zq (σ := φ) hV hIφ hnφ 3 ?_
                show ((φ.1 30 16) = 0 → V 80 [(0, .ref 30), (1, .int w), (2, .int (nI u)), (3, .int (nI v))] [] φ) ∧ (¬ (φ.1 30 16) = 0 → V 73 [(0, .ref 30), (1, .int w), (2, .int (nI u)), (3, .int (nI v))] [] φ)
                refine ⟨fun h_70 => ?_, fun h_70 => ?_⟩
                · skip
                  refine zq (σ := φ) hV hIφ hnφ 2 ?_
                  show (¬ w = 0 → V 91 [(0, .ref 30), (1, .int w), (2, .int (nI u)), (3, .int (nI v))] [] φ) ∧ (¬ (¬ w = 0) → V 84 [(0, .ref 30), (1, .int w), (2, .int (nI u)), (3, .int (nI v))] [] φ)
                  refine ⟨fun h_81 => ?_, fun h_81 => ?_⟩
                  · skip
                    refine zq (σ := φ) hV hIφ hnφ 3 ?_
                    show (¬ w = 1 → V 103 [(0, .ref 30), (1, .int w), (2, .int (nI u)), (3, .int (nI v))] [] φ) ∧ (¬ (¬ w = 1) → V 96 [(0, .ref 30), (1, .int w), (2, .int (nI u)), (3, .int (nI v))] [] φ)
                    refine ⟨fun h_93 => ?_, fun h_93 => ?_⟩
                    · skip
                      refine zq (σ := φ) hV hIφ hnφ 6 ?_
                      show ((φ.1 30 17) = 0 → V 122 [(4, .long (φ.2.1 30 15)), (0, .ref 30), (1, .int w), (2, .int (nI u)), (3, .int (nI v))] [] φ) ∧ (¬ (φ.1 30 17) = 0 → V 116 [(4, .long (φ.2.1 30 15)), (0, .ref 30), (1, .int w), (2, .int (nI u)), (3, .int (nI v))] [] φ)
                      refine ⟨fun h_113 => ?_, fun h_113 => ?_⟩
                      · skip
                        refine zq (σ := φ) hV hIφ hnφ 2 ?_
                        show K (some (.long (φ.2.1 30 15))) φ
                        have hfst : zFst (τ.2.1 37) (τ.2.1 38) (τ.2.1 39) (zMl (σ.1 30 8) m) u v := ⟨⟨huv, by omega, hz, (fun q => by rw [q.2] at h16; rw [h16] at h_70; exact absurd h_70 (by decide))⟩, hw⟩
                        have hbo : (zBe (τ.2.1 37) (τ.2.1 38) (τ.2.1 39) (zMl (σ.1 30 8) m) u v || zAe (τ.2.1 37) (τ.2.1 38) (τ.2.1 39) (zMl (σ.1 30 8) m) u v) = true := by
                          cases c : (zBe (τ.2.1 37) (τ.2.1 38) (τ.2.1 39) (zMl (σ.1 30 8) m) u v || zAe (τ.2.1 37) (τ.2.1 38) (τ.2.1 39) (zMl (σ.1 30 8) m) u v)
                          · rw [Bool.or_eq_false_iff] at c
                            exact absurd hfl (zLA (fun t ht0 => by rw [(hT t ht0).1, (hT t ht0).2.1, (hT t ht0).2.2]; exact zTB_T hB hfb hE hn10 hS t ht0) (by omega) (by omega) hz c.2 c.1)
                          · rfl
                        obtain ⟨f1, f2⟩ := zBe_congr hT (u := u) (v := v) (by omega) (by omega)
                        obtain ⟨x1, x2, x3⟩ := zNz_congr hT (u := u) (v := v) (by omega) (by omega)
                        have q := hVal φ u v hfM hb1 ((zFst_congr hT).mp hfst) (by rw [← f1, ← f2]; exact hbo)
                        rw [← f1, ← x1, ← x2, ← x3] at q
                        have hbe : zBe (τ.2.1 37) (τ.2.1 38) (τ.2.1 39) (zMl (σ.1 30 8) m) u v = false := zb_eq (h17.symm.trans h_113)
                        rw [hbe] at q
                        first | (rw [if_pos h_81] at q; rw [h13]; exact q) | (rw [if_neg h_81, if_pos h_93] at q; rw [h14]; exact q) | (rw [if_neg h_81, if_neg h_93] at q; rw [h15]; exact q)
                      · skip
                        refine zq (σ := φ) hV hIφ hnφ 4 ?_
                        show K (some (.long (-(φ.2.1 30 15)))) φ
                        have hfst : zFst (τ.2.1 37) (τ.2.1 38) (τ.2.1 39) (zMl (σ.1 30 8) m) u v := ⟨⟨huv, by omega, hz, (fun q => by rw [q.2] at h16; rw [h16] at h_70; exact absurd h_70 (by decide))⟩, hw⟩
                        have hbo : (zBe (τ.2.1 37) (τ.2.1 38) (τ.2.1 39) (zMl (σ.1 30 8) m) u v || zAe (τ.2.1 37) (τ.2.1 38) (τ.2.1 39) (zMl (σ.1 30 8) m) u v) = true := by
                          cases c : (zBe (τ.2.1 37) (τ.2.1 38) (τ.2.1 39) (zMl (σ.1 30 8) m) u v || zAe (τ.2.1 37) (τ.2.1 38) (τ.2.1 39) (zMl (σ.1 30 8) m) u v)
                          · rw [Bool.or_eq_false_iff] at c
                            exact absurd hfl (zLA (fun t ht0 => by rw [(hT t ht0).1, (hT t ht0).2.1, (hT t ht0).2.2]; exact zTB_T hB hfb hE hn10 hS t ht0) (by omega) (by omega) hz c.2 c.1)
                          · rfl
                        obtain ⟨f1, f2⟩ := zBe_congr hT (u := u) (v := v) (by omega) (by omega)
                        obtain ⟨x1, x2, x3⟩ := zNz_congr hT (u := u) (v := v) (by omega) (by omega)
                        have q := hVal φ u v hfM hb1 ((zFst_congr hT).mp hfst) (by rw [← f1, ← f2]; exact hbo)
                        rw [← f1, ← x1, ← x2, ← x3] at q
                        have hbe : zBe (τ.2.1 37) (τ.2.1 38) (τ.2.1 39) (zMl (σ.1 30 8) m) u v = true := zb_ne (fun q => h_113 (h17.trans q))
                        rw [hbe] at q
                        first | (rw [if_pos h_81] at q; rw [h13]; exact q) | (rw [if_neg h_81, if_pos h_93] at q; rw [h14]; exact q) | (rw [if_neg h_81, if_neg h_93] at q; rw [h15]; exact q)
                    · skip
                      have h_93 := Classical.not_not.mp h_93
                      refine zq (σ := φ) hV hIφ hnφ 7 ?_
                      show ((φ.1 30 17) = 0 → V 122 [(4, .long (φ.2.1 30 14)), (0, .ref 30), (1, .int w), (2, .int (nI u)), (3, .int (nI v))] [] φ) ∧ (¬ (φ.1 30 17) = 0 → V 116 [(4, .long (φ.2.1 30 14)), (0, .ref 30), (1, .int w), (2, .int (nI u)), (3, .int (nI v))] [] φ)
                      refine ⟨fun h_113 => ?_, fun h_113 => ?_⟩
                      · skip
                        refine zq (σ := φ) hV hIφ hnφ 2 ?_
                        show K (some (.long (φ.2.1 30 14))) φ
                        have hfst : zFst (τ.2.1 37) (τ.2.1 38) (τ.2.1 39) (zMl (σ.1 30 8) m) u v := ⟨⟨huv, by omega, hz, (fun q => by rw [q.2] at h16; rw [h16] at h_70; exact absurd h_70 (by decide))⟩, hw⟩
                        have hbo : (zBe (τ.2.1 37) (τ.2.1 38) (τ.2.1 39) (zMl (σ.1 30 8) m) u v || zAe (τ.2.1 37) (τ.2.1 38) (τ.2.1 39) (zMl (σ.1 30 8) m) u v) = true := by
                          cases c : (zBe (τ.2.1 37) (τ.2.1 38) (τ.2.1 39) (zMl (σ.1 30 8) m) u v || zAe (τ.2.1 37) (τ.2.1 38) (τ.2.1 39) (zMl (σ.1 30 8) m) u v)
                          · rw [Bool.or_eq_false_iff] at c
                            exact absurd hfl (zLA (fun t ht0 => by rw [(hT t ht0).1, (hT t ht0).2.1, (hT t ht0).2.2]; exact zTB_T hB hfb hE hn10 hS t ht0) (by omega) (by omega) hz c.2 c.1)
                          · rfl
                        obtain ⟨f1, f2⟩ := zBe_congr hT (u := u) (v := v) (by omega) (by omega)
                        obtain ⟨x1, x2, x3⟩ := zNz_congr hT (u := u) (v := v) (by omega) (by omega)
                        have q := hVal φ u v hfM hb1 ((zFst_congr hT).mp hfst) (by rw [← f1, ← f2]; exact hbo)
                        rw [← f1, ← x1, ← x2, ← x3] at q
                        have hbe : zBe (τ.2.1 37) (τ.2.1 38) (τ.2.1 39) (zMl (σ.1 30 8) m) u v = false := zb_eq (h17.symm.trans h_113)
                        rw [hbe] at q
                        first | (rw [if_pos h_81] at q; rw [h13]; exact q) | (rw [if_neg h_81, if_pos h_93] at q; rw [h14]; exact q) | (rw [if_neg h_81, if_neg h_93] at q; rw [h15]; exact q)
                      · skip
                        refine zq (σ := φ) hV hIφ hnφ 4 ?_
                        show K (some (.long (-(φ.2.1 30 14)))) φ
                        have hfst : zFst (τ.2.1 37) (τ.2.1 38) (τ.2.1 39) (zMl (σ.1 30 8) m) u v := ⟨⟨huv, by omega, hz, (fun q => by rw [q.2] at h16; rw [h16] at h_70; exact absurd h_70 (by decide))⟩, hw⟩
                        have hbo : (zBe (τ.2.1 37) (τ.2.1 38) (τ.2.1 39) (zMl (σ.1 30 8) m) u v || zAe (τ.2.1 37) (τ.2.1 38) (τ.2.1 39) (zMl (σ.1 30 8) m) u v) = true := by
                          cases c : (zBe (τ.2.1 37) (τ.2.1 38) (τ.2.1 39) (zMl (σ.1 30 8) m) u v || zAe (τ.2.1 37) (τ.2.1 38) (τ.2.1 39) (zMl (σ.1 30 8) m) u v)
                          · rw [Bool.or_eq_false_iff] at c
                            exact absurd hfl (zLA (fun t ht0 => by rw [(hT t ht0).1, (hT t ht0).2.1, (hT t ht0).2.2]; exact zTB_T hB hfb hE hn10 hS t ht0) (by omega) (by omega) hz c.2 c.1)
                          · rfl
                        obtain ⟨f1, f2⟩ := zBe_congr hT (u := u) (v := v) (by omega) (by omega)
                        obtain ⟨x1, x2, x3⟩ := zNz_congr hT (u := u) (v := v) (by omega) (by omega)
                        have q := hVal φ u v hfM hb1 ((zFst_congr hT).mp hfst) (by rw [← f1, ← f2]; exact hbo)
                        rw [← f1, ← x1, ← x2, ← x3] at q
                        have hbe : zBe (τ.2.1 37) (τ.2.1 38) (τ.2.1 39) (zMl (σ.1 30 8) m) u v = true := zb_ne (fun q => h_113 (h17.trans q))
                        rw [hbe] at q
                        first | (rw [if_pos h_81] at q; rw [h13]; exact q) | (rw [if_neg h_81, if_pos h_93] at q; rw [h14]; exact q) | (rw [if_neg h_81, if_neg h_93] at q; rw [h15]; exact q)
                  · skip
                    have h_81 := Classical.not_not.mp h_81
                    refine zq (σ := φ) hV hIφ hnφ 7 ?_
                    show ((φ.1 30 17) = 0 → V 122 [(4, .long (φ.2.1 30 13)), (0, .ref 30), (1, .int w), (2, .int (nI u)), (3, .int (nI v))] [] φ) ∧ (¬ (φ.1 30 17) = 0 → V 116 [(4, .long (φ.2.1 30 13)), (0, .ref 30), (1, .int w), (2, .int (nI u)), (3, .int (nI v))] [] φ)
                    refine ⟨fun h_113 => ?_, fun h_113 => ?_⟩
                    · skip
                      refine zq (σ := φ) hV hIφ hnφ 2 ?_
                      show K (some (.long (φ.2.1 30 13))) φ
                      have hfst : zFst (τ.2.1 37) (τ.2.1 38) (τ.2.1 39) (zMl (σ.1 30 8) m) u v := ⟨⟨huv, by omega, hz, (fun q => by rw [q.2] at h16; rw [h16] at h_70; exact absurd h_70 (by decide))⟩, hw⟩
                      have hbo : (zBe (τ.2.1 37) (τ.2.1 38) (τ.2.1 39) (zMl (σ.1 30 8) m) u v || zAe (τ.2.1 37) (τ.2.1 38) (τ.2.1 39) (zMl (σ.1 30 8) m) u v) = true := by
                        cases c : (zBe (τ.2.1 37) (τ.2.1 38) (τ.2.1 39) (zMl (σ.1 30 8) m) u v || zAe (τ.2.1 37) (τ.2.1 38) (τ.2.1 39) (zMl (σ.1 30 8) m) u v)
                        · rw [Bool.or_eq_false_iff] at c
                          exact absurd hfl (zLA (fun t ht0 => by rw [(hT t ht0).1, (hT t ht0).2.1, (hT t ht0).2.2]; exact zTB_T hB hfb hE hn10 hS t ht0) (by omega) (by omega) hz c.2 c.1)
                        · rfl
                      obtain ⟨f1, f2⟩ := zBe_congr hT (u := u) (v := v) (by omega) (by omega)
                      obtain ⟨x1, x2, x3⟩ := zNz_congr hT (u := u) (v := v) (by omega) (by omega)
                      have q := hVal φ u v hfM hb1 ((zFst_congr hT).mp hfst) (by rw [← f1, ← f2]; exact hbo)
                      rw [← f1, ← x1, ← x2, ← x3] at q
                      have hbe : zBe (τ.2.1 37) (τ.2.1 38) (τ.2.1 39) (zMl (σ.1 30 8) m) u v = false := zb_eq (h17.symm.trans h_113)
                      rw [hbe] at q
                      first | (rw [if_pos h_81] at q; rw [h13]; exact q) | (rw [if_neg h_81, if_pos h_93] at q; rw [h14]; exact q) | (rw [if_neg h_81, if_neg h_93] at q; rw [h15]; exact q)
                    · skip
                      refine zq (σ := φ) hV hIφ hnφ 4 ?_
                      show K (some (.long (-(φ.2.1 30 13)))) φ
                      have hfst : zFst (τ.2.1 37) (τ.2.1 38) (τ.2.1 39) (zMl (σ.1 30 8) m) u v := ⟨⟨huv, by omega, hz, (fun q => by rw [q.2] at h16; rw [h16] at h_70; exact absurd h_70 (by decide))⟩, hw⟩
                      have hbo : (zBe (τ.2.1 37) (τ.2.1 38) (τ.2.1 39) (zMl (σ.1 30 8) m) u v || zAe (τ.2.1 37) (τ.2.1 38) (τ.2.1 39) (zMl (σ.1 30 8) m) u v) = true := by
                        cases c : (zBe (τ.2.1 37) (τ.2.1 38) (τ.2.1 39) (zMl (σ.1 30 8) m) u v || zAe (τ.2.1 37) (τ.2.1 38) (τ.2.1 39) (zMl (σ.1 30 8) m) u v)
                        · rw [Bool.or_eq_false_iff] at c
                          exact absurd hfl (zLA (fun t ht0 => by rw [(hT t ht0).1, (hT t ht0).2.1, (hT t ht0).2.2]; exact zTB_T hB hfb hE hn10 hS t ht0) (by omega) (by omega) hz c.2 c.1)
                        · rfl
                      obtain ⟨f1, f2⟩ := zBe_congr hT (u := u) (v := v) (by omega) (by omega)
                      obtain ⟨x1, x2, x3⟩ := zNz_congr hT (u := u) (v := v) (by omega) (by omega)
                      have q := hVal φ u v hfM hb1 ((zFst_congr hT).mp hfst) (by rw [← f1, ← f2]; exact hbo)
                      rw [← f1, ← x1, ← x2, ← x3] at q
                      have hbe : zBe (τ.2.1 37) (τ.2.1 38) (τ.2.1 39) (zMl (σ.1 30 8) m) u v = true := zb_ne (fun q => h_113 (h17.trans q))
                      rw [hbe] at q
                      first | (rw [if_pos h_81] at q; rw [h13]; exact q) | (rw [if_neg h_81, if_pos h_93] at q; rw [h14]; exact q) | (rw [if_neg h_81, if_neg h_93] at q; rw [h15]; exact q)
                · skip
                  refine zq (σ := φ) hV hIφ hnφ 3 ?_
                  show (¬ (φ.1 30 17) = 0 → V 125 [(0, .ref 30), (1, .int w), (2, .int (nI u)), (3, .int (nI v))] [] φ) ∧ (¬ (¬ (φ.1 30 17) = 0) → V 80 [(0, .ref 30), (1, .int w), (2, .int (nI u)), (3, .int (nI v))] [] φ)
                  refine ⟨fun h_77 => ?_, fun h_77 => ?_⟩
                  · skip
                    refine zq (σ := φ) hV hIφ hnφ 2 ?_
                    show V 49 [(3, .int ((nI v) + 1)), (0, .ref 30), (1, .int w), (2, .int (nI u))] [] φ
                    refine zwk hV [1, 2, 3, 0] rfl ?_
                    rw [nI_1]
                    exact ihv (v + 1) φ (by omega) (by omega) hf (zPw_next hw (fun _ => ⟨zb_ne (fun q => h_77 (h17.trans q)), zb_ne (fun q => h_70 (h16.trans q))⟩))
                  · skip
                    have h_77 := Classical.not_not.mp h_77
                    refine zq (σ := φ) hV hIφ hnφ 2 ?_
                    show (¬ w = 0 → V 91 [(0, .ref 30), (1, .int w), (2, .int (nI u)), (3, .int (nI v))] [] φ) ∧ (¬ (¬ w = 0) → V 84 [(0, .ref 30), (1, .int w), (2, .int (nI u)), (3, .int (nI v))] [] φ)
                    refine ⟨fun h_81 => ?_, fun h_81 => ?_⟩
                    · skip
                      refine zq (σ := φ) hV hIφ hnφ 3 ?_
                      show (¬ w = 1 → V 103 [(0, .ref 30), (1, .int w), (2, .int (nI u)), (3, .int (nI v))] [] φ) ∧ (¬ (¬ w = 1) → V 96 [(0, .ref 30), (1, .int w), (2, .int (nI u)), (3, .int (nI v))] [] φ)
                      refine ⟨fun h_93 => ?_, fun h_93 => ?_⟩
                      · skip
                        refine zq (σ := φ) hV hIφ hnφ 6 ?_
                        show ((φ.1 30 17) = 0 → V 122 [(4, .long (φ.2.1 30 15)), (0, .ref 30), (1, .int w), (2, .int (nI u)), (3, .int (nI v))] [] φ) ∧ (¬ (φ.1 30 17) = 0 → V 116 [(4, .long (φ.2.1 30 15)), (0, .ref 30), (1, .int w), (2, .int (nI u)), (3, .int (nI v))] [] φ)
                        refine ⟨fun h_113 => ?_, fun h_113 => ?_⟩
                        · skip
                          refine zq (σ := φ) hV hIφ hnφ 2 ?_
                          show K (some (.long (φ.2.1 30 15))) φ
                          have hfst : zFst (τ.2.1 37) (τ.2.1 38) (τ.2.1 39) (zMl (σ.1 30 8) m) u v := ⟨⟨huv, by omega, hz, (fun q => by rw [q.1] at h17; rw [h17] at h_77; exact absurd h_77 (by decide))⟩, hw⟩
                          have hbo : (zBe (τ.2.1 37) (τ.2.1 38) (τ.2.1 39) (zMl (σ.1 30 8) m) u v || zAe (τ.2.1 37) (τ.2.1 38) (τ.2.1 39) (zMl (σ.1 30 8) m) u v) = true := by
                            cases c : (zBe (τ.2.1 37) (τ.2.1 38) (τ.2.1 39) (zMl (σ.1 30 8) m) u v || zAe (τ.2.1 37) (τ.2.1 38) (τ.2.1 39) (zMl (σ.1 30 8) m) u v)
                            · rw [Bool.or_eq_false_iff] at c
                              exact absurd hfl (zLA (fun t ht0 => by rw [(hT t ht0).1, (hT t ht0).2.1, (hT t ht0).2.2]; exact zTB_T hB hfb hE hn10 hS t ht0) (by omega) (by omega) hz c.2 c.1)
                            · rfl
                          obtain ⟨f1, f2⟩ := zBe_congr hT (u := u) (v := v) (by omega) (by omega)
                          obtain ⟨x1, x2, x3⟩ := zNz_congr hT (u := u) (v := v) (by omega) (by omega)
                          have q := hVal φ u v hfM hb1 ((zFst_congr hT).mp hfst) (by rw [← f1, ← f2]; exact hbo)
                          rw [← f1, ← x1, ← x2, ← x3] at q
                          have hbe : zBe (τ.2.1 37) (τ.2.1 38) (τ.2.1 39) (zMl (σ.1 30 8) m) u v = false := zb_eq (h17.symm.trans h_113)
                          rw [hbe] at q
                          first | (rw [if_pos h_81] at q; rw [h13]; exact q) | (rw [if_neg h_81, if_pos h_93] at q; rw [h14]; exact q) | (rw [if_neg h_81, if_neg h_93] at q; rw [h15]; exact q)
                        · skip
                          refine zq (σ := φ) hV hIφ hnφ 4 ?_
                          show K (some (.long (-(φ.2.1 30 15)))) φ
                          have hfst : zFst (τ.2.1 37) (τ.2.1 38) (τ.2.1 39) (zMl (σ.1 30 8) m) u v := ⟨⟨huv, by omega, hz, (fun q => by rw [q.1] at h17; rw [h17] at h_77; exact absurd h_77 (by decide))⟩, hw⟩
                          have hbo : (zBe (τ.2.1 37) (τ.2.1 38) (τ.2.1 39) (zMl (σ.1 30 8) m) u v || zAe (τ.2.1 37) (τ.2.1 38) (τ.2.1 39) (zMl (σ.1 30 8) m) u v) = true := by
                            cases c : (zBe (τ.2.1 37) (τ.2.1 38) (τ.2.1 39) (zMl (σ.1 30 8) m) u v || zAe (τ.2.1 37) (τ.2.1 38) (τ.2.1 39) (zMl (σ.1 30 8) m) u v)
                            · rw [Bool.or_eq_false_iff] at c
                              exact absurd hfl (zLA (fun t ht0 => by rw [(hT t ht0).1, (hT t ht0).2.1, (hT t ht0).2.2]; exact zTB_T hB hfb hE hn10 hS t ht0) (by omega) (by omega) hz c.2 c.1)
                            · rfl
                          obtain ⟨f1, f2⟩ := zBe_congr hT (u := u) (v := v) (by omega) (by omega)
                          obtain ⟨x1, x2, x3⟩ := zNz_congr hT (u := u) (v := v) (by omega) (by omega)
                          have q := hVal φ u v hfM hb1 ((zFst_congr hT).mp hfst) (by rw [← f1, ← f2]; exact hbo)
                          rw [← f1, ← x1, ← x2, ← x3] at q
                          have hbe : zBe (τ.2.1 37) (τ.2.1 38) (τ.2.1 39) (zMl (σ.1 30 8) m) u v = true := zb_ne (fun q => h_113 (h17.trans q))
                          rw [hbe] at q
                          first | (rw [if_pos h_81] at q; rw [h13]; exact q) | (rw [if_neg h_81, if_pos h_93] at q; rw [h14]; exact q) | (rw [if_neg h_81, if_neg h_93] at q; rw [h15]; exact q)
                      · skip
                        have h_93 := Classical.not_not.mp h_93
                        refine zq (σ := φ) hV hIφ hnφ 7 ?_
                        show ((φ.1 30 17) = 0 → V 122 [(4, .long (φ.2.1 30 14)), (0, .ref 30), (1, .int w), (2, .int (nI u)), (3, .int (nI v))] [] φ) ∧ (¬ (φ.1 30 17) = 0 → V 116 [(4, .long (φ.2.1 30 14)), (0, .ref 30), (1, .int w), (2, .int (nI u)), (3, .int (nI v))] [] φ)
                        refine ⟨fun h_113 => ?_, fun h_113 => ?_⟩
                        · skip
                          refine zq (σ := φ) hV hIφ hnφ 2 ?_
                          show K (some (.long (φ.2.1 30 14))) φ
                          have hfst : zFst (τ.2.1 37) (τ.2.1 38) (τ.2.1 39) (zMl (σ.1 30 8) m) u v := ⟨⟨huv, by omega, hz, (fun q => by rw [q.1] at h17; rw [h17] at h_77; exact absurd h_77 (by decide))⟩, hw⟩
                          have hbo : (zBe (τ.2.1 37) (τ.2.1 38) (τ.2.1 39) (zMl (σ.1 30 8) m) u v || zAe (τ.2.1 37) (τ.2.1 38) (τ.2.1 39) (zMl (σ.1 30 8) m) u v) = true := by
                            cases c : (zBe (τ.2.1 37) (τ.2.1 38) (τ.2.1 39) (zMl (σ.1 30 8) m) u v || zAe (τ.2.1 37) (τ.2.1 38) (τ.2.1 39) (zMl (σ.1 30 8) m) u v)
                            · rw [Bool.or_eq_false_iff] at c
                              exact absurd hfl (zLA (fun t ht0 => by rw [(hT t ht0).1, (hT t ht0).2.1, (hT t ht0).2.2]; exact zTB_T hB hfb hE hn10 hS t ht0) (by omega) (by omega) hz c.2 c.1)
                            · rfl
                          obtain ⟨f1, f2⟩ := zBe_congr hT (u := u) (v := v) (by omega) (by omega)
                          obtain ⟨x1, x2, x3⟩ := zNz_congr hT (u := u) (v := v) (by omega) (by omega)
                          have q := hVal φ u v hfM hb1 ((zFst_congr hT).mp hfst) (by rw [← f1, ← f2]; exact hbo)
                          rw [← f1, ← x1, ← x2, ← x3] at q
                          have hbe : zBe (τ.2.1 37) (τ.2.1 38) (τ.2.1 39) (zMl (σ.1 30 8) m) u v = false := zb_eq (h17.symm.trans h_113)
                          rw [hbe] at q
                          first | (rw [if_pos h_81] at q; rw [h13]; exact q) | (rw [if_neg h_81, if_pos h_93] at q; rw [h14]; exact q) | (rw [if_neg h_81, if_neg h_93] at q; rw [h15]; exact q)
                        · skip
                          refine zq (σ := φ) hV hIφ hnφ 4 ?_
                          show K (some (.long (-(φ.2.1 30 14)))) φ
                          have hfst : zFst (τ.2.1 37) (τ.2.1 38) (τ.2.1 39) (zMl (σ.1 30 8) m) u v := ⟨⟨huv, by omega, hz, (fun q => by rw [q.1] at h17; rw [h17] at h_77; exact absurd h_77 (by decide))⟩, hw⟩
                          have hbo : (zBe (τ.2.1 37) (τ.2.1 38) (τ.2.1 39) (zMl (σ.1 30 8) m) u v || zAe (τ.2.1 37) (τ.2.1 38) (τ.2.1 39) (zMl (σ.1 30 8) m) u v) = true := by
                            cases c : (zBe (τ.2.1 37) (τ.2.1 38) (τ.2.1 39) (zMl (σ.1 30 8) m) u v || zAe (τ.2.1 37) (τ.2.1 38) (τ.2.1 39) (zMl (σ.1 30 8) m) u v)
                            · rw [Bool.or_eq_false_iff] at c
                              exact absurd hfl (zLA (fun t ht0 => by rw [(hT t ht0).1, (hT t ht0).2.1, (hT t ht0).2.2]; exact zTB_T hB hfb hE hn10 hS t ht0) (by omega) (by omega) hz c.2 c.1)
                            · rfl
                          obtain ⟨f1, f2⟩ := zBe_congr hT (u := u) (v := v) (by omega) (by omega)
                          obtain ⟨x1, x2, x3⟩ := zNz_congr hT (u := u) (v := v) (by omega) (by omega)
                          have q := hVal φ u v hfM hb1 ((zFst_congr hT).mp hfst) (by rw [← f1, ← f2]; exact hbo)
                          rw [← f1, ← x1, ← x2, ← x3] at q
                          have hbe : zBe (τ.2.1 37) (τ.2.1 38) (τ.2.1 39) (zMl (σ.1 30 8) m) u v = true := zb_ne (fun q => h_113 (h17.trans q))
                          rw [hbe] at q
                          first | (rw [if_pos h_81] at q; rw [h13]; exact q) | (rw [if_neg h_81, if_pos h_93] at q; rw [h14]; exact q) | (rw [if_neg h_81, if_neg h_93] at q; rw [h15]; exact q)
                    · skip
                      have h_81 := Classical.not_not.mp h_81
                      refine zq (σ := φ) hV hIφ hnφ 7 ?_
                      show ((φ.1 30 17) = 0 → V 122 [(4, .long (φ.2.1 30 13)), (0, .ref 30), (1, .int w), (2, .int (nI u)), (3, .int (nI v))] [] φ) ∧ (¬ (φ.1 30 17) = 0 → V 116 [(4, .long (φ.2.1 30 13)), (0, .ref 30), (1, .int w), (2, .int (nI u)), (3, .int (nI v))] [] φ)
                      refine ⟨fun h_113 => ?_, fun h_113 => ?_⟩
                      · skip
                        refine zq (σ := φ) hV hIφ hnφ 2 ?_
                        show K (some (.long (φ.2.1 30 13))) φ
                        have hfst : zFst (τ.2.1 37) (τ.2.1 38) (τ.2.1 39) (zMl (σ.1 30 8) m) u v := ⟨⟨huv, by omega, hz, (fun q => by rw [q.1] at h17; rw [h17] at h_77; exact absurd h_77 (by decide))⟩, hw⟩
                        have hbo : (zBe (τ.2.1 37) (τ.2.1 38) (τ.2.1 39) (zMl (σ.1 30 8) m) u v || zAe (τ.2.1 37) (τ.2.1 38) (τ.2.1 39) (zMl (σ.1 30 8) m) u v) = true := by
                          cases c : (zBe (τ.2.1 37) (τ.2.1 38) (τ.2.1 39) (zMl (σ.1 30 8) m) u v || zAe (τ.2.1 37) (τ.2.1 38) (τ.2.1 39) (zMl (σ.1 30 8) m) u v)
                          · rw [Bool.or_eq_false_iff] at c
                            exact absurd hfl (zLA (fun t ht0 => by rw [(hT t ht0).1, (hT t ht0).2.1, (hT t ht0).2.2]; exact zTB_T hB hfb hE hn10 hS t ht0) (by omega) (by omega) hz c.2 c.1)
                          · rfl
                        obtain ⟨f1, f2⟩ := zBe_congr hT (u := u) (v := v) (by omega) (by omega)
                        obtain ⟨x1, x2, x3⟩ := zNz_congr hT (u := u) (v := v) (by omega) (by omega)
                        have q := hVal φ u v hfM hb1 ((zFst_congr hT).mp hfst) (by rw [← f1, ← f2]; exact hbo)
                        rw [← f1, ← x1, ← x2, ← x3] at q
                        have hbe : zBe (τ.2.1 37) (τ.2.1 38) (τ.2.1 39) (zMl (σ.1 30 8) m) u v = false := zb_eq (h17.symm.trans h_113)
                        rw [hbe] at q
                        first | (rw [if_pos h_81] at q; rw [h13]; exact q) | (rw [if_neg h_81, if_pos h_93] at q; rw [h14]; exact q) | (rw [if_neg h_81, if_neg h_93] at q; rw [h15]; exact q)
                      · skip
                        refine zq (σ := φ) hV hIφ hnφ 4 ?_
                        show K (some (.long (-(φ.2.1 30 13)))) φ
                        have hfst : zFst (τ.2.1 37) (τ.2.1 38) (τ.2.1 39) (zMl (σ.1 30 8) m) u v := ⟨⟨huv, by omega, hz, (fun q => by rw [q.1] at h17; rw [h17] at h_77; exact absurd h_77 (by decide))⟩, hw⟩
                        have hbo : (zBe (τ.2.1 37) (τ.2.1 38) (τ.2.1 39) (zMl (σ.1 30 8) m) u v || zAe (τ.2.1 37) (τ.2.1 38) (τ.2.1 39) (zMl (σ.1 30 8) m) u v) = true := by
                          cases c : (zBe (τ.2.1 37) (τ.2.1 38) (τ.2.1 39) (zMl (σ.1 30 8) m) u v || zAe (τ.2.1 37) (τ.2.1 38) (τ.2.1 39) (zMl (σ.1 30 8) m) u v)
                          · rw [Bool.or_eq_false_iff] at c
                            exact absurd hfl (zLA (fun t ht0 => by rw [(hT t ht0).1, (hT t ht0).2.1, (hT t ht0).2.2]; exact zTB_T hB hfb hE hn10 hS t ht0) (by omega) (by omega) hz c.2 c.1)
                          · rfl
                        obtain ⟨f1, f2⟩ := zBe_congr hT (u := u) (v := v) (by omega) (by omega)
                        obtain ⟨x1, x2, x3⟩ := zNz_congr hT (u := u) (v := v) (by omega) (by omega)
                        have q := hVal φ u v hfM hb1 ((zFst_congr hT).mp hfst) (by rw [← f1, ← f2]; exact hbo)
                        rw [← f1, ← x1, ← x2, ← x3] at q
                        have hbe : zBe (τ.2.1 37) (τ.2.1 38) (τ.2.1 39) (zMl (σ.1 30 8) m) u v = true := zb_ne (fun q => h_113 (h17.trans q))
                        rw [hbe] at q
                        first | (rw [if_pos h_81] at q; rw [h13]; exact q) | (rw [if_neg h_81, if_pos h_93] at q; rw [h14]; exact q) | (rw [if_neg h_81, if_neg h_93] at q; rw [h15]; exact q)
              · skip
                rw [b37, b38, b39] at h13 h14 h15 h16 h17 hz
                have hf := hu.tr hf0
                have hfM := htM.tr (hf.wk zfX_M)
                have hIφ := zQI_eq hI hfM.2.2
                have hnφ : φ.2.2.2 = σ.2.2.2 := congrArg Prod.snd hfM.2.2
                refine zq (σ := φ) hV hIφ hnφ 1 ?_
                show ((0 : Int32) = 0 → V 125 [(0, .ref 30), (1, .int w), (2, .int (nI u)), (3, .int (nI v))] [] φ) ∧ (¬ (0 : Int32) = 0 → V 66 [(0, .ref 30), (1, .int w), (2, .int (nI u)), (3, .int (nI v))] [] φ)
                refine ⟨fun _ => ?_, fun hc => absurd (by decide) hc⟩
                refine zq (σ := φ) hV hIφ hnφ 2 ?_
                show V 49 [(3, .int ((nI v) + 1)), (0, .ref 30), (1, .int w), (2, .int (nI u))] [] φ
                refine zwk hV [1, 2, 3, 0] rfl ?_
                rw [nI_1]
                exact ihv (v + 1) φ (by omega) (by omega) hf (zPw_next hw (fun q => absurd q hz))
          exact Hv ((zMl (σ.1 30 8) m) - (u + 1)) (u + 1) ρ (by omega) (by omega) hr hwO
      exact Hu (zMl (σ.1 30 8) m) 0 χ (by omega) hx0 zPw_0
    · skip
      have hx := htM.tr (hx0.wk zfX_M)
      have hIχ := zQI_eq hI hx.2.2
      have hnχ : χ.2.2.2 = σ.2.2.2 := congrArg Prod.snd hx.2.2
      refine zq (σ := χ) hV hIχ hnχ 1 ?_
      show (¬ (0 : Int32) = 0 → V 35 [(0, .ref 30), (1, .int w)] [] χ) ∧ (¬ (¬ (0 : Int32) = 0) → V 29 [(0, .ref 30), (1, .int w)] [] χ)
      refine ⟨fun hc => absurd hc (by decide), fun _ => ?_⟩
      refine zq (σ := χ) hV hIχ hnχ 2 ?_
      show zSp _ 132 [.int (-3)] χ (fun r σ' => σ'.2.2.2 = χ.2.2.2 + zAl 132 → V 34 [(0, .ref 30), (1, .int w)] (r.toList ++ []) σ')
      refine no_M  (fun _ => ?_)
      refine zq (σ := χ) hV hIχ hnχ 1 ?_
      show K (some (.long (zRf (-3)))) χ
      refine hNo χ hx hb1 (fun u1 v1 q => ?_)
      have q2 := (zFst_congr hT).mpr q
      obtain ⟨f1, f2⟩ := zBe_congr hT (u := u1) (v := v1) (by have := q.1.1; have := q.1.2.1; omega) q.1.2.1
      rw [← f1, ← f2]
      cases c : (zBe (τ.2.1 37) (τ.2.1 38) (τ.2.1 39) (zMl (σ.1 30 8) m) u1 v1 || zAe (τ.2.1 37) (τ.2.1 38) (τ.2.1 39) (zMl (σ.1 30 8) m) u1 v1)
      · rfl
      · exact absurd ⟨u1, v1, q2.1.1, q2.1.2.1, q2.1.2.2.1, (Bool.or_eq_true_iff.mp c).symm⟩ hfl
  · skip
    refine zq (σ := σ) hV hI rfl 1 ?_
    show (¬ (0 : Int32) = 0 → V 18 [(0, .ref 30), (1, .int w)] [] σ) ∧ (¬ (¬ (0 : Int32) = 0) → V 12 [(0, .ref 30), (1, .int w)] [] σ)
    refine ⟨fun hc => absurd hc (by decide), fun _ => ?_⟩
    refine zq (σ := σ) hV hI rfl 2 ?_
    show zSp _ 132 [.int (-2)] σ (fun r σ' => σ'.2.2.2 = σ.2.2.2 + zAl 132 → V 17 [(0, .ref 30), (1, .int w)] (r.toList ++ []) σ')
    refine no_M  (fun _ => ?_)
    refine zq (σ := σ) hV hI rfl 1 ?_
    show K (some (.long (zRf (-2)))) σ
    exact hBad hb1
