def zBtm {lo hi lo' hi' : Int} {v : Int32} (h : zBt lo hi v) (h1 : lo' ≤ lo) (h2 : hi ≤ hi') : zBt lo' hi' v := ⟨Int.le_trans h1 h.1, Int.le_trans h.2 h2⟩
theorem zsubB {x y : Int32} {A B : Int} (hx : zBt (-A) A x) (hy : zBt (-B) B y) (h : A + B ≤ 2147483647) : (x - y).toInt = x.toInt - y.toInt ∧ zBt (-(A + B)) (A + B) (x - y) := by
  unfold zBt at *
  have e := zsub (x := x) (y := y) (by omega)
  rw [e]; exact ⟨rfl, by omega, by omega⟩
theorem zaddB {x y : Int32} {A B : Int} (hx : zBt (-A) A x) (hy : zBt (-B) B y) (h : A + B ≤ 2147483647) : (x + y).toInt = x.toInt + y.toInt ∧ zBt (-(A + B)) (A + B) (x + y) := by
  unfold zBt at *
  have e := zadd (x := x) (y := y) (by omega)
  rw [e]; exact ⟨rfl, by omega, by omega⟩
theorem zmulB2 {x y : Int32} {A B : Int} (hx : zBt (-A) A x) (hy : zBt (-B) B y) (h : A * B ≤ 2147483647) : zBt (-(A * B)) (A * B) (x * y) := by
  obtain ⟨e, h1⟩ := zmulB hx hy h
  unfold zBt; rw [e]; exact h1
/-- bounds of a finger's numbers -/
theorem zpxB {x d s : Int32} (hx : zBt (-30) 30 x) (hd : zBt (-60) 60 d) (hs : zBt 0 8 s) : zBt (-720) 720 (8 * x + s * d) :=
  (zaddB (A := 240) (B := 480) (zmulB2 (A := 8) (B := 30) ⟨by decide, by decide⟩ hx (by decide)) (zmulB2 (A := 8) (B := 60) (zBtm hs (by decide) (by decide)) hd (by decide)) (by decide)).2
theorem zpqB {a d f : Int32} {c : Int32} (hc : zBt (-16) 16 c) (ha : zBt (-60) 60 a) (hd : zBt (-60) 60 d) (hf : zBt 0 16 f) : zBt (-1920) 1920 (c * a + f * d) ∧ zBt (-1920) 1920 (c * a - f * d) :=
  have h1 := zmulB2 (A := 16) (B := 60) hc ha (by decide)
  have h2 := zmulB2 (A := 16) (B := 60) (zBtm hf (by decide) (by decide)) hd (by decide)
  ⟨(zaddB (A := 960) (B := 960) h1 h2 (by decide)).2, (zsubB (A := 960) (B := 960) h1 h2 (by decide)).2⟩
theorem zl3 {x y p q : Int32} (hx : zBt (-720) 720 x) (hy : zBt (-720) 720 y) (hp : zBt (-1920) 1920 p) (hq : zBt (-1920) 1920 q) : Int32.toInt64 x * Int32.toInt64 q - Int32.toInt64 y * Int32.toInt64 p = Int32.toInt64 (x * q - y * p) ∧ zBt (-2764800) 2764800 (x * q - y * p) := by
  obtain ⟨e1, b1⟩ := zmulB (A := 720) (B := 1920) hx hq (by decide)
  obtain ⟨e2, b2⟩ := zmulB (A := 720) (B := 1920) hy hp (by decide)
  have e3 := zsub (x := x * q) (y := y * p) (by rw [e1, e2]; omega)
  have f1 : (Int32.toInt64 x * Int32.toInt64 q).toInt = x.toInt * q.toInt := by rw [zmul64 (by rw [zL, zL]; omega), zL, zL]
  have f2 : (Int32.toInt64 y * Int32.toInt64 p).toInt = y.toInt * p.toInt := by rw [zmul64 (by rw [zL, zL]; omega), zL, zL]
  refine ⟨?_, ?_⟩
  · rw [zeq64, zL, e3, e1, e2, zsub64 (by rw [f1, f2]; omega), f1, f2]
  · unfold zBt; rw [e3, e1, e2]; omega
def zHB (n : Nat) (X Y : Nat → Int32) : Prop := ∀ j, j < n → zBt (-30) 30 (X j) ∧ zBt (-30) 30 (Y j)
