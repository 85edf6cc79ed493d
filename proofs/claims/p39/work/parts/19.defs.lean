def zb (o : Bool) : Int32 := match o with
  | true => 1
  | false => 0
def zNx (n i : Nat) : Nat := if i + 1 < n then i + 1 else 0
theorem zNx_lt {n i : Nat} (h : i < n) : zNx n i < n := by unfold zNx; split <;> omega
def zTu (n : Nat) (X Y : Nat → Int32) (i : Nat) : Int32 := X i * Y (zNx n i) - Y i * X (zNx n i)
def zAr (n : Nat) (X Y : Nat → Int32) : Nat → Int32
  | 0 => 0
  | i + 1 => zAr n X Y i + zTu n X Y i
def zMx (n : Nat) (X Y : Nat → Int32) : Nat → Int32
  | 0 => 0
  | i + 1 => zMx n X Y i + (X i + X (zNx n i)) * zTu n X Y i
def zMy (n : Nat) (X Y : Nat → Int32) : Nat → Int32
  | 0 => 0
  | i + 1 => zMy n X Y i + (Y i + Y (zNx n i)) * zTu n X Y i
def zfx (X : Nat → Int32) (px : Int32) (i : Nat) : Int32 := 8 * X i - px
def zTn (X Y : Nat → Int32) (px py : Int32) (i j : Nat) : Int32 := zfx X px i * zfx Y py j - zfx Y py i * zfx X px j
def zCr (fy ty t : Int32) : Bool := decide ((0 < ty ∧ fy ≤ 0 ∧ 0 < t) ∨ (ty ≤ 0 ∧ 0 < fy ∧ t < 0))
def zOn (fx fy tx ty t : Int32) : Bool := decide (t = 0 ∧ fx * tx ≤ 0 ∧ fy * ty ≤ 0)
def zSd (n : Nat) (X Y : Nat → Int32) (px py : Int32) : Nat → Nat → Bool → Int32
  | 0, _, o => zb o
  | k + 1, i, o => match zOn (zfx X px i) (zfx Y py i) (zfx X px (zNx n i)) (zfx Y py (zNx n i)) (zTn X Y px py i (zNx n i)) with
    | true => 2
    | false => zSd n X Y px py k (i + 1) (match zCr (zfx Y py i) (zfx Y py (zNx n i)) (zTn X Y px py i (zNx n i)) with
      | true => !o
      | false => o)
/-- a place in eighths: 0 out, 1 in, 2 on the rim -/
def zSide (n : Nat) (X Y : Nat → Int32) (px py : Int32) : Int32 := zSd n X Y px py n 0 false
/-- which ints may have changed -/
def zOnly (f : Nat → Nat → Bool) (σ τ : zSt) : Prop := (∀ a j, f a j = false → τ.1 a j = σ.1 a j) ∧ (∀ a j, f a j = false → τ.2.1 a j = σ.2.1 a j) ∧ τ.2.2 = σ.2.2
theorem zOnly.rf {f : Nat → Nat → Bool} {σ : zSt} : zOnly f σ σ := ⟨fun _ _ _ => rfl, fun _ _ _ => rfl, rfl⟩
theorem zOnly.tr {f : Nat → Nat → Bool} {σ τ υ : zSt} (h : zOnly f σ τ) (h2 : zOnly f τ υ) : zOnly f σ υ := ⟨fun a j q => (h2.1 a j q).trans (h.1 a j q), fun a j q => (h2.2.1 a j q).trans (h.2.1 a j q), h2.2.2.trans h.2.2⟩
theorem zOnly.wk {f g : Nat → Nat → Bool} {σ τ : zSt} (h : zOnly f σ τ) (hg : ∀ a j, g a j = false → f a j = false) : zOnly g σ τ := ⟨fun a j q => h.1 a j (hg a j q), fun a j q => h.2.1 a j (hg a j q), h.2.2⟩
theorem zuI_get (σ : zSt) (a j : Nat) (v : Int32) (b k : Nat) : (zuI σ a j v).1 b k = if b = a ∧ k = j then v else σ.1 b k := by
  show (if b = a then upd (σ.1 b) j v else σ.1 b) k = _
  by_cases h : b = a
  · rw [if_pos h]; unfold upd
    by_cases h2 : k = j
    · rw [if_pos h2, if_pos ⟨h, h2⟩]
    · rw [if_neg h2, if_neg (fun q => h2 q.2)]
  · rw [if_neg h, if_neg (fun q => h q.1)]
theorem zuJ_get (σ : zSt) (a j : Nat) (v : Int64) (b k : Nat) : (zuJ σ a j v).2.1 b k = if b = a ∧ k = j then v else σ.2.1 b k := by
  show (if b = a then vp_updL (σ.2.1 b) j v else σ.2.1 b) k = _
  by_cases h : b = a
  · rw [if_pos h]; unfold vp_updL
    by_cases h2 : k = j
    · rw [if_pos h2, if_pos ⟨h, h2⟩]
    · rw [if_neg h2, if_neg (fun q => h2 q.2)]
  · rw [if_neg h, if_neg (fun q => h q.1)]
theorem zOnly.uI {f : Nat → Nat → Bool} {σ τ : zSt} (h : zOnly f σ τ) {a j : Nat} {v : Int32} (ha : f a j = true) : zOnly f σ (zuI τ a j v) := ⟨fun b k q => by
  rw [zuI_get, if_neg (by rintro ⟨rfl, rfl⟩; rw [ha] at q; cases q)]; exact h.1 b k q, h.2.1, h.2.2⟩
theorem zOnly.uJ {f : Nat → Nat → Bool} {σ τ : zSt} (h : zOnly f σ τ) {a j : Nat} {v : Int64} (ha : f a j = true) : zOnly f σ (zuJ τ a j v) := ⟨h.1, fun b k q => by
  rw [zuJ_get, if_neg (by rintro ⟨rfl, rfl⟩; rw [ha] at q; cases q)]; exact h.2.1 b k q, h.2.2⟩
theorem zSt_ext {σ τ : zSt} (h1 : ∀ a j, σ.1 a j = τ.1 a j) (h2 : ∀ a j, σ.2.1 a j = τ.2.1 a j) (h3 : σ.2.2 = τ.2.2) : σ = τ :=
  Prod.ext (funext fun a => funext fun j => h1 a j) (Prod.ext (funext fun a => funext fun j => h2 a j) h3)
theorem zQI_eq {Kn : Nat → Bool} {q q' : (Nat → Nat → Value) × Nat} (h : zQI Kn q) (e : q' = q) : zQI Kn q' := by rw [e]; exact h
