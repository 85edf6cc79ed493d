def zBtm {lo hi lo' hi' : Int} {v : Int32} (h : zBt lo hi v) (h1 : lo' ≤ lo) (h2 : hi ≤ hi') : zBt lo' hi' v := ⟨Int.le_trans h1 h.1, Int.le_trans h.2 h2⟩
theorem zsubB {x y : Int32} {A B : Int} (hx : zBt (-A) A x) (hy : zBt (-B) B y) (h : A + B ≤ 2147483647) : (x - y).toInt = x.toInt - y.toInt ∧ zBt (-(A + B)) (A + B) (x - y) := by
  unfold zBt at *
  have e := zsub (x := x) (y := y) (by omega)
  rw [e]; exact ⟨rfl, by omega, by omega⟩
theorem zaddB {x y : Int32} {A B : Int} (hx : zBt (-A) A x) (hy : zBt (-B) B y) (h : A + B ≤ 2147483647) : (x + y).toInt = x.toInt + y.toInt ∧ zBt (-(A + B)) (A + B) (x + y) := by
  unfold zBt at *
  have e := zadd (x := x) (y := y) (by omega)
  rw [e]; exact ⟨rfl, by omega, by omega⟩
theorem zmulB2 {x y : Int32} {A B : Int} (hx : zBt (-A) A x) (hy : zBt (-B) B y) (h : A * B ≤ 2147483647) : zBt (-(A * B)) (A * B) (x * y) := by
  obtain ⟨e, h1⟩ := zmulB hx hy h
  unfold zBt; rw [e]; exact h1
/-- bounds of a finger's numbers -/
theorem zpxB {x d s : Int32} (hx : zBt (-30) 30 x) (hd : zBt (-60) 60 d) (hs : zBt 0 8 s) : zBt (-720) 720 (8 * x + s * d) :=
  (zaddB (A := 240) (B := 480) (zmulB2 (A := 8) (B := 30) ⟨by decide, by decide⟩ hx (by decide)) (zmulB2 (A := 8) (B := 60) (zBtm hs (by decide) (by decide)) hd (by decide)) (by decide)).2
theorem zpqB {a d f : Int32} {c : Int32} (hc : zBt (-16) 16 c) (ha : zBt (-60) 60 a) (hd : zBt (-60) 60 d) (hf : zBt 0 16 f) : zBt (-1920) 1920 (c * a + f * d) ∧ zBt (-1920) 1920 (c * a - f * d) :=
  have h1 := zmulB2 (A := 16) (B := 60) hc ha (by decide)
  have h2 := zmulB2 (A := 16) (B := 60) (zBtm hf (by decide) (by decide)) hd (by decide)
  ⟨(zaddB (A := 960) (B := 960) h1 h2 (by decide)).2, (zsubB (A := 960) (B := 960) h1 h2 (by decide)).2⟩
theorem zl3 {x y p q : Int32} (hx : zBt (-720) 720 x) (hy : zBt (-720) 720 y) (hp : zBt (-1920) 1920 p) (hq : zBt (-1920) 1920 q) : Int32.toInt64 x * Int32.toInt64 q - Int32.toInt64 y * Int32.toInt64 p = Int32.toInt64 (x * q - y * p) ∧ zBt (-2764800) 2764800 (x * q - y * p) := by
  obtain ⟨e1, b1⟩ := zmulB (A := 720) (B := 1920) hx hq (by decide)
  obtain ⟨e2, b2⟩ := zmulB (A := 720) (B := 1920) hy hp (by decide)
  have e3 := zsub (x := x * q) (y := y * p) (by rw [e1, e2]; omega)
  have f1 : (Int32.toInt64 x * Int32.toInt64 q).toInt = x.toInt * q.toInt := by rw [zmul64 (by rw [zL, zL]; omega), zL, zL]
  have f2 : (Int32.toInt64 y * Int32.toInt64 p).toInt = y.toInt * p.toInt := by rw [zmul64 (by rw [zL, zL]; omega), zL, zL]
  refine ⟨?_, ?_⟩
  · rw [zeq64, zL, e3, e1, e2, zsub64 (by rw [f1, f2]; omega), f1, f2]
  · unfold zBt; rw [e3, e1, e2]; omega
def zTkM (n : Nat) (X Y : Nat → Int32) (f : Int32) (E S : Nat → Int32) (m : Nat) (τ : zSt) : Prop := ∀ t, t < m → τ.2.1 37 t = zl (zT1 n X Y f E) t ∧ τ.2.1 38 t = zl (zT2 n X Y f E) t ∧ τ.2.1 39 t = zl (zT3 n X Y f E S) t
def zfLy (a j : Nat) : Bool := (Nat.beq a 30 && Nat.beq j 9) || (Nat.ble 37 a && Nat.ble a 39)
def zHB (n : Nat) (X Y : Nat → Int32) : Prop := ∀ j, j < n → zBt (-30) 30 (X j) ∧ zBt (-30) 30 (Y j)
set_option maxRecDepth 8000 in
set_option maxHeartbeats 4000000 in
theorem lay_M {d : Nat} {σ : zSt} {K : Option Value → zSt → Prop} {x y pp q : Int32} {t : Nat} (hI : zQI (kR 30 52) σ.2.2) (hs : σ.1 30 9 = nI t) (ht : t < 16) (hK : K none (zuI (zuJ (zuJ (zuJ σ 37 t (Int32.toInt64 pp)) 38 t (Int32.toInt64 q)) 39 t (Int32.toInt64 x * Int32.toInt64 q - Int32.toInt64 y * Int32.toInt64 pp)) 30 9 (nI (t + 1)))) : zSp (d + 1) mX9_lay [.ref 30, .int x, .int y, .int pp, .int q] σ K := by
  refine ⟨⟨by decide, Nat.le_of_ble_eq_true rfl⟩, fun V hV => ?_⟩
  refine zq (σ := σ) hV hI rfl 7 ?_
  show vp_in (σ.1 30 9) 16 ∧ V 11 [(0, .ref 30), (1, .int x), (2, .int y), (3, .int pp), (4, .int q)] [] (zuJ σ 37 (Int32.toNatClampNeg (σ.1 30 9)) (Int32.toInt64 pp))
  refine ⟨zix (k := t) hs (by omega) (by decide), ?_⟩
  rw [zcl_k (i := (σ.1 30 9)) (k := t) hs (by omega)]
  refine zq (σ := (zuJ σ 37 t (Int32.toInt64 pp))) hV hI rfl 7 ?_
  show vp_in (σ.1 30 9) 16 ∧ V 23 [(0, .ref 30), (1, .int x), (2, .int y), (3, .int pp), (4, .int q)] [] (zuJ (zuJ σ 37 t (Int32.toInt64 pp)) 38 (Int32.toNatClampNeg (σ.1 30 9)) (Int32.toInt64 q))
  refine ⟨zix (k := t) hs (by omega) (by decide), ?_⟩
  rw [zcl_k (i := (σ.1 30 9)) (k := t) hs (by omega)]
  refine zq (σ := (zuJ (zuJ σ 37 t (Int32.toInt64 pp)) 38 t (Int32.toInt64 q))) hV hI rfl 16 ?_
  show vp_in (σ.1 30 9) 16 ∧ V 44 [(0, .ref 30), (1, .int x), (2, .int y), (3, .int pp), (4, .int q)] [] (zuJ (zuJ (zuJ σ 37 t (Int32.toInt64 pp)) 38 t (Int32.toInt64 q)) 39 (Int32.toNatClampNeg (σ.1 30 9)) (((Int32.toInt64 x) * (Int32.toInt64 q)) - ((Int32.toInt64 y) * (Int32.toInt64 pp))))
  refine ⟨zix (k := t) hs (by omega) (by decide), ?_⟩
  rw [zcl_k (i := (σ.1 30 9)) (k := t) hs (by omega)]
  refine zq (σ := (zuJ (zuJ (zuJ σ 37 t (Int32.toInt64 pp)) 38 t (Int32.toInt64 q)) 39 t (((Int32.toInt64 x) * (Int32.toInt64 q)) - ((Int32.toInt64 y) * (Int32.toInt64 pp))))) hV hI rfl 7 ?_
  show K none (zuI (zuJ (zuJ (zuJ σ 37 t (Int32.toInt64 pp)) 38 t (Int32.toInt64 q)) 39 t (((Int32.toInt64 x) * (Int32.toInt64 q)) - ((Int32.toInt64 y) * (Int32.toInt64 pp)))) 30 9 ((σ.1 30 9) + 1))
  rw [show (σ.1 30 9) + 1 = nI (t + 1) by rw [hs, nI_1]]
  exact hK
theorem zuI_2 (σ : zSt) (a j : Nat) (v : Int32) : (zuI σ a j v).2.1 = σ.2.1 := rfl
theorem zuJ_1 (σ : zSt) (a j : Nat) (v : Int64) : (zuJ σ a j v).1 = σ.1 := rfl
set_option maxRecDepth 8000 in
set_option maxHeartbeats 4000000 in
theorem lays_M {d : Nat} {σ : zSt} {K : Option Value → zSt → Prop} {n i e : Nat} {X Y E S : Nat → Int32} {f : Int32} (hI : zQI (kR 30 52) σ.2.2) (hn : σ.1 30 0 = nI n) (hn10 : n ≤ 10) (hX : σ.1 31 = X) (hY : σ.1 32 = Y) (hf : σ.1 30 8 = f) (hB : zHB n X Y) (hfb : zBt 0 16 f) (he : E i = nI e) (hen : e < n) (hS : zBt 0 8 (S i)) (hi : i < 8) (ht9 : σ.1 30 9 = nI (zMl f i)) (hT : zTkM n X Y f E S (zMl f i) σ)
    (hK : ∀ τ, zOnly zfLy σ τ → τ.1 30 9 = nI (zMl f (i + 1)) → zTkM n X Y f E S (zMl f (i + 1)) τ → K none τ) : zSp (d + 2) mX9_lays [.ref 30, .int (nI e), .int (S i)] σ K := by
  refine ⟨⟨by decide, Nat.le_of_ble_eq_true rfl⟩, fun V hV => ?_⟩
  subst hX
  subst hY
  subst hf
  have hze := zNx_lt hen
  have hml := @zMl_le (σ.1 30 8) (i + 1) (by omega)
  have hm1 : zMl (σ.1 30 8) i < 16 ∧ (¬ σ.1 30 8 = 0 → zMl (σ.1 30 8) i + 1 < 16) := by unfold zMl at hml ⊢; split <;> rename_i q <;> simp only [q, if_true, if_false] at hml <;> omega
  have hZ : zEd E i = e := by unfold zEd; rw [he]; exact nI_clamp (by omega)
  have dxb := (zsubB (A := 30) (B := 30) (hB _ hze).1 (hB e hen).1 (by decide)).2
  have dyb := (zsubB (A := 30) (B := 30) (hB _ hze).2 (hB e hen).2 (by decide)).2
  have bx := zpxB (hB e hen).1 dxb hS
  have by0 := zpxB (hB e hen).2 dyb hS
  have q1 := zpqB (c := -16) ⟨by decide, by decide⟩ dyb dxb hfb
  have q2 := zpqB (c := 16) ⟨by decide, by decide⟩ dxb dyb hfb
  refine zq (σ := σ) hV hI rfl 5 ?_
  show zSp _ 133 [.ref 30, .int (nI e)] σ (fun r σ' => σ'.2.2.2 = σ.2.2.2 + zAl 133 → V 9 [(0, .ref 30), (1, .int (nI e)), (2, .int (S i))] (r.toList ++ [.ref 31]) σ')
  refine next_M hI hn hn10 (k := e) (by omega) (fun _ => ?_)
  refine zq (σ := σ) hV hI rfl 1 ?_
  show vp_in (nI (zNx n e)) 10 ∧ V 10 [(0, .ref 30), (1, .int (nI e)), (2, .int (S i))] [.int (σ.1 31 (Int32.toNatClampNeg (nI (zNx n e))))] σ
  refine ⟨zix (k := (zNx n e)) rfl (by omega) (by decide), ?_⟩
  rw [zcl_k (i := (nI (zNx n e))) (k := (zNx n e)) rfl (by omega)]
  refine zq (σ := σ) hV hI rfl 4 ?_
  show vp_in (nI e) 10 ∧ V 16 [(0, .ref 30), (1, .int (nI e)), (2, .int (S i))] [.int (σ.1 31 (Int32.toNatClampNeg (nI e))), .int (σ.1 31 (zNx n e))] σ
  refine ⟨zix (k := e) rfl (by omega) (by decide), ?_⟩
  rw [zcl_k (i := (nI e)) (k := e) rfl (by omega)]
  refine zq (σ := σ) hV hI rfl 7 ?_
  show zSp _ 133 [.ref 30, .int (nI e)] σ (fun r σ' => σ'.2.2.2 = σ.2.2.2 + zAl 133 → V 27 [(3, .int ((σ.1 31 (zNx n e)) - (σ.1 31 e))), (0, .ref 30), (1, .int (nI e)), (2, .int (S i))] (r.toList ++ [.ref 32]) σ')
  refine next_M hI hn hn10 (k := e) (by omega) (fun _ => ?_)
  refine zq (σ := σ) hV hI rfl 1 ?_
  show vp_in (nI (zNx n e)) 10 ∧ V 28 [(3, .int ((σ.1 31 (zNx n e)) - (σ.1 31 e))), (0, .ref 30), (1, .int (nI e)), (2, .int (S i))] [.int (σ.1 32 (Int32.toNatClampNeg (nI (zNx n e))))] σ
  refine ⟨zix (k := (zNx n e)) rfl (by omega) (by decide), ?_⟩
  rw [zcl_k (i := (nI (zNx n e))) (k := (zNx n e)) rfl (by omega)]
  refine zq (σ := σ) hV hI rfl 4 ?_
  show vp_in (nI e) 10 ∧ V 34 [(3, .int ((σ.1 31 (zNx n e)) - (σ.1 31 e))), (0, .ref 30), (1, .int (nI e)), (2, .int (S i))] [.int (σ.1 32 (Int32.toNatClampNeg (nI e))), .int (σ.1 32 (zNx n e))] σ
  refine ⟨zix (k := e) rfl (by omega) (by decide), ?_⟩
  rw [zcl_k (i := (nI e)) (k := e) rfl (by omega)]
  refine zq (σ := σ) hV hI rfl 7 ?_
  show vp_in (nI e) 10 ∧ V 45 [(4, .int ((σ.1 32 (zNx n e)) - (σ.1 32 e))), (3, .int ((σ.1 31 (zNx n e)) - (σ.1 31 e))), (0, .ref 30), (1, .int (nI e)), (2, .int (S i))] [.int (σ.1 31 (Int32.toNatClampNeg (nI e))), .int 8] σ
  refine ⟨zix (k := e) rfl (by omega) (by decide), ?_⟩
  rw [zcl_k (i := (nI e)) (k := e) rfl (by omega)]
  refine zq (σ := σ) hV hI rfl 11 ?_
  show vp_in (nI e) 10 ∧ V 60 [(5, .int ((8 * (σ.1 31 e)) + ((S i) * ((σ.1 31 (zNx n e)) - (σ.1 31 e))))), (4, .int ((σ.1 32 (zNx n e)) - (σ.1 32 e))), (3, .int ((σ.1 31 (zNx n e)) - (σ.1 31 e))), (0, .ref 30), (1, .int (nI e)), (2, .int (S i))] [.int (σ.1 32 (Int32.toNatClampNeg (nI e))), .int 8] σ
  refine ⟨zix (k := e) rfl (by omega) (by decide), ?_⟩
  rw [zcl_k (i := (nI e)) (k := e) rfl (by omega)]
  refine zq (σ := σ) hV hI rfl 26 ?_
  show zSp _ 150 [.ref 30, .int ((8 * (σ.1 31 e)) + ((S i) * ((σ.1 31 (zNx n e)) - (σ.1 31 e)))), .int ((8 * (σ.1 32 e)) + ((S i) * ((σ.1 32 (zNx n e)) - (σ.1 32 e)))), .int (((-16) * ((σ.1 32 (zNx n e)) - (σ.1 32 e))) + ((σ.1 30 8) * ((σ.1 31 (zNx n e)) - (σ.1 31 e)))), .int ((16 * ((σ.1 31 (zNx n e)) - (σ.1 31 e))) + ((σ.1 30 8) * ((σ.1 32 (zNx n e)) - (σ.1 32 e))))] σ (fun r σ' => σ'.2.2.2 = σ.2.2.2 + zAl 150 → V 100 [(6, .int ((8 * (σ.1 32 e)) + ((S i) * ((σ.1 32 (zNx n e)) - (σ.1 32 e))))), (5, .int ((8 * (σ.1 31 e)) + ((S i) * ((σ.1 31 (zNx n e)) - (σ.1 31 e))))), (4, .int ((σ.1 32 (zNx n e)) - (σ.1 32 e))), (3, .int ((σ.1 31 (zNx n e)) - (σ.1 31 e))), (0, .ref 30), (1, .int (nI e)), (2, .int (S i))] (r.toList ++ []) σ')
  refine lay_M hI (t := (zMl (σ.1 30 8) i)) ht9 hm1.1 (fun _ => ?_)
  rw [(zl3 bx by0 q1.1 q2.1).1]
  refine zq (σ := (zuI (zuJ (zuJ (zuJ σ 37 (zMl (σ.1 30 8) i) (Int32.toInt64 (((-16) * ((σ.1 32 (zNx n e)) - (σ.1 32 e))) + ((σ.1 30 8) * ((σ.1 31 (zNx n e)) - (σ.1 31 e)))))) 38 (zMl (σ.1 30 8) i) (Int32.toInt64 ((16 * ((σ.1 31 (zNx n e)) - (σ.1 31 e))) + ((σ.1 30 8) * ((σ.1 32 (zNx n e)) - (σ.1 32 e)))))) 39 (zMl (σ.1 30 8) i) (Int32.toInt64 ((((8 * (σ.1 31 e)) + ((S i) * ((σ.1 31 (zNx n e)) - (σ.1 31 e)))) * ((16 * ((σ.1 31 (zNx n e)) - (σ.1 31 e))) + ((σ.1 30 8) * ((σ.1 32 (zNx n e)) - (σ.1 32 e))))) - (((8 * (σ.1 32 e)) + ((S i) * ((σ.1 32 (zNx n e)) - (σ.1 32 e)))) * (((-16) * ((σ.1 32 (zNx n e)) - (σ.1 32 e))) + ((σ.1 30 8) * ((σ.1 31 (zNx n e)) - (σ.1 31 e)))))))) 30 9 (nI ((zMl (σ.1 30 8) i) + 1)))) hV hI rfl 3 ?_
  show ((σ.1 30 8) ≤ 0 → V 139 [(6, .int ((8 * (σ.1 32 e)) + ((S i) * ((σ.1 32 (zNx n e)) - (σ.1 32 e))))), (5, .int ((8 * (σ.1 31 e)) + ((S i) * ((σ.1 31 (zNx n e)) - (σ.1 31 e))))), (4, .int ((σ.1 32 (zNx n e)) - (σ.1 32 e))), (3, .int ((σ.1 31 (zNx n e)) - (σ.1 31 e))), (0, .ref 30), (1, .int (nI e)), (2, .int (S i))] [] (zuI (zuJ (zuJ (zuJ σ 37 (zMl (σ.1 30 8) i) (Int32.toInt64 (((-16) * ((σ.1 32 (zNx n e)) - (σ.1 32 e))) + ((σ.1 30 8) * ((σ.1 31 (zNx n e)) - (σ.1 31 e)))))) 38 (zMl (σ.1 30 8) i) (Int32.toInt64 ((16 * ((σ.1 31 (zNx n e)) - (σ.1 31 e))) + ((σ.1 30 8) * ((σ.1 32 (zNx n e)) - (σ.1 32 e)))))) 39 (zMl (σ.1 30 8) i) (Int32.toInt64 ((((8 * (σ.1 31 e)) + ((S i) * ((σ.1 31 (zNx n e)) - (σ.1 31 e)))) * ((16 * ((σ.1 31 (zNx n e)) - (σ.1 31 e))) + ((σ.1 30 8) * ((σ.1 32 (zNx n e)) - (σ.1 32 e))))) - (((8 * (σ.1 32 e)) + ((S i) * ((σ.1 32 (zNx n e)) - (σ.1 32 e)))) * (((-16) * ((σ.1 32 (zNx n e)) - (σ.1 32 e))) + ((σ.1 30 8) * ((σ.1 31 (zNx n e)) - (σ.1 31 e)))))))) 30 9 (nI ((zMl (σ.1 30 8) i) + 1)))) ∧ (¬ (σ.1 30 8) ≤ 0 → V 107 [(6, .int ((8 * (σ.1 32 e)) + ((S i) * ((σ.1 32 (zNx n e)) - (σ.1 32 e))))), (5, .int ((8 * (σ.1 31 e)) + ((S i) * ((σ.1 31 (zNx n e)) - (σ.1 31 e))))), (4, .int ((σ.1 32 (zNx n e)) - (σ.1 32 e))), (3, .int ((σ.1 31 (zNx n e)) - (σ.1 31 e))), (0, .ref 30), (1, .int (nI e)), (2, .int (S i))] [] (zuI (zuJ (zuJ (zuJ σ 37 (zMl (σ.1 30 8) i) (Int32.toInt64 (((-16) * ((σ.1 32 (zNx n e)) - (σ.1 32 e))) + ((σ.1 30 8) * ((σ.1 31 (zNx n e)) - (σ.1 31 e)))))) 38 (zMl (σ.1 30 8) i) (Int32.toInt64 ((16 * ((σ.1 31 (zNx n e)) - (σ.1 31 e))) + ((σ.1 30 8) * ((σ.1 32 (zNx n e)) - (σ.1 32 e)))))) 39 (zMl (σ.1 30 8) i) (Int32.toInt64 ((((8 * (σ.1 31 e)) + ((S i) * ((σ.1 31 (zNx n e)) - (σ.1 31 e)))) * ((16 * ((σ.1 31 (zNx n e)) - (σ.1 31 e))) + ((σ.1 30 8) * ((σ.1 32 (zNx n e)) - (σ.1 32 e))))) - (((8 * (σ.1 32 e)) + ((S i) * ((σ.1 32 (zNx n e)) - (σ.1 32 e)))) * (((-16) * ((σ.1 32 (zNx n e)) - (σ.1 32 e))) + ((σ.1 30 8) * ((σ.1 31 (zNx n e)) - (σ.1 31 e)))))))) 30 9 (nI ((zMl (σ.1 30 8) i) + 1))))
  refine ⟨fun h_104 => ?_, fun h_104 => ?_⟩
  · skip
    refine zq (σ := (zuI (zuJ (zuJ (zuJ σ 37 (zMl (σ.1 30 8) i) (Int32.toInt64 (((-16) * ((σ.1 32 (zNx n e)) - (σ.1 32 e))) + ((σ.1 30 8) * ((σ.1 31 (zNx n e)) - (σ.1 31 e)))))) 38 (zMl (σ.1 30 8) i) (Int32.toInt64 ((16 * ((σ.1 31 (zNx n e)) - (σ.1 31 e))) + ((σ.1 30 8) * ((σ.1 32 (zNx n e)) - (σ.1 32 e)))))) 39 (zMl (σ.1 30 8) i) (Int32.toInt64 ((((8 * (σ.1 31 e)) + ((S i) * ((σ.1 31 (zNx n e)) - (σ.1 31 e)))) * ((16 * ((σ.1 31 (zNx n e)) - (σ.1 31 e))) + ((σ.1 30 8) * ((σ.1 32 (zNx n e)) - (σ.1 32 e))))) - (((8 * (σ.1 32 e)) + ((S i) * ((σ.1 32 (zNx n e)) - (σ.1 32 e)))) * (((-16) * ((σ.1 32 (zNx n e)) - (σ.1 32 e))) + ((σ.1 30 8) * ((σ.1 31 (zNx n e)) - (σ.1 31 e)))))))) 30 9 (nI ((zMl (σ.1 30 8) i) + 1)))) hV hI rfl 1 ?_
    show K none (zuI (zuJ (zuJ (zuJ σ 37 (zMl (σ.1 30 8) i) (Int32.toInt64 (((-16) * ((σ.1 32 (zNx n e)) - (σ.1 32 e))) + ((σ.1 30 8) * ((σ.1 31 (zNx n e)) - (σ.1 31 e)))))) 38 (zMl (σ.1 30 8) i) (Int32.toInt64 ((16 * ((σ.1 31 (zNx n e)) - (σ.1 31 e))) + ((σ.1 30 8) * ((σ.1 32 (zNx n e)) - (σ.1 32 e)))))) 39 (zMl (σ.1 30 8) i) (Int32.toInt64 ((((8 * (σ.1 31 e)) + ((S i) * ((σ.1 31 (zNx n e)) - (σ.1 31 e)))) * ((16 * ((σ.1 31 (zNx n e)) - (σ.1 31 e))) + ((σ.1 30 8) * ((σ.1 32 (zNx n e)) - (σ.1 32 e))))) - (((8 * (σ.1 32 e)) + ((S i) * ((σ.1 32 (zNx n e)) - (σ.1 32 e)))) * (((-16) * ((σ.1 32 (zNx n e)) - (σ.1 32 e))) + ((σ.1 30 8) * ((σ.1 31 (zNx n e)) - (σ.1 31 e)))))))) 30 9 (nI ((zMl (σ.1 30 8) i) + 1)))
    have hf0 : σ.1 30 8 = 0 := by unfold zBt at hfb; rw [zle, zT_lits.1] at h_104; rw [zeq, zT_lits.1]; omega
    refine hK _ ((((zOnly.rf.uJ rfl).uJ rfl).uJ rfl).uI rfl) ?_ (fun t q => ?_)
    · show nI (zMl _ i + 1) = _
      rw [zMl_0 hf0, zMl_0 hf0]
    · rw [zMl_0 hf0] at q
      have hs3 := @zT_0 n (σ.1 31) (σ.1 32) (σ.1 30 8) E S i e hf0 hZ
      simp only [zuI_2, zuJ_get, zMl_0 hf0]
      by_cases hti : t = i
      · subst hti; simp [zl, hs3.1, hs3.2.1, hs3.2.2]
      · have := hT t (by rw [zMl_0 hf0]; omega); simp [hti, this.1, this.2.1, this.2.2]
  · skip
    have hf0 : ¬ σ.1 30 8 = 0 := fun c => by rw [c] at h_104; exact h_104 (by decide)
    refine zq (σ := (zuI (zuJ (zuJ (zuJ σ 37 (zMl (σ.1 30 8) i) (Int32.toInt64 (((-16) * ((σ.1 32 (zNx n e)) - (σ.1 32 e))) + ((σ.1 30 8) * ((σ.1 31 (zNx n e)) - (σ.1 31 e)))))) 38 (zMl (σ.1 30 8) i) (Int32.toInt64 ((16 * ((σ.1 31 (zNx n e)) - (σ.1 31 e))) + ((σ.1 30 8) * ((σ.1 32 (zNx n e)) - (σ.1 32 e)))))) 39 (zMl (σ.1 30 8) i) (Int32.toInt64 ((((8 * (σ.1 31 e)) + ((S i) * ((σ.1 31 (zNx n e)) - (σ.1 31 e)))) * ((16 * ((σ.1 31 (zNx n e)) - (σ.1 31 e))) + ((σ.1 30 8) * ((σ.1 32 (zNx n e)) - (σ.1 32 e))))) - (((8 * (σ.1 32 e)) + ((S i) * ((σ.1 32 (zNx n e)) - (σ.1 32 e)))) * (((-16) * ((σ.1 32 (zNx n e)) - (σ.1 32 e))) + ((σ.1 30 8) * ((σ.1 31 (zNx n e)) - (σ.1 31 e)))))))) 30 9 (nI ((zMl (σ.1 30 8) i) + 1)))) hV hI rfl 20 ?_
    show zSp _ 150 [.ref 30, .int ((8 * (σ.1 31 e)) + ((S i) * ((σ.1 31 (zNx n e)) - (σ.1 31 e)))), .int ((8 * (σ.1 32 e)) + ((S i) * ((σ.1 32 (zNx n e)) - (σ.1 32 e)))), .int (((-16) * ((σ.1 32 (zNx n e)) - (σ.1 32 e))) - ((σ.1 30 8) * ((σ.1 31 (zNx n e)) - (σ.1 31 e)))), .int ((16 * ((σ.1 31 (zNx n e)) - (σ.1 31 e))) - ((σ.1 30 8) * ((σ.1 32 (zNx n e)) - (σ.1 32 e))))] (zuI (zuJ (zuJ (zuJ σ 37 (zMl (σ.1 30 8) i) (Int32.toInt64 (((-16) * ((σ.1 32 (zNx n e)) - (σ.1 32 e))) + ((σ.1 30 8) * ((σ.1 31 (zNx n e)) - (σ.1 31 e)))))) 38 (zMl (σ.1 30 8) i) (Int32.toInt64 ((16 * ((σ.1 31 (zNx n e)) - (σ.1 31 e))) + ((σ.1 30 8) * ((σ.1 32 (zNx n e)) - (σ.1 32 e)))))) 39 (zMl (σ.1 30 8) i) (Int32.toInt64 ((((8 * (σ.1 31 e)) + ((S i) * ((σ.1 31 (zNx n e)) - (σ.1 31 e)))) * ((16 * ((σ.1 31 (zNx n e)) - (σ.1 31 e))) + ((σ.1 30 8) * ((σ.1 32 (zNx n e)) - (σ.1 32 e))))) - (((8 * (σ.1 32 e)) + ((S i) * ((σ.1 32 (zNx n e)) - (σ.1 32 e)))) * (((-16) * ((σ.1 32 (zNx n e)) - (σ.1 32 e))) + ((σ.1 30 8) * ((σ.1 31 (zNx n e)) - (σ.1 31 e)))))))) 30 9 (nI ((zMl (σ.1 30 8) i) + 1))) (fun r σ' => σ'.2.2.2 = (zuI (zuJ (zuJ (zuJ σ 37 (zMl (σ.1 30 8) i) (Int32.toInt64 (((-16) * ((σ.1 32 (zNx n e)) - (σ.1 32 e))) + ((σ.1 30 8) * ((σ.1 31 (zNx n e)) - (σ.1 31 e)))))) 38 (zMl (σ.1 30 8) i) (Int32.toInt64 ((16 * ((σ.1 31 (zNx n e)) - (σ.1 31 e))) + ((σ.1 30 8) * ((σ.1 32 (zNx n e)) - (σ.1 32 e)))))) 39 (zMl (σ.1 30 8) i) (Int32.toInt64 ((((8 * (σ.1 31 e)) + ((S i) * ((σ.1 31 (zNx n e)) - (σ.1 31 e)))) * ((16 * ((σ.1 31 (zNx n e)) - (σ.1 31 e))) + ((σ.1 30 8) * ((σ.1 32 (zNx n e)) - (σ.1 32 e))))) - (((8 * (σ.1 32 e)) + ((S i) * ((σ.1 32 (zNx n e)) - (σ.1 32 e)))) * (((-16) * ((σ.1 32 (zNx n e)) - (σ.1 32 e))) + ((σ.1 30 8) * ((σ.1 31 (zNx n e)) - (σ.1 31 e)))))))) 30 9 (nI ((zMl (σ.1 30 8) i) + 1))).2.2.2 + zAl 150 → V 139 [(6, .int ((8 * (σ.1 32 e)) + ((S i) * ((σ.1 32 (zNx n e)) - (σ.1 32 e))))), (5, .int ((8 * (σ.1 31 e)) + ((S i) * ((σ.1 31 (zNx n e)) - (σ.1 31 e))))), (4, .int ((σ.1 32 (zNx n e)) - (σ.1 32 e))), (3, .int ((σ.1 31 (zNx n e)) - (σ.1 31 e))), (0, .ref 30), (1, .int (nI e)), (2, .int (S i))] (r.toList ++ []) σ')
    refine lay_M hI (t := (zMl (σ.1 30 8) i + 1)) rfl (hm1.2 hf0) (fun _ => ?_)
    rw [(zl3 bx by0 q1.2 q2.2).1]
    refine zq (σ := (zuI (zuJ (zuJ (zuJ (zuI (zuJ (zuJ (zuJ σ 37 (zMl (σ.1 30 8) i) (Int32.toInt64 (((-16) * ((σ.1 32 (zNx n e)) - (σ.1 32 e))) + ((σ.1 30 8) * ((σ.1 31 (zNx n e)) - (σ.1 31 e)))))) 38 (zMl (σ.1 30 8) i) (Int32.toInt64 ((16 * ((σ.1 31 (zNx n e)) - (σ.1 31 e))) + ((σ.1 30 8) * ((σ.1 32 (zNx n e)) - (σ.1 32 e)))))) 39 (zMl (σ.1 30 8) i) (Int32.toInt64 ((((8 * (σ.1 31 e)) + ((S i) * ((σ.1 31 (zNx n e)) - (σ.1 31 e)))) * ((16 * ((σ.1 31 (zNx n e)) - (σ.1 31 e))) + ((σ.1 30 8) * ((σ.1 32 (zNx n e)) - (σ.1 32 e))))) - (((8 * (σ.1 32 e)) + ((S i) * ((σ.1 32 (zNx n e)) - (σ.1 32 e)))) * (((-16) * ((σ.1 32 (zNx n e)) - (σ.1 32 e))) + ((σ.1 30 8) * ((σ.1 31 (zNx n e)) - (σ.1 31 e)))))))) 30 9 (nI ((zMl (σ.1 30 8) i) + 1))) 37 (zMl (σ.1 30 8) i + 1) (Int32.toInt64 (((-16) * ((σ.1 32 (zNx n e)) - (σ.1 32 e))) - ((σ.1 30 8) * ((σ.1 31 (zNx n e)) - (σ.1 31 e)))))) 38 (zMl (σ.1 30 8) i + 1) (Int32.toInt64 ((16 * ((σ.1 31 (zNx n e)) - (σ.1 31 e))) - ((σ.1 30 8) * ((σ.1 32 (zNx n e)) - (σ.1 32 e)))))) 39 (zMl (σ.1 30 8) i + 1) (Int32.toInt64 ((((8 * (σ.1 31 e)) + ((S i) * ((σ.1 31 (zNx n e)) - (σ.1 31 e)))) * ((16 * ((σ.1 31 (zNx n e)) - (σ.1 31 e))) - ((σ.1 30 8) * ((σ.1 32 (zNx n e)) - (σ.1 32 e))))) - (((8 * (σ.1 32 e)) + ((S i) * ((σ.1 32 (zNx n e)) - (σ.1 32 e)))) * (((-16) * ((σ.1 32 (zNx n e)) - (σ.1 32 e))) - ((σ.1 30 8) * ((σ.1 31 (zNx n e)) - (σ.1 31 e)))))))) 30 9 (nI ((zMl (σ.1 30 8) i + 1) + 1)))) hV hI rfl 1 ?_
    show K none (zuI (zuJ (zuJ (zuJ (zuI (zuJ (zuJ (zuJ σ 37 (zMl (σ.1 30 8) i) (Int32.toInt64 (((-16) * ((σ.1 32 (zNx n e)) - (σ.1 32 e))) + ((σ.1 30 8) * ((σ.1 31 (zNx n e)) - (σ.1 31 e)))))) 38 (zMl (σ.1 30 8) i) (Int32.toInt64 ((16 * ((σ.1 31 (zNx n e)) - (σ.1 31 e))) + ((σ.1 30 8) * ((σ.1 32 (zNx n e)) - (σ.1 32 e)))))) 39 (zMl (σ.1 30 8) i) (Int32.toInt64 ((((8 * (σ.1 31 e)) + ((S i) * ((σ.1 31 (zNx n e)) - (σ.1 31 e)))) * ((16 * ((σ.1 31 (zNx n e)) - (σ.1 31 e))) + ((σ.1 30 8) * ((σ.1 32 (zNx n e)) - (σ.1 32 e))))) - (((8 * (σ.1 32 e)) + ((S i) * ((σ.1 32 (zNx n e)) - (σ.1 32 e)))) * (((-16) * ((σ.1 32 (zNx n e)) - (σ.1 32 e))) + ((σ.1 30 8) * ((σ.1 31 (zNx n e)) - (σ.1 31 e)))))))) 30 9 (nI ((zMl (σ.1 30 8) i) + 1))) 37 (zMl (σ.1 30 8) i + 1) (Int32.toInt64 (((-16) * ((σ.1 32 (zNx n e)) - (σ.1 32 e))) - ((σ.1 30 8) * ((σ.1 31 (zNx n e)) - (σ.1 31 e)))))) 38 (zMl (σ.1 30 8) i + 1) (Int32.toInt64 ((16 * ((σ.1 31 (zNx n e)) - (σ.1 31 e))) - ((σ.1 30 8) * ((σ.1 32 (zNx n e)) - (σ.1 32 e)))))) 39 (zMl (σ.1 30 8) i + 1) (Int32.toInt64 ((((8 * (σ.1 31 e)) + ((S i) * ((σ.1 31 (zNx n e)) - (σ.1 31 e)))) * ((16 * ((σ.1 31 (zNx n e)) - (σ.1 31 e))) - ((σ.1 30 8) * ((σ.1 32 (zNx n e)) - (σ.1 32 e))))) - (((8 * (σ.1 32 e)) + ((S i) * ((σ.1 32 (zNx n e)) - (σ.1 32 e)))) * (((-16) * ((σ.1 32 (zNx n e)) - (σ.1 32 e))) - ((σ.1 30 8) * ((σ.1 31 (zNx n e)) - (σ.1 31 e)))))))) 30 9 (nI ((zMl (σ.1 30 8) i + 1) + 1)))
    refine hK _ ((((((((zOnly.rf.uJ rfl).uJ rfl).uJ rfl).uI rfl).uJ rfl).uJ rfl).uJ rfl).uI rfl) ?_ (fun t q => ?_)
    · show nI (zMl _ i + 1 + 1) = _
      rw [zMl_1 hf0, zMl_1 hf0]; rfl
    · rw [zMl_1 hf0] at q
      have hs3 := @zT_1 n (σ.1 31) (σ.1 32) (σ.1 30 8) E S i e hf0 hZ
      simp only [zuI_2, zuJ_get, zMl_1 hf0]
      by_cases hti : t = 2 * i
      · subst hti; simp [zl, hs3.1.1, hs3.1.2.1, hs3.1.2.2]
      · by_cases hti2 : t = 2 * i + 1
        · subst hti2; simp [zl, hs3.2.1, hs3.2.2.1, hs3.2.2.2]
        · have := hT t (by rw [zMl_1 hf0]; omega); simp [hti, hti2, this.1, this.2.1, this.2.2]
set_option maxRecDepth 8000 in
set_option maxHeartbeats 4000000 in
theorem layAll_M {d : Nat} {σ : zSt} {K : Option Value → zSt → Prop} {n m : Nat} (hI : zQI (kR 30 52) σ.2.2) (hn : σ.1 30 0 = nI n) (hn10 : n ≤ 10) (hB : zHB n (σ.1 31) (σ.1 32)) (hfb : zBt 0 16 (σ.1 30 8)) (hs : σ.1 30 5 = nI m) (hm : m ≤ 8) (hE : ∀ i, i < m → ∃ e, σ.1 35 i = nI e ∧ e < n) (hS : ∀ i, i < m → zBt 0 8 (σ.1 36 i)) (hK : ∀ τ, zOnly zfLy σ τ → τ.1 30 9 = nI (zMl (σ.1 30 8) m) → zTkM n (σ.1 31) (σ.1 32) (σ.1 30 8) (σ.1 35) (σ.1 36) (zMl (σ.1 30 8) m) τ → K none τ) : zSp (d + 3) mX9_layAll [.ref 30] σ K := by
  refine ⟨⟨by decide, Nat.le_of_ble_eq_true rfl⟩, fun V hV => ?_⟩
  refine zq (σ := σ) hV hI rfl 5 ?_
  show V 7 [(1, .int 0), (0, .ref 30)] [] (zuI σ 30 9 0)
  refine zwk hV [1, 0] rfl ?_
  have Hi : ∀ (r : Nat) (i : Nat) (τ : zSt), i + r = m → zOnly zfLy σ τ → τ.1 30 9 = nI (zMl (σ.1 30 8) i) → zTkM n (σ.1 31) (σ.1 32) (σ.1 30 8) (σ.1 35) (σ.1 36) (zMl (σ.1 30 8) i) τ → V 7 [(0, .ref 30), (1, .int (nI i))] [] τ := by
    intro r
    induction r with
    | zero =>
      intro i τ hir ht h9 hT
      have hIτ := zQI_eq hI ht.2.2
      have hnτ : τ.2.2.2 = σ.2.2.2 := congrArg Prod.snd ht.2.2
      have hst : τ.1 30 5 = nI m := (ht.1 30 5 rfl).trans hs
      refine zq (σ := τ) hV hIτ hnτ 4 ?_
      show ((τ.1 30 5) ≤ (nI i) → V 37 [(0, .ref 30), (1, .int (nI i))] [] τ) ∧ (¬ (τ.1 30 5) ≤ (nI i) → V 15 [(0, .ref 30), (1, .int (nI i))] [] τ)
      refine ⟨fun _ => ?_, fun hc => absurd (show (τ.1 30 5) ≤ nI i by rw [hst]; exact zge_self (by omega)) hc⟩
      refine zq (σ := τ) hV hIτ hnτ 1 ?_
      show K none τ
      obtain rfl : i = m := by omega
      exact hK τ ht h9 hT
    | succ r ihi =>
      intro i τ hir ht h9 hT
      have hIτ := zQI_eq hI ht.2.2
      have hnτ : τ.2.2.2 = σ.2.2.2 := congrArg Prod.snd ht.2.2
      have hst : τ.1 30 5 = nI m := (ht.1 30 5 rfl).trans hs
      have him : i < m := by omega
      have e31 : τ.1 31 = σ.1 31 := funext fun j => ht.1 31 j rfl
      have e32 : τ.1 32 = σ.1 32 := funext fun j => ht.1 32 j rfl
      have e8 : τ.1 30 8 = σ.1 30 8 := ht.1 30 8 rfl
      obtain ⟨e, he0, hen⟩ := hE i him
      have he : τ.1 35 i = nI e := (ht.1 35 i rfl).trans he0
      have he6 : τ.1 36 i = σ.1 36 i := ht.1 36 i rfl
      refine zq (σ := τ) hV hIτ hnτ 4 ?_
      show ((τ.1 30 5) ≤ (nI i) → V 37 [(0, .ref 30), (1, .int (nI i))] [] τ) ∧ (¬ (τ.1 30 5) ≤ (nI i) → V 15 [(0, .ref 30), (1, .int (nI i))] [] τ)
      refine ⟨fun hc => absurd hc (show ¬ (τ.1 30 5) ≤ nI i by rw [hst]; exact nI_ge (by omega) (by omega)), fun _ => ?_⟩
      refine zq (σ := τ) hV hIτ hnτ 5 ?_
      show vp_in (nI i) 8 ∧ V 22 [(0, .ref 30), (1, .int (nI i))] [.int (τ.1 35 (Int32.toNatClampNeg (nI i))), .ref 30] τ
      refine ⟨zix (k := i) rfl (by omega) (by decide), ?_⟩
      rw [zcl_k (i := (nI i)) (k := i) rfl (by omega)]
      refine zq (σ := τ) hV hIτ hnτ 4 ?_
      show vp_in (nI i) 8 ∧ V 28 [(0, .ref 30), (1, .int (nI i))] [.int (τ.1 36 (Int32.toNatClampNeg (nI i))), .int (τ.1 35 i), .ref 30] τ
      refine ⟨zix (k := i) rfl (by omega) (by decide), ?_⟩
      rw [zcl_k (i := (nI i)) (k := i) rfl (by omega)]
      refine zq (σ := τ) hV hIτ hnτ 1 ?_
      show zSp _ 151 [.ref 30, .int (τ.1 35 i), .int (τ.1 36 i)] τ (fun r σ' => σ'.2.2.2 = τ.2.2.2 + zAl 151 → V 31 [(0, .ref 30), (1, .int (nI i))] (r.toList ++ []) σ')
      rw [he, he6]
      refine lays_M (n := n) (i := i) (E := σ.1 35) (S := σ.1 36) (X := σ.1 31) (Y := σ.1 32) (f := σ.1 30 8) hIτ ((ht.1 30 0 rfl).trans hn) hn10 e31 e32 e8 hB hfb he0 hen (hS i him) (by omega) h9 hT (fun υ hu h9u hTu _ => ?_)
      have hu2 := ht.tr hu
      have hIυ := zQI_eq hI hu2.2.2
      have hnυ : υ.2.2.2 = σ.2.2.2 := congrArg Prod.snd hu2.2.2
      refine zq (σ := υ) hV hIυ hnυ 2 ?_
      show V 7 [(1, .int ((nI i) + 1)), (0, .ref 30)] [] υ
      refine zwk hV [1, 0] rfl ?_
      rw [nI_1]
      exact ihi (i + 1) υ (by omega) hu2 h9u hTu
  refine Hi m 0 _ (by omega) (zOnly.rf.uI rfl) ?_ (fun t q => absurd q (by unfold zMl; split <;> omega))
  show nI 0 = _
  unfold zMl; split <;> rfl
