theorem zk_0 (m : Nat) (h : m < 88) : ∀ e ∈ zC.getD m [], decode (zB m) e.1 = .ok (e.2.1, e.2.2) ∧ zgd e = true := by
  have t : ∀ (a : Nat), a ≤ m → m < a + 20 → m ∈ List.range' a 20 := fun a h1 h2 => List.mem_range'_1.mpr ⟨h1, h2⟩
  rcases (show m < 0 + 20 ∨ (20 ≤ m ∧ m < 20 + 20) ∨ (40 ≤ m ∧ m < 40 + 20) ∨ (60 ≤ m ∧ m < 60 + 20) ∨ (80 ≤ m ∧ m < 80 + 8) by omega) with q | q | q | q | q
  · exact zk_d0 m (t 0 (Nat.zero_le _) q)
  · exact zk_d1 m (t 20 q.1 q.2)
  · exact zk_d2 m (t 40 q.1 q.2)
  · exact zk_d3 m (t 60 q.1 q.2)
  · exact zk_d4 m (List.mem_range'_1.mpr q : m ∈ List.range' 80 8)
theorem zcode_ok {m : Nat} (h : m < 85) : .code (zY m) (zB m) (zML m) (zRT m) ∈ zBG := by
  have t : ∀ (a : Nat), a ≤ m → m < a + 20 → m ∈ List.range' a 20 := fun a h1 h2 => List.mem_range'_1.mpr ⟨h1, h2⟩
  rcases (show m < 0 + 20 ∨ (20 ≤ m ∧ m < 20 + 20) ∨ (40 ≤ m ∧ m < 40 + 20) ∨ (60 ≤ m ∧ m < 60 + 20) ∨ (80 ≤ m ∧ m < 80 + 7) by omega) with q | q | q | q | q
  · exact zk_w0 m (t 0 (Nat.zero_le _) q)
  · exact zk_w1 m (t 20 q.1 q.2)
  · exact zk_w2 m (t 40 q.1 q.2)
  · exact zk_w3 m (t 60 q.1 q.2)
  · exact zk_w4 m (List.mem_range'_1.mpr q : m ∈ List.range' 80 7)
theorem zdec_ok {mm pc len : Nat} {ins : Instr} (hm : mm < 88) (h : zcd mm pc = some (ins, len)) : decode (zB mm) pc = .ok (ins, len) ∧ zgd (pc, ins, len) = true := by
  have h1 : (pc, (ins, len)) ∈ zC.getD mm [] := zmem (show (zC.getD mm []).lookup pc = some (ins, len) from h)
  have h2 := zk_0 mm hm (pc, ins, len) h1
  exact h2
theorem zm_ok {m : Nat} (h : m < 85) : (.initialized (zY m).cls ∈ zBG ∧ (if zKi m = 0 then Jvm.Cond.static (zY m) else .instanceMethod (zY m)) ∈ zBG ∧ (zKi m = 1 → .selects (zY m).cls (zY m) (zY m) ∈ zBG)) ∧
    ((zY m).cls ≠ "java/lang/invoke/MethodHandle" ∧ (zY m).cls ≠ "java/lang/invoke/VarHandle") ∧ (parseMethodDescriptor (zY m).desc).map (fun d => d.parameters.length) = some (zNa m) ∧ Jvm.plainName (zY m).cls = true ∧ zML m ≤ 15 ∧ (zKi m = 2 → (zY m).name = "<init>" ∧ zRT m = none) ∧ (zY m).cls = zNo (zOw m) := by
  have h1 := zall zk_m h
  simp only [zmP, Bool.and_eq_true, decide_eq_true_eq, Bool.or_eq_true, bne_iff_ne, beq_iff_eq, ne_eq] at h1
  obtain ⟨⟨⟨⟨⟨⟨⟨⟨⟨h1, h2⟩, h3⟩, h4⟩, h5⟩, h6⟩, h7⟩, h8⟩, h9⟩, h10⟩ := h1
  refine ⟨⟨List.mem_of_getElem? h1, List.mem_of_getElem? h2, fun q => ?_⟩, h4, h5, h6, h7, fun q => ?_, h9⟩
  · rcases h3 with h3 | h3
    · exact absurd q h3
    · exact List.mem_of_getElem? h3
  · rcases h8 with h8 | h8
    · exact absurd q h8
    · exact h8
theorem zkd_ci : ∀ a, a < 31 → (zkd a).1 = 0 → (zkd a).2 < 9 := by decide +kernel
abbrev zrm (d mm n : Nat) : Room := { frames := d, cells := zAl mm, slots := zSS (n + zAl mm) - zSS n, locals := 34 * d }
def zws (mm : Nat) : List Jvm.Cond := .code (zY mm) (zB mm) (zML mm) (zRT mm) :: zBG
def zQc (D : va_G) (Z : zQ) (mm : Nat) (K : Option Value → zSt → Prop) (σ : zSt) : Array Value → State → Outcome → State → Prop := fun _ st oc t =>
  (∃ (r : Option Value) (σ' : zSt), oc = .returned (r.map (zcv Z)) ∧ K r σ' ∧ σ'.2.2.2 = σ.2.2.2 + zAl mm ∧ zWd D Z σ' t.heap) ∧ va_F (fun q => Z.1 ≤ q) st t
def zSx (Z : zQ) (X : Nat × (Nat → Int32)) (U : State) (H : Heap) : Prop := va_X Z.2.1 X.1 X.2 U H ∧ Z.2.1 < Z.1 ∧ Z.2.1 < H.size
def zPc (D : va_G) (Z : zQ) (X : Nat × (Nat → Int32)) (as : List Value) (σ : zSt) : Array Value → State → Prop := va_Pc (as.map (zcv Z)) (fun U => zWd D Z σ U.heap ∧ zKK D Z U ∧ zSx Z X U U.heap)
/-- what a call of a method keeps to, over the machine itself -/
def zMt (X : Nat × (Nat → Int32)) (d mm : Nat) (as : List Value) (σ : zSt) (K : Option Value → zSt → Prop) : Prop := mm < 85 ∧ ∀ (l : Launch) (D : va_G) (Z : zQ), Met l (zY mm) (zws mm) (zrm d mm σ.2.2.2) (zPc D Z X as σ) (zQc D Z mm K σ) (zAl mm) (zSS (σ.2.2.2 + zAl mm) - zSS σ.2.2.2) (fun q => Z.1 ≤ q)
theorem zws_good {mm : Nat} (h : mm < 85) : GoodIn zBG (zws mm) := fun w hw => by
  rcases List.mem_cons.mp hw with rfl | hw
  · exact zBG_good _ (zcode_ok h)
  · exact zBG_good w hw
theorem zPc_blind (D : va_G) (Z : zQ) (X : Nat × (Nat → Int32)) (as : List Value) (σ : zSt) : FrameBlind (zPc D Z X as σ) := fun a U g mk h => ⟨h.1, h.2.1, zKK_same (u := U) (U := U.calling g mk a) rfl h.2.2.1, h.2.2.2.1.moved (Vm.Alike.refl U.vm), h.2.2.2.2⟩
theorem zPc_of {D : va_G} {Z : zQ} {X : Nat × (Nat → Int32)} {as : List Value} {σ : zSt} {s : State} {H : Heap} (hK : zKK D Z s) (hW : zWd D Z σ H) (hX : zSx Z X s H) {v : List Value} (hv : v = as.map (zcv Z)) : ∀ U : State, U.heap = H → s.WarmedH U.vm → zPc D Z X as σ v.toArray U := fun U hU hWm => ⟨by rw [hv], by rw [hU]; exact hW, zKK_warm hWm hK, by rw [hU]; exact ⟨hX.1.moved hWm.alike, hX.2⟩⟩
theorem zSx_to {Z : zQ} {X : Nat × (Nat → Int32)} {s : State} {H : Heap} {locs : List Loc} (h : va_X Z.2.1 X.1 X.2 s s.heap ∧ Z.2.1 < Z.1 ∧ Z.2.1 < s.heap.size) (hS : va_S (fun q => Z.1 ≤ q) s.heap H locs) : zSx Z X s H := ⟨h.1.kept (hS.2.1 _ h.2.2 (Nat.not_le.mpr h.2.1)), h.2.1, Nat.lt_of_lt_of_le h.2.2 hS.1⟩
def zFx (D : va_G) (Z : zQ) (X : Nat × (Nat → Int32)) (mm d n0 lim : Nat) (p : Program) (R : Room) (s : State) (m : MethodId) (args : Array Value) (meth : Method) (c : Code) : Prop :=
  (p.tables.exec = Jvm.exec ∧ c.code = zB mm ∧ c.maxLocals = zML mm ∧ s.vm.findClass (zNo (zOw mm)) = some m.cls) ∧ (∀ w ∈ zBG, w.before args s = true) ∧ zKK D Z s ∧ (d + 1 ≤ R.frames ∧ 34 * (d + 1) ≤ R.locals) ∧ (zKi mm = 2 → meth.name = "<init>") ∧ (True → va_X Z.2.1 X.1 X.2 s s.heap ∧ Z.2.1 < Z.1 ∧ Z.2.1 < s.heap.size) ∧ (lim ≤ R.cells + n0 ∧ zSS lim ≤ R.slots + zSS n0) ∧ mm < 88
def zV (D : va_G) (Z : zQ) (mm n0 : Nat) (p : Program) (l : Launch) (e : Env) (R : Room) (s : State) (m : MethodId) (args : Array Value) (below : List Frame) (meth : Method) (c : Code) (Q : State → Prop) (pc : Nat) (L : zLo) (S : List Value) (σ : zSt) : Prop :=
  ∀ (H : Heap) (locs : List Loc) (ls : Array Slot) (cells slots : Nat), lv_has ls (zML mm) (zcL Z L) → zWd D Z σ H → va_S (fun q => Z.1 ≤ q) s.heap H locs → cells + n0 = σ.2.2.2 → slots + zSS n0 = zSS σ.2.2.2 → W p l e R s m args below meth c H locs cells slots Q (F0 m pc ls (S.map (zcv Z)))
section ZC
variable {p : Program} {l : Launch} {e : Env} {R : Room} {s : State} {m : MethodId} {args : Array Value} {below : List Frame} {meth : Method} {c : Code} {H : Heap} {locs : List Loc} {cells slots : Nat} {Q : State → Prop}
variable {pc : Nat} {ls : Array Slot} {rest st0 : List Value} {D : va_G} {Z : zQ} {σ : zSt} {a : Array Value} {mc ms : Nat}
theorem zfin {mm : Nat} {K : Option Value → zSt → Prop} (hr : va_Run p l e R s m args below meth c H locs cells slots mc ms (F0 m pc ls st0) rest (zQc D Z mm K σ a) (fun q => Z.1 ≤ q)) (hS : va_S (fun q => Z.1 ≤ q) s.heap H locs)
    (kk : ∀ (r : Option Value) (σ' : zSt) (H1 : Heap) (locs1 : List Loc), K r σ' → σ'.2.2.2 = σ.2.2.2 + zAl mm → zWd D Z σ' H1 → va_S (fun q => Z.1 ≤ q) s.heap H1 locs1 → W p l e R s m args below meth c H1 locs1 (cells + mc) (slots + ms) Q (F0 m (pc + 3) ls ((r.map (zcv Z)).toList ++ rest))) : W p l e R s m args below meth c H locs cells slots Q (F0 m pc ls st0) := by
  intro T hT X
  obtain ⟨v, st₀, t, T', L, h0, X', hL, e1, e2, ⟨⟨r, σ', hv, hK, hn, hW⟩, hz, hk⟩, st⟩ := hr T hT X
  cases hv
  rw [h0] at hz hk
  obtain ⟨t2, a1, b1⟩ := kk r σ' T'.heap (locs ++ L) hK hn (by rw [e1]; exact hW) ⟨Nat.le_trans hS.1 (by rw [e1]; exact hz), fun q h1 h2 => by rw [e1, hk q (Nat.lt_of_lt_of_le h1 hS.1) h2]; exact hS.2.1 q h1 h2, fun q hq => by
      rcases List.mem_append.mp hq with h | h
      · exact hS.2.2 q h
      · exact hL q h⟩ T' rfl X'
  exact ⟨t2, st t2 a1, b1⟩
theorem zstk {S : List Value} {n : Nat} : S.map (zcv Z) = ((S.take n).reverse.map (zcv Z)).reverse ++ (S.drop n).map (zcv Z) := by
  rw [← List.map_reverse, List.reverse_reverse, ← List.map_append, List.take_append_drop]
theorem zgo_on {mm n0 mk : Nat} {K : Option Value → zSt → Prop} {L : zLo} {Sr : List Value} (hS : va_S (fun q => Z.1 ≤ q) s.heap H locs) (hl : lv_has ls (zML mm) (zcL Z L)) (hc : cells + n0 = σ.2.2.2) (hs : slots + zSS n0 = zSS σ.2.2.2)
    (hr : va_Run p l e R s m args below meth c H locs cells slots (zAl mk) (zSS (σ.2.2.2 + zAl mk) - zSS σ.2.2.2) (F0 m pc ls st0) (Sr.map (zcv Z)) (zQc D Z mk K σ a) (fun q => Z.1 ≤ q))
    (kk : ∀ (r : Option Value) (σ' : zSt), K r σ' → σ'.2.2.2 = σ.2.2.2 + zAl mk → zV D Z mm n0 p l e R s m args below meth c Q (pc + 3) L (r.toList ++ Sr) σ') : W p l e R s m args below meth c H locs cells slots Q (F0 m pc ls st0) := by
  refine zfin hr hS (fun r σ' H1 locs1 hK hn hW hS1 => ?_)
  have h := kk r σ' hK hn H1 locs1 ls (cells + zAl mk) (slots + (zSS (σ.2.2.2 + zAl mk) - zSS σ.2.2.2)) hl hW hS1 (by omega) (by have := zSS_mono (Nat.le_add_right σ.2.2.2 (zAl mk)); rw [hn]; omega)
  rw [List.map_append] at h
  cases r <;> exact h
end ZC
