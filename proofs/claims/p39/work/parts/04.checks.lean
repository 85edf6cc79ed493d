abbrev zBG : List Jvm.Cond := wsL_law
theorem zBG_good : GoodIn zBG zBG := fun w h => ⟨h, (wsL_law_good w h).2⟩
def zgd (e : Nat × Instr × Nat) : Bool := (match e.2.1 with
  | .tableswitch _ _ _ _ => true
  | i => e.2.2 == zlen i) && (match e.2.1 with
  | .ifCond _ off => decide (0 ≤ (e.1 : Int) + off)
  | .if_icmp _ off => decide (0 ≤ (e.1 : Int) + off)
  | .goto off => decide (0 ≤ (e.1 : Int) + off)
  | .tableswitch d _ _ _ => decide (0 ≤ (e.1 : Int) + d)
  | _ => true)
def zmP (m : Nat) : Bool := decide (zBG[zIW.getD (zOw m) 0]? = some (.initialized (zY m).cls)) && decide (zBG[(zMW.getD m (0, 0, 0)).2.1]? = some (if zKi m = 0 then .static (zY m) else .instanceMethod (zY m))) &&
  (zKi m != 1 || decide (zBG[(zMW.getD m (0, 0, 0)).2.2]? = some (.selects (zY m).cls (zY m) (zY m)))) && ((zY m).cls != "java/lang/invoke/MethodHandle" && (zY m).cls != "java/lang/invoke/VarHandle") && decide ((parseMethodDescriptor (zY m).desc).map (fun d => d.parameters.length) = some (zNa m)) &&
  Jvm.plainName (zY m).cls && decide (zML m ≤ 15) && (zKi m != 2 || ((zY m).name == "<init>" && zRT m == none)) && (zY m).cls == zNo (zOw m) && decide (zKi m < 3)
set_option maxRecDepth 100000 in
theorem zk_m : (List.range 85).all zmP = true := by decide +kernel
def zfP (o : Nat) (e : Nat × Nat × Nat × Nat) : Bool := decide (zBG[e.2.2.2]? = some (.fieldLink (zNo o) e.1 (zTT e.2.1 e.2.2.1).1 (zTT e.2.1 e.2.2.1).2.1 (zTT e.2.1 e.2.2.1).2.2.1)) && decide (e.2.2.1 < zNF e.2.1) && decide (e.2.1 < 9)
set_option maxRecDepth 100000 in
theorem zk_f : (List.range 13).all (fun o => (zFTs.getD o []).all (zfP o)) = true := by decide +kernel
def zcP (o : Nat) (e : Nat × Nat × Nat × Nat) : Bool := match e.2.2.1 with
  | 3 => decide (zBG[e.2.2.2]? = some (.methodLink (zNo o) e.1 objectInit))
  | 4 => decide (zBG[e.2.2.2]? = some (.methodLink (zNo o) e.1 Lib.Math.max.name))
  | 5 => decide (zBG[e.2.2.2]? = some (.methodLink (zNo o) e.1 Lib.Math.min.name))
  | k => (if k < 10 then decide (zBG[e.2.2.2]? = some (.methodLink (zNo o) e.1 (zY e.2.1))) else decide (zNS[e.2.2.2]? = some (zNo o, e.1, zY e.2.1, RX8))) && decide (zKi e.2.1 = k % 10) && decide (e.2.1 < 85)
set_option maxRecDepth 100000 in
theorem zk_c : (List.range 13).all (fun o => (zCTs.getD o []).all (zcP o)) = true := by decide +kernel
def zlP (o : Nat) (e : Nat × Nat × Nat) : Bool := decide (zBG[e.2.2]? = some (.classLink (zNo o) e.1 (zNo e.2.1))) && decide (e.2.1 < 9)
set_option maxRecDepth 100000 in
theorem zk_l : (List.range 13).all (fun o => (zCLs.getD o []).all (zlP o)) = true := by decide +kernel
set_option maxRecDepth 100000 in
theorem zk_i : (List.range 13).all (fun o => (zKIs.getD o []).all (fun e => decide (zBG[e.2.2]? = some (.constant (zNo o) e.1 e.2.1)))) = true := by decide +kernel
set_option maxRecDepth 100000 in
theorem zk_j : (List.range 13).all (fun o => (zKLs.getD o []).all (fun e => decide (zBG[e.2.2]? = some (.constantLong (zNo o) e.1 e.2.1)))) = true := by decide +kernel
set_option maxRecDepth 100000 in
theorem zk_n : (List.range 9).all (fun ci => decide (zBG[zSW.getD ci 0]? = some (.instantiable (zNo ci) (zNF ci))) && decide (zBG[zIW.getD ci 0]? = some (.initialized (zNo ci)))) = true := by decide +kernel
theorem zk_o : Jvm.Cond.instanceMethod objectInit ∈ zBG ∧ Jvm.Cond.code objectInit ⟨#[0xb1]⟩ 1 none ∈ zBG ∧ Jvm.Cond.arrayClass .int ∈ zBG := ⟨List.mem_of_getElem? (i := 10) (by decide +kernel), List.mem_of_getElem? (i := 11) (by decide +kernel), List.mem_of_getElem? (i := 3) (by decide +kernel)⟩
