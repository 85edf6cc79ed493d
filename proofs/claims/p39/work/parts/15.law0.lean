def z0 : zSt := (fun _ _ => 0, fun _ _ => 0, fun _ _ => .null, 0)
/-- the law over the small machine -/
def zLaw (X : Nat × (Nat → Int32)) : Prop := ∀ V, zOk (zSp X 7) X mL_law 31 V (fun r _ => r = some (.int 1)) → V 0 [(0, .ref zsc)] [] z0
theorem zNS_in : ∀ q ∈ zNS, Jvm.Cond.methodLinkNest q.1 q.2.1 q.2.2.1 q.2.2.2 ∈ lw_tbl := by decide +kernel
theorem zSS_31 : zSS 31 = 597 := by decide +kernel
