-- tables
def zY (m : Nat) : MethodName := (zM.getD m (yX0_init, cX0_init, 0, none, 0, 0, 0, 0)).1
def zB (m : Nat) : ByteArray := (zM.getD m (yX0_init, cX0_init, 0, none, 0, 0, 0, 0)).2.1
def zML (m : Nat) : Nat := (zM.getD m (yX0_init, cX0_init, 0, none, 0, 0, 0, 0)).2.2.1
def zRT (m : Nat) : Option FieldType := (zM.getD m (yX0_init, cX0_init, 0, none, 0, 0, 0, 0)).2.2.2.1
def zOw (m : Nat) : Nat := (zM.getD m (yX0_init, cX0_init, 0, none, 0, 0, 0, 0)).2.2.2.2.1
def zAl (m : Nat) : Nat := (zM.getD m (yX0_init, cX0_init, 0, none, 0, 0, 0, 0)).2.2.2.2.2.1
def zNa (m : Nat) : Nat := (zM.getD m (yX0_init, cX0_init, 0, none, 0, 0, 0, 0)).2.2.2.2.2.2.1
def zKi (m : Nat) : Nat := (zM.getD m (yX0_init, cX0_init, 0, none, 0, 0, 0, 0)).2.2.2.2.2.2.2
def zcd (m pc : Nat) : Option (Instr × Nat) := (zC.getD m []).lookup pc
def zkd (a : Nat) : Nat × Nat := zKD.getD a (3, 0)
def zNF (ci : Nat) : Nat := zNFs.getD ci 0
def zNo (o : Nat) : String := zNm.getD o ""
def zTT (ci : Nat) : u_T := match ci with
  | 0 => TX0 | 1 => TX1 | 2 => TX2 | 3 => TX3 | 4 => TX4 | 5 => TX5 | 6 => TX6 | 7 => TX7 | 8 => TX8 | _ => TX9
def zTY (ci : Nat) : Nat → FieldType := match ci with
  | 0 => tyX0 | 1 => tyX1 | 2 => tyX2 | 3 => tyX3 | 4 => tyX4 | 5 => tyX5 | 6 => tyX6 | 7 => tyX7 | 8 => tyX8 | _ => tyX9
def zft (o i : Nat) : Option (Nat × Nat × Nat) := (zFTs.getD o []).lookup i
def zct (o i : Nat) : Option (Nat × Nat × Nat) := (zCTs.getD o []).lookup i
def zcl (o i : Nat) : Option (Nat × Nat) := (zCLs.getD o []).lookup i
def zki (o i : Nat) : Option (Int32 × Nat) := (zKIs.getD o []).lookup i
def zkl (o i : Nat) : Option (Int64 × Nat) := (zKLs.getD o []).lookup i
def zsc : Nat := 1000000
def zlen : Instr → Nat
  | .iload _ => 2 | .lload _ => 2 | .aload _ => 2 | .istore _ => 2 | .lstore _ => 2 | .astore _ => 2
  | .bipush _ => 2 | .sipush _ => 3 | .ldc _ => 2 | .ldc_w _ => 3 | .ldc2_w _ => 3 | .newarray _ => 2
  | .getfield _ => 3 | .putfield _ => 3 | .invokespecial _ => 3 | .invokestatic _ => 3 | .invokevirtual _ => 3 | .new _ => 3
  | .ifCond _ _ => 3 | .if_icmp _ _ => 3 | .ifnull _ => 3 | .goto _ => 3 | .iinc _ _ => 3
  | _ => 1
