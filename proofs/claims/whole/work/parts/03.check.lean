/-! THE PURE MACHINE'S CODE IS THE PROGRAM'S: rows of 02, held against the bytes and the tables by one decision each -/
def fk (f : Nat) : Nat := (fkL.getD (f / 100) []).getD (f % 100) 0
def ff (f : Nat) : Bool := (ffL.getD (f / 100) []).getD (f % 100) false
def fT (f : Nat) : String × String × String × Bool := (vwCl.getD (f / 100) (RX0, TX0, 0)).2.1 (f % 100)
def fN (c : Nat) : Nat := (vwCl.getD c (RX0, TX0, 0)).2.2
def lkF3 (own ix : Nat) : List (Nat × Nat × Nat × Bool × Nat) → Option Nat
  | [] => none
  | e :: r => if e.1 = own ∧ e.2.1 = ix then some e.2.2.1 else lkF3 own ix r
def lkC3 (own ix : Nat) : List (Nat × Nat × Nat × Nat) → Option Nat
  | [] => none
  | e :: r => if e.1 = own ∧ e.2.1 = ix then some e.2.2.1 else lkC3 own ix r
def lkI3 (own ix : Nat) : List (Nat × Nat × Int × Nat) → Option Int
  | [] => none
  | e :: r => if e.1 = own ∧ e.2.1 = ix then some e.2.2.1 else lkI3 own ix r
def lkO3 (own ix : Nat) : List (Nat × Nat × Nat) → Bool
  | [] => false
  | e :: r => if e.1 = own ∧ e.2.1 = ix then true else lkO3 own ix r
/-- the table of a switch, its keys from lo on, as pairs with places -/
def tsw (pc : Nat) : Int → List Int → List (Int × Int)
  | _, [] => []
  | lo, o :: r => (lo, pc + o) :: tsw pc (lo + 1) r
def dsw (pc : Nat) : List (Int × Int) → List (Int × Int)
  | [] => []
  | e :: r => (e.1, pc + e.2) :: dsw pc r
/-- an instruction as it stands in the bytes of a method of class own, resolved: constants, fields, methods by number, jumps by place, every switch as pairs -/
def cnv (own pc : Nat) (raw : Instr) : Option Instr := match raw with
  | .aload_n k => some (.aload k)
  | .iload_n k => some (.iload k)
  | .lload_n k => some (.lload k)
  | .astore_n k => some (.astore k)
  | .istore_n k => some (.istore k)
  | .lstore_n k => some (.lstore k)
  | .iconst n => if -128 ≤ n ∧ n < 128 then some (.bipush n) else none
  | .bipush n => if -128 ≤ n ∧ n < 128 then some (.bipush n) else none
  | .sipush n => if -32768 ≤ n ∧ n < 32768 then some (.bipush n) else none
  | .lconst n => some (.sipush ((n : Nat) : Int))
  | .ldc i => (lkI3 own i lkI).map .bipush
  | .ldc_w i => (lkI3 own i lkI).map .bipush
  | .ldc2_w i => (lkI3 own i lkJ).map .sipush
  | .getfield i => (lkF3 own i lkF).map .getfield
  | .putfield i => (lkF3 own i lkF).map .putfield
  | .invokevirtual i => if lkO3 own i lkN = true then some (.invokedynamic 0) else (lkF3 own i lkM).map .invokevirtual
  | .invokespecial i => if lkO3 own i lkO = true then some (.invokespecial 9999) else (lkF3 own i lkM).map .invokespecial
  | .invokestatic i => if lkO3 own i lkA = true then some (.invokedynamic 1) else if lkO3 own i lkX2 = true then some (.invokedynamic 2) else if lkO3 own i lkX3 = true then some (.invokedynamic 3) else if lkO3 own i lkX4 = true then some (.invokedynamic 4) else (lkF3 own i lkM).map .invokestatic
  | .new i => (lkC3 own i lkC).map .new
  | .anewarray i => if (lkC3 own i lkC) = some 1 then some (.anewarray 0) else none
  | .multianewarray i 2 => if lkO3 own i lkW = true then some (.multianewarray 0 2) else none
  | .checkcast i => if lkO3 own i lkV = true then some (.checkcast 0) else none
  | .ifCond c o => if 0 ≤ pc + o then some (.ifCond c (pc + o)) else none
  | .if_icmp c o => if 0 ≤ pc + o then some (.if_icmp c (pc + o)) else none
  | .goto o => if 0 ≤ pc + o then some (.goto (pc + o)) else none
  | .ifnull o => if 0 ≤ pc + o then some (.ifnull (pc + o)) else none
  | .ifnonnull o => if 0 ≤ pc + o then some (.ifnonnull (pc + o)) else none
  | .lookupswitch d ps => if (ps.toList.zip (ps.toList.drop 1)).all (fun (a, next) => decide (a.1 < next.1)) = true ∧ 0 ≤ pc + d ∧ (ps.toList.all fun e => decide (0 ≤ pc + e.2 ∧ -2147483648 ≤ e.1 ∧ e.1 < 2147483648)) = true then some (.lookupswitch (pc + d) (dsw pc ps.toList).toArray) else none
  | .tableswitch d lo hi os => if lo + os.toList.length = hi + 1 ∧ 0 ≤ pc + d ∧ (os.toList.all fun e => decide (0 ≤ pc + e)) = true then some (.lookupswitch (pc + d) (tsw pc lo os.toList).toArray) else none
  | .aload k => some (.aload k)
  | .iload k => some (.iload k)
  | .lload k => some (.lload k)
  | .astore k => some (.astore k)
  | .istore k => some (.istore k)
  | .lstore k => some (.lstore k)
  | .iinc k n => some (.iinc k n)
  | .newarray t => some (.newarray t)
  | .aaload => some .aaload
  | .aastore => some .aastore
  | .aconst_null => some .aconst_null
  | .areturn => some .areturn
  | .arraylength => some .arraylength
  | .baload => some .baload
  | .bastore => some .bastore
  | .caload => some .caload
  | .castore => some .castore
  | .dup => some .dup
  | .dup2 => some .dup2
  | .i2b => some .i2b
  | .i2l => some .i2l
  | .iadd => some .iadd
  | .iaload => some .iaload
  | .iand => some .iand
  | .iastore => some .iastore
  | .idiv => some .idiv
  | .imul => some .imul
  | .ior => some .ior
  | .irem => some .irem
  | .ireturn => some .ireturn
  | .ishl => some .ishl
  | .ishr => some .ishr
  | .isub => some .isub
  | .iushr => some .iushr
  | .l2i => some .l2i
  | .ladd => some .ladd
  | .laload => some .laload
  | .land => some .land
  | .lastore => some .lastore
  | .lcmp => some .lcmp
  | .ldiv => some .ldiv
  | .lmul => some .lmul
  | .lor => some .lor
  | .lrem => some .lrem
  | .lreturn => some .lreturn
  | .lshl => some .lshl
  | .lshr => some .lshr
  | .lsub => some .lsub
  | .lushr => some .lushr
  | .lxor => some .lxor
  | .pop => some .pop
  | .return_ => some .return_
  | _ => none
/-- the bytes that an instruction takes (of a switch: as many as it says) -/
def ilen (n : Nat) (raw : Instr) : Nat := match raw with
  | .lookupswitch _ _ => n
  | .tableswitch _ _ _ _ => n
  | .bipush _ | .ldc _ | .iload _ | .lload _ | .aload _ | .istore _ | .lstore _ | .astore _ | .newarray _ => 2
  | .sipush _ | .ldc_w _ | .ldc2_w _ | .iinc _ _ | .getfield _ | .putfield _ | .invokevirtual _ | .invokespecial _ | .invokestatic _ | .new _ | .anewarray _ | .checkcast _ | .ifCond _ _ | .if_icmp _ _ | .goto _ | .ifnull _ | .ifnonnull _ => 3
  | .multianewarray _ _ => 4
  | _ => 1
/-- one row of a method's code, held against its bytes -/
def chk1 (own : Nat) (b : ByteArray) (e : Nat × Instr × Nat) : Bool := match decode b e.1 with
  | .ok (raw, n) => n == e.2.2 && n == ilen n raw && decide (cnv own e.1 raw = some e.2.1)
  | _ => false
def chkM (m : Nat) : Bool := (pcode m).all (chk1 (minf m).2.2.2.2.1 (minf m).2.1)
def lk (pc : Nat) : List (Nat × Instr × Nat) → Option (Instr × Nat)
  | [] => none
  | e :: r => bif Nat.beq e.1 pc then some e.2 else lk pc r
def codeAt (m pc : Nat) : Option (Instr × Nat) := lk pc (pcode m)
theorem all_app {α : Type} {p : α → Bool} {a b : List α} (h1 : a.all p = true) (h2 : b.all p = true) : (a ++ b).all p = true := by rw [List.all_append, h1, h2]; rfl
theorem chk_F : lkF.all (fun e => decide (lw_tbl[e.2.2.2.2]? = some (if e.2.2.2.1 then Cond.fieldLinkNest (cnm e.1) e.2.1 (fT e.2.2.1).1 (fT e.2.2.1).2.1 (fT e.2.2.1).2.2.1 "SquadronFlags" else Cond.fieldLink (cnm e.1) e.2.1 (fT e.2.2.1).1 (fT e.2.2.1).2.1 (fT e.2.2.1).2.2.1)) && decide (e.2.2.1 / 100 < 13 ∧ e.2.2.1 % 100 < fN (e.2.2.1 / 100))) = true := by decide +kernel
theorem chk_M : lkM.all (fun e => decide (lw_tbl[e.2.2.2.2]? = some (if e.2.2.2.1 then Cond.methodLinkNest (cnm e.1) e.2.1 (minf e.2.2.1).1 "SquadronFlags" else Cond.methodLink (cnm e.1) e.2.1 (minf e.2.2.1).1)) && decide (e.2.2.1 < M_L_law)) = true := by decide +kernel
theorem chk_O : lkO.all (fun e => decide (lw_tbl[e.2.2]? = some (Cond.methodLink (cnm e.1) e.2.1 Lib.objectInit))) = true := by decide +kernel
theorem chk_C : lkC.all (fun e => decide (lw_tbl[e.2.2.2]? = some (Cond.classLink (cnm e.1) e.2.1 (cnm e.2.2.1))) && decide (e.2.2.1 < 13)) = true := by decide +kernel
theorem chk_I : lkI.all (fun e => decide (lw_tbl[e.2.2.2]? = some (Cond.constant (cnm e.1) e.2.1 (Int32.ofInt e.2.2.1))) && decide (-2147483648 ≤ e.2.2.1 ∧ e.2.2.1 < 2147483648)) = true := by decide +kernel
theorem chk_J : lkJ.all (fun e => decide (lw_tbl[e.2.2.2]? = some (Cond.constantLong (cnm e.1) e.2.1 (Int64.ofInt e.2.2.1))) && decide (-9223372036854775808 ≤ e.2.2.1 ∧ e.2.2.1 < 9223372036854775808)) = true := by decide +kernel
theorem chk_A : lkA.all (fun e => decide (lw_tbl[e.2.2]? = some (Cond.methodLink (cnm e.1) e.2.1 arraycopyName))) = true := by decide +kernel
theorem chk_X2 : lkX2.all (fun e => decide (lw_tbl[e.2.2]? = some (Cond.methodLink (cnm e.1) e.2.1 Lib.Math.min.name))) = true := by decide +kernel
theorem chk_X3 : lkX3.all (fun e => decide (lw_tbl[e.2.2]? = some (Cond.methodLink (cnm e.1) e.2.1 Lib.MathLoose.max_long.x))) = true := by decide +kernel
theorem chk_X4 : lkX4.all (fun e => decide (lw_tbl[e.2.2]? = some (Cond.methodLink (cnm e.1) e.2.1 Lib.MathLoose.min_long.x))) = true := by decide +kernel
theorem chk_N : lkN.all (fun e => decide (lw_tbl[e.2.2]? = some (Cond.methodLink (cnm e.1) e.2.1 ⟨"[I", "clone", "()Ljava/lang/Object;"⟩))) = true := by decide +kernel
theorem chk_V : lkV.all (fun e => decide (lw_tbl[e.2.2]? = some (Cond.classLink (cnm e.1) e.2.1 "[I"))) = true := by decide +kernel
theorem chk_W : lkW.all (fun e => decide (lw_tbl[e.2.2]? = some (Cond.classLink (cnm e.1) e.2.1 "[[I"))) = true := by decide +kernel
/-- a method's own words, and what its name and its descriptor say -/
def chkW (m : Nat) : Bool :=
  let i := minf m
  let q := mpl.getD m (0, 0, 0, 0)
  decide (lw_tbl[q.2.1]? = some (Cond.initialized i.1.cls)) &&
  decide (lw_tbl[q.2.2.1]? = some (if i.2.2.2.2.2.1 = 0 then Cond.static i.1 else Cond.instanceMethod i.1)) &&
  (decide (i.2.2.2.2.2.1 ≠ 1) || decide (lw_tbl[q.2.2.2]? = some (Cond.selects i.1.cls i.1 i.1))) &&
  decide (i.1.cls = cnm i.2.2.2.2.1) && decide ((i.1.name = "<init>") = (i.2.2.2.2.2.1 = 2)) &&
  decide (i.1.cls ≠ "java/lang/invoke/MethodHandle") && decide (i.1.cls ≠ "java/lang/invoke/VarHandle") && plainName i.1.cls &&
  decide ((parseMethodDescriptor i.1.desc).map (fun d => d.parameters.length) = some (if i.2.2.2.2.2.1 = 0 then i.2.2.2.2.2.2.1 else i.2.2.2.2.2.2.1 - 1)) && decide (i.2.2.2.2.1 < 16) && decide (i.2.2.1 ≤ 16) &&
  decide (i.2.2.2.1 = (if i.2.2.2.2.2.2.2 = 0 then none else if i.2.2.2.2.2.2.2 = 1 then some .int else if i.2.2.2.2.2.2.2 = 2 then some .long else if i.2.2.2.2.2.2.2 = 4 then some .boolean else i.2.2.2.1)) && (decide (i.2.2.2.2.2.2.2 ≠ 3) || decide (i.2.2.2.1 = some (.object "SquadronFlags$Book") ∨ i.2.2.2.1 = some (.array .int)))
