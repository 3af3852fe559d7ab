/-- how many parameters; whether a call of c fits into what M asks for -/
def nar (c : Nat) : Option Nat := (parseMethodDescriptor (my c).desc).map (fun d => d.parameters.length)
def rmo (M c : Nat) : Bool := decide (mf c + 1 ≤ mf M) && decide (8 + (ml c + 11) + mlo c ≤ mlo M)
/-! THE DATA AND THE BYTES: tr reads a real instruction as data; each row of each table is so read -/
def tg (pc : Nat) (off : Int) : Nat := ((pc : Int) + off).toNat
def tgo (pc : Nat) (off : Int) : Bool := decide (0 ≤ (pc : Int) + off)
def swr (pc : Nat) (lo : Int) : List Int → List (Int × Nat)
  | [] => []
  | o :: os => (lo, tg pc o) :: swr pc (lo + 1) os
def swl (pc : Nat) (ps : List (Int × Int)) : List (Int × Nat) := ps.map fun q => (q.1, tg pc q.2)
def tr (M pc : Nat) (q : Instr × Nat) : Option Ent := match q with
  | (.iconst n, 1) => if -1 ≤ n ∧ n ≤ 5 then some (0, 0, n, pc + 1, []) else none
  | (.bipush n, 2) => if -128 ≤ n ∧ n ≤ 127 then some (0, 0, n, pc + 2, []) else none
  | (.sipush n, 3) => if -32768 ≤ n ∧ n ≤ 32767 then some (0, 0, n, pc + 3, []) else none
  | (.ldc i, 2) => (clk.lookup (mo M, i)).map fun v => (0, 0, v, pc + 2, [])
  | (.ldc_w i, 3) => (clk.lookup (mo M, i)).map fun v => (0, 0, v, pc + 3, [])
  | (.ldc2_w i, 3) => (cll.lookup (mo M, i)).map fun v => (7, 0, v, pc + 3, [])
  | (.lconst n, 1) => some (7, 0, ((n : Nat) : Int), pc + 1, [])
  | (.iload i, 2) => some (1, i, 0, pc + 2, [])
  | (.iload_n i, 1) => some (1, (i : Nat), 0, pc + 1, [])
  | (.istore i, 2) => if i < ml M then some (2, i, 0, pc + 2, []) else none
  | (.istore_n i, 1) => if (i : Nat) < ml M then some (2, (i : Nat), 0, pc + 1, []) else none
  | (.aload i, 2) => some (3, i, 0, pc + 2, [])
  | (.aload_n i, 1) => some (3, (i : Nat), 0, pc + 1, [])
  | (.astore i, 2) => if i < ml M then some (4, i, 0, pc + 2, []) else none
  | (.astore_n i, 1) => if (i : Nat) < ml M then some (4, (i : Nat), 0, pc + 1, []) else none
  | (.lload i, 2) => some (5, i, 0, pc + 2, [])
  | (.lload_n i, 1) => some (5, (i : Nat), 0, pc + 1, [])
  | (.lstore i, 2) => if i + 1 < ml M then some (6, i, 0, pc + 2, []) else none
  | (.lstore_n i, 1) => if (i : Nat) + 1 < ml M then some (6, (i : Nat), 0, pc + 1, []) else none
  | (.iinc i n, 3) => if (-128 ≤ n ∧ n ≤ 127) ∧ i < ml M then some (8, i, n, pc + 3, []) else none
  | (.dup, 1) => some (9, 0, 0, pc + 1, [])
  | (.dup2, 1) => some (10, 0, 0, pc + 1, [])
  | (.iadd, 1) => some (11, 0, 0, pc + 1, [])
  | (.isub, 1) => some (12, 0, 0, pc + 1, [])
  | (.imul, 1) => some (13, 0, 0, pc + 1, [])
  | (.idiv, 1) => some (14, 0, 0, pc + 1, [])
  | (.irem, 1) => some (15, 0, 0, pc + 1, [])
  | (.ineg, 1) => some (16, 0, 0, pc + 1, [])
  | (.ishl, 1) => some (17, 0, 0, pc + 1, [])
  | (.ishr, 1) => some (18, 0, 0, pc + 1, [])
  | (.iushr, 1) => some (19, 0, 0, pc + 1, [])
  | (.iand, 1) => some (20, 0, 0, pc + 1, [])
  | (.ior, 1) => some (21, 0, 0, pc + 1, [])
  | (.ixor, 1) => some (22, 0, 0, pc + 1, [])
  | (.ladd, 1) => some (23, 0, 0, pc + 1, [])
  | (.lmul, 1) => some (24, 0, 0, pc + 1, [])
  | (.ldiv, 1) => some (25, 0, 0, pc + 1, [])
  | (.lrem, 1) => some (26, 0, 0, pc + 1, [])
  | (.lcmp, 1) => some (27, 0, 0, pc + 1, [])
  | (.i2l, 1) => some (28, 0, 0, pc + 1, [])
  | (.ifCond .eq off, 3) => if tgo pc off = true then some (30, tg pc off, 0, pc + 3, []) else none
  | (.if_icmp .eq off, 3) => if tgo pc off = true then some (36, tg pc off, 0, pc + 3, []) else none
  | (.ifCond .ne off, 3) => if tgo pc off = true then some (31, tg pc off, 0, pc + 3, []) else none
  | (.if_icmp .ne off, 3) => if tgo pc off = true then some (37, tg pc off, 0, pc + 3, []) else none
  | (.ifCond .lt off, 3) => if tgo pc off = true then some (32, tg pc off, 0, pc + 3, []) else none
  | (.if_icmp .lt off, 3) => if tgo pc off = true then some (38, tg pc off, 0, pc + 3, []) else none
  | (.ifCond .ge off, 3) => if tgo pc off = true then some (33, tg pc off, 0, pc + 3, []) else none
  | (.if_icmp .ge off, 3) => if tgo pc off = true then some (39, tg pc off, 0, pc + 3, []) else none
  | (.ifCond .gt off, 3) => if tgo pc off = true then some (34, tg pc off, 0, pc + 3, []) else none
  | (.if_icmp .gt off, 3) => if tgo pc off = true then some (40, tg pc off, 0, pc + 3, []) else none
  | (.ifCond .le off, 3) => if tgo pc off = true then some (35, tg pc off, 0, pc + 3, []) else none
  | (.if_icmp .le off, 3) => if tgo pc off = true then some (41, tg pc off, 0, pc + 3, []) else none
  | (.ifnull off, 3) => if tgo pc off = true then some (42, tg pc off, 0, pc + 3, []) else none
  | (.ifnonnull off, 3) => if tgo pc off = true then some (43, tg pc off, 0, pc + 3, []) else none
  | (.goto off, 3) => if tgo pc off = true then some (44, tg pc off, 0, pc + 3, []) else none
  | (.tableswitch d lo hi offs, len) => if tgo pc d = true ∧ offs.toList.all (tgo pc) = true ∧ (offs.size : Int) = hi - lo + 1 then some (45, tg pc d, 0, pc + len, swr pc lo offs.toList) else none
  | (.lookupswitch d ps, len) => if tgo pc d = true ∧ ps.toList.all (fun q => tgo pc q.2) = true ∧ (ps.toList.zip (ps.toList.drop 1)).all (fun (a, next) => a.1 < next.1) = true then some (45, tg pc d, 0, pc + len, swl pc ps.toList) else none
  | (.getfield i, 3) => (fl.lookup (mo M, i)).map fun (k, s) => (if isr k s = true then 51 else 50, s, (k : Int), pc + 3, [])
  | (.putfield i, 3) => (fl.lookup (mo M, i)).bind fun (k, s) => if fin k s = true → (my M).name = "<init>" ∧ (cT k s).1 = oS (mo M) then some (if isr k s = true then 53 else 52, s, (k : Int), pc + 3, []) else none
  | (.arraylength, 1) => some (if mo M = 4 then 66 else 54, 0, 0, pc + 1, [])
  | (.iaload, 1) => some (if mo M = 4 then 65 else 55, 0, 0, pc + 1, [])
  | (.iastore, 1) => some (56, 0, 0, pc + 1, [])
  | (.baload, 1) => some (57, 0, 0, pc + 1, [])
  | (.bastore, 1) => some (58, 0, 0, pc + 1, [])
  | (.aaload, 1) => some (59, 0, 0, pc + 1, [])
  | (.aastore, 1) => some (60, 0, 0, pc + 1, [])
  | (.newarray .int, 2) => some (61, 0, 0, pc + 2, [])
  | (.newarray .boolean, 2) => some (62, 0, 0, pc + 2, [])
  | (.anewarray i, 3) => (nlk.lookup (mo M, i)).bind fun k => if k = 0 then some (63, 0, 0, pc + 3, []) else none
  | (.new i, 3) => (nlk.lookup (mo M, i)).map fun k => (64, k, 0, pc + 3, [])
  | (.ireturn, 1) => if mk M = 1 then some (70, 0, 0, pc + 1, []) else if mk M = 2 then some (71, 0, 0, pc + 1, []) else none
  | (.lreturn, 1) => if mk M = 3 then some (72, 0, 0, pc + 1, []) else none
  | (.return_, 1) => if mk M = 0 then some (73, 0, 0, pc + 1, []) else none
  | (.invokestatic i, 3) => (mlk.lookup (mo M, i)).bind fun (c, s) => if s = 0 ∨ s = 1 then (if rmo M c = true then (nar c).bind fun n => if n ≤ ml c then some (80, c, (n : Int), pc + 3, []) else none else none)
      else if 1 ≤ mf M ∧ 21 ≤ mlo M then (if s = 6 then some (86, 0, 0, pc + 3, []) else if s = 7 then some (87, 0, 0, pc + 3, []) else if s = 8 then some (88, 0, 0, pc + 3, []) else none) else none
  | (.invokevirtual i, 3) => (mlk.lookup (mo M, i)).bind fun (c, s) => if s = 2 ∧ rmo M c = true then (nar c).bind fun n => if n + 1 ≤ ml c then some (82, c, (n : Int), pc + 3, []) else none else none
  | (.invokespecial i, 3) => (mlk.lookup (mo M, i)).bind fun (c, s) => if (s = 3 ∨ s = 4) ∧ rmo M c = true then (nar c).bind fun n => if n + 1 ≤ ml c then some (83, c, (n : Int), pc + 3, []) else none else if s = 5 ∧ 1 ≤ mf M ∧ 20 ≤ mlo M then some (85, 0, 0, pc + 3, []) else none
  | _ => none
def okr (M : Nat) (q : Nat × Ent) : Bool := match decode (mb M) q.1 with
  | .ok i => (match tr M q.1 i with
    | some e => decide (e = q.2)
    | none => false)
  | .error _ => false
