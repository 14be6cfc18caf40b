def fnd3 {α : Type} (l : List (Nat × Nat × α)) (a b : Nat) : Option α := match l with
  | [] => none
  | q :: r => if q.1 = a ∧ q.2.1 = b then some q.2.2 else fnd3 r a b
theorem fnd3_mem {α : Type} {l : List (Nat × Nat × α)} {a b : Nat} {x : α} (h : fnd3 l a b = some x) : (a, b, x) ∈ l := by
  induction l with
  | nil => simp [fnd3] at h
  | cons q r ih =>
    obtain ⟨q1, q2, q3⟩ := q
    by_cases hc : q1 = a ∧ q2 = b
    · simp only [fnd3, hc, and_self, if_true] at h
      obtain ⟨rfl, rfl⟩ := hc
      cases h
      exact List.mem_cons_self
    · simp only [fnd3, hc, if_false] at h
      exact List.mem_cons_of_mem _ (ih h)
/-- pairs of a table switch -/
def tps (pc : Int) : Int → List Int → List (Int × Int)
  | _, [] => []
  | k, o :: r => (k, pc + o) :: tps pc (k + 1) r
def nng (pc : Int) (l : List Int) : Bool := l.all fun o => decide (0 ≤ pc + o)
/-- the resolved form of an instruction: in class own, of a constructor (ini), of a method that answers ret, of the law (lw) -/
def nrm (own : Nat) (ini : Bool) (ret : Option FieldType) (lw : Bool) (pc : Nat) (raw : Instr) (len : Nat) : Option Instr := match raw, len with
  | .iconst n, 1 => if -1 ≤ n ∧ n ≤ 5 then some (.iconst n) else none
  | .bipush n, 2 => if -128 ≤ n ∧ n < 128 then some (.bipush n) else none
  | .sipush n, 3 => if -32768 ≤ n ∧ n < 32768 then some (.sipush n) else none
  | .ldc i, 2 => match fnd3 kln own i with
    | some q => if -32768 ≤ q.1 ∧ q.1 < 100000 then some (.sipush q.1) else none
    | none => none
  | .ldc2_w i, 3 => match fnd3 lln own i with
    | some q => some (.ldc2_w q.1)
    | none => none
  | .iload i, 2 => some (.iload i)
  | .iload_n k, 1 => some (.iload k.val)
  | .aload i, 2 => some (.aload i)
  | .aload_n k, 1 => some (.aload k.val)
  | .lload i, 2 => some (.lload i)
  | .lload_n k, 1 => some (.lload k.val)
  | .istore i, 2 => some (.istore i)
  | .istore_n k, 1 => some (.istore k.val)
  | .astore i, 2 => some (.astore i)
  | .astore_n k, 1 => some (.astore k.val)
  | .lstore i, 2 => some (.lstore i)
  | .lstore_n k, 1 => some (.lstore k.val)
  | .iinc i n, 3 => some (.iinc i n)
  | .iadd, 1 => some .iadd
  | .isub, 1 => some .isub
  | .imul, 1 => some .imul
  | .irem, 1 => some .irem
  | .iand, 1 => some .iand
  | .ixor, 1 => some .ixor
  | .ladd, 1 => some .ladd
  | .lmul, 1 => some .lmul
  | .i2l, 1 => some .i2l
  | .lcmp, 1 => some .lcmp
  | .dup, 1 => some .dup
  | .dup2, 1 => some .dup2
  | .pop, 1 => some .pop
  | .ifCond c off, 3 => if 0 ≤ (pc : Int) + off then some (.ifCond c ((pc : Int) + off)) else none
  | .if_icmp c off, 3 => if 0 ≤ (pc : Int) + off then some (.if_icmp c ((pc : Int) + off)) else none
  | .goto off, 3 => if 0 ≤ (pc : Int) + off then some (.goto ((pc : Int) + off)) else none
  | .tableswitch d lo hi offs, _ => if 0 ≤ (pc : Int) + d ∧ nng pc offs.toList = true ∧ (offs.size : Int) = hi - lo + 1 then some (.lookupswitch ((pc : Int) + d) (tps pc lo offs.toList).toArray) else none
  | .lookupswitch d ps, _ => if 0 ≤ (pc : Int) + d ∧ nng pc (ps.toList.map fun q => q.2) = true ∧ (ps.toList.zip (ps.toList.drop 1)).all (fun (a, next) => a.1 < next.1) = true then some (.lookupswitch ((pc : Int) + d) (ps.toList.map fun q => (q.1, (pc : Int) + q.2)).toArray) else none
  | .getfield i, 3 => match fnd3 fln own i with
    | some q => some (if rfl_ q.1 q.2.1 = true then .getstatic (64 * q.1 + q.2.1) else .getfield (64 * q.1 + q.2.1))
    | none => none
  | .putfield i, 3 => match fnd3 fln own i with
    | some q => if (fT q.1 q.2.1).2.2.2 = false ∨ (ini = true ∧ q.1 = own) then some (if rfl_ q.1 q.2.1 = true then .putstatic (64 * q.1 + q.2.1) else if fty q.1 q.2.1 = .boolean then .instanceof (64 * q.1 + q.2.1) else .putfield (64 * q.1 + q.2.1)) else none
    | none => none
  | .iaload, 1 => some (if lw = true then .baload else .iaload)
  | .iastore, 1 => some .iastore
  | .aaload, 1 => some .aaload
  | .aastore, 1 => some .aastore
  | .arraylength, 1 => some (if lw = true then .athrow else .arraylength)
  | .new i, 3 => match fnd3 cln own i with
    | some q => some (.new q.1)
    | none => none
  | .newarray .int, 2 => some (.newarray .int)
  | .anewarray i, 3 => match fnd3 cln own i with
    | some q => if q.1 = 0 ∨ q.1 = 4 then some (.anewarray q.1) else none
    | none => none
  | .invokevirtual i, 3 => match fnd3 mln own i with
    | some q => if q.2.1 = 0 ∧ (mtab.getD q.1 (99, "", "", 0, 0)).2.2.2.2 = 0 then some (.invokevirtual q.1) else none
    | none => none
  | .invokespecial i, 3 => match fnd3 oin own i with
    | some _ => some .monitorexit
    | none => match fnd3 mln own i with
      | some q => if (mtab.getD q.1 (99, "", "", 0, 0)).2.2.2.2 = 1 ∧ (q.2.1 = 0 ∨ (own = 4 ∧ i = 17 ∧ q.1 = 0) ∨ (own = 0 ∧ i = 45 ∧ q.1 = 22) ∨ (own = 5 ∧ i = 22 ∧ q.1 = 33)) then some (.invokespecial q.1) else none
      | none => none
  | .invokestatic i, 3 => match fnd3 acn own i with
    | some _ => some .monitorenter
    | none => match fnd3 mln own i with
      | some q => if q.2.1 = 0 ∧ (mtab.getD q.1 (99, "", "", 0, 0)).2.2.2.2 = 2 then some (.invokestatic q.1) else none
      | none => none
  | .ireturn, 1 => if ret = some .int then some .ireturn else if ret = some .boolean then some .freturn else none
  | .lreturn, 1 => if ret = some .long then some .lreturn else none
  | .areturn, 1 => match ret with
    | some (.object _) => some .areturn
    | _ => none
  | .return_, 1 => if ret = none then some .return_ else none
  | _, _ => none
def mini (m : Nat) : Bool := decide ((mtab.getD m (99, "", "", 0, 0)).2.2.2.2 = 1)
def chkL (bs : ByteArray) (own : Nat) (ini : Bool) (ret : Option FieldType) (lw : Bool) (l : List (Nat × Instr × Nat)) : Bool := l.all fun q => match decode bs q.1 with
  | .ok (raw, len) => decide (len = q.2.2) && decide (nrm own ini ret lw q.1 raw len = some q.2.1)
  | _ => false
def chk (m : Nat) : Bool := match mt m with
  | (_, _, bs, _, ret, _, _) => chkL bs (mcl m) (mini m) ret (decide (m = 159)) (ccs m)
set_option maxRecDepth 20000 in
theorem chk_0 : chk 0 = true := by decide +kernel
set_option maxRecDepth 20000 in
theorem chk_1 : chk 1 = true := by decide +kernel
set_option maxRecDepth 20000 in
theorem chk_2 : chk 2 = true := by decide +kernel
set_option maxRecDepth 20000 in
theorem chk_3 : chk 3 = true := by decide +kernel
set_option maxRecDepth 20000 in
theorem chk_4 : chk 4 = true := by decide +kernel
set_option maxRecDepth 20000 in
theorem chk_5 : chk 5 = true := by decide +kernel
set_option maxRecDepth 20000 in
theorem chk_6 : chk 6 = true := by decide +kernel
set_option maxRecDepth 20000 in
theorem chk_7 : chk 7 = true := by decide +kernel
set_option maxRecDepth 20000 in
theorem chk_8 : chk 8 = true := by decide +kernel
set_option maxRecDepth 20000 in
theorem chk_9 : chk 9 = true := by decide +kernel
set_option maxRecDepth 20000 in
theorem chk_10 : chk 10 = true := by decide +kernel
set_option maxRecDepth 20000 in
theorem chk_11 : chk 11 = true := by decide +kernel
set_option maxRecDepth 20000 in
theorem chk_12 : chk 12 = true := by decide +kernel
set_option maxRecDepth 20000 in
theorem chk_13 : chk 13 = true := by decide +kernel
set_option maxRecDepth 20000 in
theorem chk_14 : chk 14 = true := by decide +kernel
set_option maxRecDepth 20000 in
theorem chk_15 : chk 15 = true := by decide +kernel
set_option maxRecDepth 20000 in
theorem chk_16 : chk 16 = true := by decide +kernel
set_option maxRecDepth 20000 in
theorem chk_17 : chk 17 = true := by decide +kernel
set_option maxRecDepth 20000 in
theorem chk_18 : chk 18 = true := by decide +kernel
set_option maxRecDepth 20000 in
theorem chk_19 : chk 19 = true := by decide +kernel
set_option maxRecDepth 20000 in
theorem chk_20 : chk 20 = true := by decide +kernel
set_option maxRecDepth 20000 in
theorem chk_21 : chk 21 = true := by decide +kernel
set_option maxRecDepth 20000 in
theorem chk_22 : chk 22 = true := by decide +kernel
set_option maxRecDepth 20000 in
theorem chk_23 : chk 23 = true := by decide +kernel
set_option maxRecDepth 20000 in
theorem chk_24 : chk 24 = true := by decide +kernel
set_option maxRecDepth 20000 in
theorem chk_25 : chk 25 = true := by decide +kernel
set_option maxRecDepth 20000 in
theorem chk_26 : chk 26 = true := by decide +kernel
set_option maxRecDepth 20000 in
theorem chk_27 : chk 27 = true := by decide +kernel
set_option maxRecDepth 20000 in
theorem chk_28 : chk 28 = true := by decide +kernel
set_option maxRecDepth 20000 in
theorem chk_29 : chk 29 = true := by decide +kernel
set_option maxRecDepth 20000 in
theorem chk_30 : chk 30 = true := by decide +kernel
set_option maxRecDepth 20000 in
theorem chk_31 : chk 31 = true := by decide +kernel
set_option maxRecDepth 20000 in
theorem chk_32 : chk 32 = true := by decide +kernel
set_option maxRecDepth 20000 in
theorem chk_33 : chk 33 = true := by decide +kernel
set_option maxRecDepth 20000 in
theorem chk_34 : chk 34 = true := by decide +kernel
set_option maxRecDepth 20000 in
theorem chk_35 : chk 35 = true := by decide +kernel
set_option maxRecDepth 20000 in
theorem chk_36 : chk 36 = true := by decide +kernel
set_option maxRecDepth 20000 in
theorem chk_37 : chk 37 = true := by decide +kernel
set_option maxRecDepth 20000 in
theorem chk_38 : chk 38 = true := by decide +kernel
set_option maxRecDepth 20000 in
theorem chk_39 : chk 39 = true := by decide +kernel
set_option maxRecDepth 20000 in
theorem chk_40 : chk 40 = true := by decide +kernel
set_option maxRecDepth 20000 in
theorem chk_41 : chk 41 = true := by decide +kernel
set_option maxRecDepth 20000 in
theorem chk_42 : chk 42 = true := by decide +kernel
set_option maxRecDepth 20000 in
theorem chk_43 : chk 43 = true := by decide +kernel
set_option maxRecDepth 20000 in
theorem chk_44 : chk 44 = true := by decide +kernel
set_option maxRecDepth 20000 in
theorem chk_45 : chk 45 = true := by decide +kernel
set_option maxRecDepth 20000 in
theorem chk_46 : chk 46 = true := by decide +kernel
set_option maxRecDepth 20000 in
theorem chk_47 : chk 47 = true := by decide +kernel
set_option maxRecDepth 20000 in
theorem chk_48 : chk 48 = true := by decide +kernel
set_option maxRecDepth 20000 in
theorem chk_49 : chk 49 = true := by decide +kernel
set_option maxRecDepth 20000 in
theorem chk_50 : chk 50 = true := by decide +kernel
set_option maxRecDepth 20000 in
theorem chk_51 : chk 51 = true := by decide +kernel
set_option maxRecDepth 20000 in
theorem chk_52 : chk 52 = true := by decide +kernel
set_option maxRecDepth 20000 in
theorem chk_53 : chk 53 = true := by decide +kernel
set_option maxRecDepth 20000 in
theorem chk_54 : chk 54 = true := by decide +kernel
set_option maxRecDepth 20000 in
theorem chk_55 : chk 55 = true := by decide +kernel
set_option maxRecDepth 20000 in
theorem chk_56 : chk 56 = true := by decide +kernel
set_option maxRecDepth 20000 in
theorem chk_57 : chk 57 = true := by decide +kernel
set_option maxRecDepth 20000 in
theorem chk_58 : chk 58 = true := by decide +kernel
set_option maxRecDepth 20000 in
theorem chk_59 : chk 59 = true := by decide +kernel
set_option maxRecDepth 20000 in
theorem chk_60 : chk 60 = true := by decide +kernel
set_option maxRecDepth 20000 in
theorem chk_61 : chk 61 = true := by decide +kernel
set_option maxRecDepth 20000 in
theorem chk_62 : chk 62 = true := by decide +kernel
set_option maxRecDepth 20000 in
theorem chk_63 : chk 63 = true := by decide +kernel
set_option maxRecDepth 20000 in
theorem chk_64 : chk 64 = true := by decide +kernel
set_option maxRecDepth 20000 in
theorem chk_65 : chk 65 = true := by decide +kernel
set_option maxRecDepth 20000 in
theorem chk_66 : chk 66 = true := by decide +kernel
set_option maxRecDepth 20000 in
theorem chk_67 : chk 67 = true := by decide +kernel
set_option maxRecDepth 20000 in
theorem chk_68 : chk 68 = true := by decide +kernel
set_option maxRecDepth 20000 in
theorem chk_69 : chk 69 = true := by decide +kernel
set_option maxRecDepth 20000 in
theorem chk_70 : chk 70 = true := by decide +kernel
set_option maxRecDepth 20000 in
theorem chk_71 : chk 71 = true := by decide +kernel
set_option maxRecDepth 20000 in
theorem chk_72 : chk 72 = true := by decide +kernel
set_option maxRecDepth 20000 in
theorem chk_73 : chk 73 = true := by decide +kernel
set_option maxRecDepth 20000 in
theorem chk_74 : chk 74 = true := by decide +kernel
set_option maxRecDepth 20000 in
theorem chk_75 : chk 75 = true := by decide +kernel
set_option maxRecDepth 20000 in
theorem chk_76 : chk 76 = true := by decide +kernel
set_option maxRecDepth 20000 in
theorem chk_77 : chk 77 = true := by decide +kernel
set_option maxRecDepth 20000 in
theorem chk_78 : chk 78 = true := by decide +kernel
set_option maxRecDepth 20000 in
theorem chk_79 : chk 79 = true := by decide +kernel
