/-! THE PICTURE MACHINE: a small machine over whole numbers, addresses counted from 2 on (0: null, 1: the script), that runs the resolved code 'cd'. -/
abbrev av_V : Type := Int ⊕ (Nat ⊕ Int64)
abbrev av_L : Type := List (Nat × av_V)
/-- cells and slots made so far; kind and length of each cell; its whole numbers; its references -/
abbrev av_H : Type := (Nat × Nat) × (Nat → Nat × Nat) × (Nat → Nat → Int) × (Nat → Nat → Nat)
abbrev av_S : Type := Nat × (Nat → Int)
def wr (z : Int) : Int := (z + 2147483648) % 4294967296 - 2147483648
def kd (h : av_H) (a : Nat) : Nat × Nat := h.2.1 a
def gI (h : av_H) (a k : Nat) : Int := h.2.2.1 a k
def gR (h : av_H) (a k : Nat) : Nat := h.2.2.2 a k
def sI (h : av_H) (a k : Nat) (z : Int) : av_H := (h.1, h.2.1, fun b j => if b = a ∧ j = k then z else h.2.2.1 b j, h.2.2.2)
def sR (h : av_H) (a k r : Nat) : av_H := (h.1, h.2.1, h.2.2.1, fun b j => if b = a ∧ j = k then r else h.2.2.2 b j)
/-- a new cell of kind q with n slots -/
def al (h : av_H) (q n : Nat) : av_H := ((h.1.1 + 1, h.1.2 + n), fun b => if b = h.1.1 + 2 then (q, n) else h.2.1 b, fun b j => if b = h.1.1 + 2 then 0 else h.2.2.1 b j, fun b j => if b = h.1.1 + 2 then 0 else h.2.2.2 b j)
def cp (h : av_H) (a sp b dp n : Nat) : av_H := (h.1, h.2.1, fun c j => if c = b ∧ dp ≤ j ∧ j < dp + n then h.2.2.1 a (sp + (j - dp)) else h.2.2.1 c j, h.2.2.2)
def isL (v : av_V) : Bool := match v with
  | .inl _ => false
  | .inr (.inl _) => false
  | .inr (.inr _) => true
def lget : av_L → Nat → Option av_V
  | [], _ => none
  | q :: r, i => if q.1 = i then some q.2 else lget r i
def lins : av_L → Nat → av_V → av_L
  | [], i, v => [(i, v)]
  | q :: r, i, v => if i < q.1 then (i, v) :: q :: r else q :: lins r i v
/-- what a store at i leaves of the other locals -/
def lkeep (i : Nat) (v : av_V) (q : Nat × av_V) : Bool := !(q.1 == i) && (!(q.1 + 1 == i && isL q.2) && !(isL v && q.1 == i + 1))
def lset (l : av_L) (i : Nat) (v : av_V) : av_L := lins (l.filter (lkeep i v)) i v
def ent : Nat → List av_V → av_L
  | _, [] => []
  | i, v :: r => (i, v) :: ent (if isL v then i + 2 else i + 1) r
def asz : List av_V → Nat
  | [] => 0
  | v :: r => (if isL v then 2 else 1) + asz r
def sw (x : Int) : List (Int × Int) → Int → Int
  | [], d => d
  | q :: r, d => if x = q.1 then q.2 else sw x r d
/-- slots of the objects of a class -/
def nfl : Nat → Nat := fun c => match c with
  | 0 => 18
  | 1 => 5
  | 2 => 2
  | 3 => 5
  | 4 => 10
  | 5 => 5
  | _ => 8
abbrev av_R : Type := Option ((Nat × av_L × List av_V × av_H) ⊕ ((Option av_V) ⊕ (Nat × List av_V × List av_V)))
def nx (pc : Nat) (lv : av_L) (st : List av_V) (h : av_H) : av_R := some (.inl (pc, lv, st, h))
def rt (v : Option av_V) : av_R := some (.inr (.inl v))
def cl_ (j : Nat) (args rest : List av_V) : av_R := some (.inr (.inr (j, args, rest)))
/-- one instruction, in its resolved form -/
def act (sc : av_S) (ins : Instr) (pc len : Nat) (lv : av_L) (st : List av_V) (h : av_H) : av_R := match ins with
  | .iconst n => nx (pc + len) lv (.inl n :: st) h
  | .bipush n => nx (pc + len) lv (.inl n :: st) h
  | .sipush n => nx (pc + len) lv (.inl n :: st) h
  | .ldc2_w n => nx (pc + len) lv (.inr (.inr (Int64.ofNat n)) :: st) h
  | .iload i => match lget lv i with
    | some (.inl z) => nx (pc + len) lv (.inl z :: st) h
    | _ => none
  | .aload i => match lget lv i with
    | some (.inr (.inl a)) => nx (pc + len) lv (.inr (.inl a) :: st) h
    | _ => none
  | .lload i => match lget lv i with
    | some (.inr (.inr w)) => nx (pc + len) lv (.inr (.inr w) :: st) h
    | _ => none
  | .istore i => match st with
    | .inl z :: r => nx (pc + len) (lset lv i (.inl z)) r h
    | _ => none
  | .astore i => match st with
    | .inr (.inl a) :: r => nx (pc + len) (lset lv i (.inr (.inl a))) r h
    | _ => none
  | .lstore i => match st with
    | .inr (.inr w) :: r => nx (pc + len) (lset lv i (.inr (.inr w))) r h
    | _ => none
  | .iinc i n => match lget lv i with
    | some (.inl z) => nx (pc + len) (lset lv i (.inl (wr (z + n)))) st h
    | _ => none
  | .iadd => match st with
    | .inl y :: .inl x :: r => nx (pc + len) lv (.inl (wr (x + y)) :: r) h
    | _ => none
  | .isub => match st with
    | .inl y :: .inl x :: r => nx (pc + len) lv (.inl (wr (x - y)) :: r) h
    | _ => none
  | .imul => match st with
    | .inl y :: .inl x :: r => nx (pc + len) lv (.inl (wr (x * y)) :: r) h
    | _ => none
  | .irem => match st with
    | .inl y :: .inl x :: r => if 0 ≤ x ∧ 0 < y then nx (pc + len) lv (.inl (x % y) :: r) h else none
    | _ => none
  | .iand => match st with
    | .inl y :: .inl x :: r => if y = 31 then nx (pc + len) lv (.inl (x % 32) :: r) h else none
    | _ => none
  | .ixor => match st with
    | .inl y :: .inl x :: r => nx (pc + len) lv (.inl (Int32.ofInt x ^^^ Int32.ofInt y).toInt :: r) h
    | _ => none
  | .ladd => match st with
    | .inr (.inr y) :: .inr (.inr x) :: r => nx (pc + len) lv (.inr (.inr (x + y)) :: r) h
    | _ => none
  | .lmul => match st with
    | .inr (.inr y) :: .inr (.inr x) :: r => nx (pc + len) lv (.inr (.inr (x * y)) :: r) h
    | _ => none
  | .i2l => match st with
    | .inl x :: r => nx (pc + len) lv (.inr (.inr (Int64.ofInt x)) :: r) h
    | _ => none
  | .lcmp => match st with
    | .inr (.inr y) :: .inr (.inr x) :: r => nx (pc + len) lv (.inl (if x = y then 0 else (lg_cmp x y).toInt) :: r) h
    | _ => none
  | .dup => match st with
    | v :: r => if isL v = true then none else nx (pc + len) lv (v :: v :: r) h
    | _ => none
  | .dup2 => match st with
    | v :: w :: r => if isL v = true ∨ isL w = true then none else nx (pc + len) lv (v :: w :: v :: w :: r) h
    | _ => none
  | .pop => match st with
    | v :: r => if isL v = true then none else nx (pc + len) lv r h
    | _ => none
  | .ifCond .eq t => match st with
    | .inl x :: r => nx (if x = 0 then t.toNat else pc + len) lv r h
    | _ => none
  | .ifCond .ne t => match st with
    | .inl x :: r => nx (if x = 0 then pc + len else t.toNat) lv r h
    | _ => none
  | .ifCond .lt t => match st with
    | .inl x :: r => nx (if x < 0 then t.toNat else pc + len) lv r h
    | _ => none
  | .ifCond .ge t => match st with
    | .inl x :: r => nx (if x < 0 then pc + len else t.toNat) lv r h
    | _ => none
  | .ifCond .gt t => match st with
    | .inl x :: r => nx (if 0 < x then t.toNat else pc + len) lv r h
    | _ => none
  | .ifCond .le t => match st with
    | .inl x :: r => nx (if 0 < x then pc + len else t.toNat) lv r h
    | _ => none
  | .if_icmp .eq t => match st with
    | .inl y :: .inl x :: r => nx (if x = y then t.toNat else pc + len) lv r h
    | _ => none
  | .if_icmp .ne t => match st with
    | .inl y :: .inl x :: r => nx (if x = y then pc + len else t.toNat) lv r h
    | _ => none
  | .if_icmp .lt t => match st with
    | .inl y :: .inl x :: r => nx (if x < y then t.toNat else pc + len) lv r h
    | _ => none
  | .if_icmp .ge t => match st with
    | .inl y :: .inl x :: r => nx (if x < y then pc + len else t.toNat) lv r h
    | _ => none
  | .if_icmp .gt t => match st with
    | .inl y :: .inl x :: r => nx (if y < x then t.toNat else pc + len) lv r h
    | _ => none
  | .if_icmp .le t => match st with
    | .inl y :: .inl x :: r => nx (if y < x then pc + len else t.toNat) lv r h
    | _ => none
  | .goto t => nx t.toNat lv st h
  | .lookupswitch d ps => match st with
    | .inl x :: r => nx (sw x ps.toList d).toNat lv r h
    | _ => none
  | .getfield x => match st with
    | .inr (.inl a) :: r => if (kd h a).1 = x / 64 + 1 then nx (pc + len) lv (.inl (gI h a (x % 64)) :: r) h else none
    | _ => none
  | .getstatic x => match st with
    | .inr (.inl a) :: r => if (kd h a).1 = x / 64 + 1 then nx (pc + len) lv (.inr (.inl (gR h a (x % 64))) :: r) h else none
    | _ => none
  | .putfield x => match st with
    | .inl z :: .inr (.inl a) :: r => if (kd h a).1 = x / 64 + 1 then nx (pc + len) lv r (sI h a (x % 64) z) else none
    | _ => none
  | .instanceof x => match st with
    | .inl z :: .inr (.inl a) :: r => if (kd h a).1 = x / 64 + 1 ∧ (z = 0 ∨ z = 1) then nx (pc + len) lv r (sI h a (x % 64) z) else none
    | _ => none
  | .putstatic x => match st with
    | .inr (.inl b) :: .inr (.inl a) :: r => if (kd h a).1 = x / 64 + 1 then nx (pc + len) lv r (sR h a (x % 64) b) else none
    | _ => none
  | .iaload => match st with
    | .inl i :: .inr (.inl a) :: r => if (kd h a).1 = 10 ∧ 0 ≤ i ∧ i < ((kd h a).2 : Int) then nx (pc + len) lv (.inl (gI h a i.toNat) :: r) h else none
    | _ => none
  | .iastore => match st with
    | .inl z :: .inl i :: .inr (.inl a) :: r => if (kd h a).1 = 10 ∧ 0 ≤ i ∧ i < ((kd h a).2 : Int) then nx (pc + len) lv r (sI h a i.toNat z) else none
    | _ => none
  | .aaload => match st with
    | .inl i :: .inr (.inl a) :: r => if ((kd h a).1 = 11 ∨ (kd h a).1 = 15) ∧ 0 ≤ i ∧ i < ((kd h a).2 : Int) then nx (pc + len) lv (.inr (.inl (gR h a i.toNat)) :: r) h else none
    | _ => none
  | .aastore => match st with
    | .inr (.inl b) :: .inl i :: .inr (.inl a) :: r => if ((kd h a).1 = 11 ∧ (kd h b).1 = 1 ∨ (kd h a).1 = 15 ∧ (kd h b).1 = 5) ∧ 0 ≤ i ∧ i < ((kd h a).2 : Int) then nx (pc + len) lv r (sR h a i.toNat b) else none
    | _ => none
  | .arraylength => match st with
    | .inr (.inl a) :: r => if (kd h a).1 = 10 then nx (pc + len) lv (.inl ((kd h a).2 : Int) :: r) h else none
    | _ => none
  | .baload => match st with
    | .inl i :: .inr (.inl a) :: r => if a = 1 ∧ 0 ≤ i ∧ i < (sc.1 : Int) then nx (pc + len) lv (.inl (sc.2 i.toNat) :: r) h else none
    | _ => none
  | .athrow => match st with
    | .inr (.inl a) :: r => if a = 1 then nx (pc + len) lv (.inl (sc.1 : Int) :: r) h else none
    | _ => none
  | .new x => nx (pc + len) lv (.inr (.inl (h.1.1 + 2)) :: st) (al h (x + 1) (nfl x))
  | .newarray .int => match st with
    | .inl n :: r => if 0 ≤ n ∧ n < 100000 then nx (pc + len) lv (.inr (.inl (h.1.1 + 2)) :: r) (al h 10 n.toNat) else none
    | _ => none
  | .anewarray x => match st with
    | .inl n :: r => if 0 ≤ n ∧ n < 100000 then nx (pc + len) lv (.inr (.inl (h.1.1 + 2)) :: r) (al h (x + 11) n.toNat) else none
    | _ => none
  | .invokevirtual j => if (st.drop (mar j)).length ≤ 4 ∧ mar j ≤ st.length ∧ asz (st.take (mar j)) ≤ mxl j then match (st.take (mar j)).reverse with
      | .inr (.inl a) :: r => if (kd h a).1 = mcl j + 1 then cl_ j (.inr (.inl a) :: r) (st.drop (mar j)) else none
      | _ => none
    else none
  | .invokespecial j => if (st.drop (mar j)).length ≤ 4 ∧ mar j ≤ st.length ∧ asz (st.take (mar j)) ≤ mxl j then match (st.take (mar j)).reverse with
      | .inr (.inl a) :: r => if (kd h a).1 = mcl j + 1 then cl_ j (.inr (.inl a) :: r) (st.drop (mar j)) else none
      | _ => none
    else none
  | .invokestatic j => if (st.drop (mar j)).length ≤ 4 ∧ mar j ≤ st.length ∧ asz (st.take (mar j)) ≤ mxl j then cl_ j (st.take (mar j)).reverse (st.drop (mar j)) else none
  | .monitorexit => match st with
    | .inr (.inl a) :: r => if 1 < a ∧ r.length ≤ 4 then nx (pc + len) lv r h else none
    | _ => none
  | .monitorenter => match st with
    | .inl n :: .inl dp :: .inr (.inl b) :: .inl sp :: .inr (.inl a) :: r => if ((kd h a).1 = 10 ∧ (kd h b).1 = 10) ∧ (0 ≤ n ∧ 0 ≤ sp ∧ 0 ≤ dp) ∧ sp + n ≤ ((kd h a).2 : Int) ∧ dp + n ≤ ((kd h b).2 : Int) ∧ r.length ≤ 4 then nx (pc + len) lv r (cp h a sp.toNat b dp.toNat n.toNat) else none
    | _ => none
  | .ireturn => match st with
    | [.inl z] => rt (some (.inl z))
    | _ => none
  | .freturn => match st with
    | [.inl z] => if z = 0 ∨ z = 1 then rt (some (.inl z)) else none
    | _ => none
  | .lreturn => match st with
    | [.inr (.inr w)] => rt (some (.inr (.inr w)))
    | _ => none
  | .areturn => match st with
    | [.inr (.inl a)] => rt (some (.inr (.inl a)))
    | _ => none
  | .return_ => match st with
    | [] => rt none
    | _ => none
  | _ => none
/-- where ways meet, only the locals that all bring are kept -/
def kpf (m pc : Nat) (lv : av_L) : av_L := match kps m pc with
  | none => lv
  | some ks => lv.filter (fun q => ks.contains q.1)
def run (sc : av_S) : Nat → Nat → Nat → Nat → av_L → List av_V → av_H → Option (Option av_V × av_H)
  | 0, _, _, _, _, _, _ => none
  | _ + 1, 0, _, _, _, _, _ => none
  | f + 1, d + 1, m, pc, lv, st, h => match cd m pc with
    | none => none
    | some (ins, len) => match act sc ins pc len lv st h with
      | none => none
      | some (.inl (pc', lv', st', h')) => run sc f (d + 1) m pc' (kpf m pc' lv') st' h'
      | some (.inr (.inl r)) => some (r, h)
      | some (.inr (.inr (j, args, rest))) => match run sc f d j 0 (ent 0 args) [] h with
        | none => none
        | some (r, h') => run sc f (d + 1) m (pc + len) (kpf m (pc + len) lv) (r.toList ++ rest) h'
/-- more steps change nothing -/
theorem run_more {sc : av_S} : ∀ (f d m pc : Nat) (lv : av_L) (st : List av_V) (h : av_H) (r : Option av_V × av_H), run sc f d m pc lv st h = some r → run sc (f + 1) d m pc lv st h = some r := by
  intro f
  induction f with
  | zero => intro d m pc lv st h r hr; simp [run] at hr
  | succ f ih =>
    intro d m pc lv st h r hr
    cases d with
    | zero => simp [run] at hr
    | succ d =>
      rw [run] at hr ⊢
      cases hc : cd m pc with
      | none => simp [hc] at hr
      | some q =>
        obtain ⟨ins, len⟩ := q
        simp only [hc] at hr ⊢
        cases ha : act sc ins pc len lv st h with
        | none => simp [ha] at hr
        | some x =>
          simp only [ha] at hr ⊢
          match x, hr with
          | .inl (pc', lv', st', h'), hr => exact ih _ _ _ _ _ _ _ hr
          | .inr (.inl v), hr => exact hr
          | .inr (.inr (j, as, rest)), hr =>
            dsimp only at hr ⊢
            cases hq : run sc f d j 0 (ent 0 as) [] h with
            | none => simp [hq] at hr
            | some y =>
              obtain ⟨v, h'⟩ := y
              rw [hq] at hr
              rw [ih _ _ _ _ _ _ _ hq]
              exact ih _ _ _ _ _ _ _ hr
theorem run_le {sc : av_S} {f g d m pc : Nat} {lv : av_L} {st : List av_V} {h : av_H} {r : Option av_V × av_H} (hfg : f ≤ g) (hr : run sc f d m pc lv st h = some r) : run sc g d m pc lv st h = some r := by
  induction g with
  | zero => have : f = 0 := by omega
            subst this; exact hr
  | succ g ih =>
    by_cases h1 : f = g + 1
    · subst h1; exact hr
    · exact run_more _ _ _ _ _ _ _ _ (ih (by omega))
theorem run_one {sc : av_S} {f g d m pc : Nat} {lv : av_L} {st : List av_V} {h : av_H} {r q : Option av_V × av_H} (hr : run sc f d m pc lv st h = some r) (hq : run sc g d m pc lv st h = some q) : r = q := by
  have h1 := run_le (Nat.le_max_left f g) hr
  have h2 := run_le (Nat.le_max_right f g) hq
  exact Option.some.inj (h1.symm.trans h2)
/-- from here on it ends, with Q -/
def WP (sc : av_S) (d m pc : Nat) (lv : av_L) (st : List av_V) (h : av_H) (Q : Option av_V → av_H → Prop) : Prop := ∃ (f : Nat) (r : Option av_V) (h' : av_H), run sc f d m pc lv st h = some (r, h') ∧ Q r h'
/-- a call: this answer, this heap -/
def Rn (sc : av_S) (d m : Nat) (args : List av_V) (h : av_H) (r : Option av_V) (h' : av_H) : Prop := ∃ f : Nat, run sc f d m 0 (ent 0 args) [] h = some (r, h')
theorem Rn.wp {sc : av_S} {d m : Nat} {args : List av_V} {h : av_H} {r : Option av_V} {h' : av_H} (H : Rn sc d m args h r h') (Q : Option av_V → av_H → Prop) : WP sc d m 0 (ent 0 args) [] h Q ↔ Q r h' := by
  obtain ⟨f, hf⟩ := H
  constructor
  · rintro ⟨g, r2, h2, hg, hQ⟩
    have e := run_one hf hg
    cases e
    exact hQ
  · intro hQ
    exact ⟨f, r, h', hf, hQ⟩
theorem WP.mono {sc : av_S} {d m pc : Nat} {lv : av_L} {st : List av_V} {h : av_H} {Q Q' : Option av_V → av_H → Prop} (H : WP sc d m pc lv st h Q) (k : ∀ r h', Q r h' → Q' r h') : WP sc d m pc lv st h Q' := by
  obtain ⟨f, r, h', hf, hQ⟩ := H
  exact ⟨f, r, h', hf, k _ _ hQ⟩
theorem WP.rn {sc : av_S} {d m : Nat} {args : List av_V} {h : av_H} {r : Option av_V} {h' : av_H} (H : WP sc d m 0 (ent 0 args) [] h (fun r2 h2 => r2 = r ∧ h2 = h')) : Rn sc d m args h r h' := by
  obtain ⟨f, r2, h2, hf, rfl, rfl⟩ := H
  exact ⟨f, hf⟩
theorem WP.rnE {sc : av_S} {d m : Nat} {args : List av_V} {h : av_H} {P : Option av_V → av_H → Prop} (H : WP sc d m 0 (ent 0 args) [] h P) : ∃ r h', Rn sc d m args h r h' ∧ P r h' := by
  obtain ⟨f, r2, h2, hf, hP⟩ := H
  exact ⟨r2, h2, ⟨f, hf⟩, hP⟩
/-- what an instruction's result asks -/
def wpk (sc : av_S) (d m pc len : Nat) (lv : av_L) (h : av_H) (Q : Option av_V → av_H → Prop) (x : av_R) : Prop := match x with
  | none => False
  | some (.inl (pc', lv', st', h')) => WP sc (d + 1) m pc' (kpf m pc' lv') st' h' Q
  | some (.inr (.inl r)) => Q r h
  | some (.inr (.inr (j, args, rest))) => WP sc d j 0 (ent 0 args) [] h (fun r h' => WP sc (d + 1) m (pc + len) (kpf m (pc + len) lv) (r.toList ++ rest) h' Q)
theorem WP.unf {sc : av_S} {d m pc len : Nat} {lv : av_L} {st : List av_V} {h : av_H} {Q : Option av_V → av_H → Prop} {ins : Instr} (hc : cd m pc = some (ins, len)) : WP sc (d + 1) m pc lv st h Q ↔ wpk sc d m pc len lv h Q (act sc ins pc len lv st h) := by
  constructor
  · rintro ⟨f, r, h', hf, hQ⟩
    cases f with
    | zero => simp [run] at hf
    | succ f =>
      rw [run] at hf
      simp only [hc] at hf
      cases ha : act sc ins pc len lv st h with
      | none => simp [ha] at hf
      | some x =>
        simp only [ha] at hf
        match x, hf with
        | .inl (pc', lv', st', h2), hf => exact ⟨f, r, h', hf, hQ⟩
        | .inr (.inl v), hf =>
          dsimp only at hf
          cases hf
          exact hQ
        | .inr (.inr (j, as, rest)), hf =>
          dsimp only at hf
          cases hq : run sc f d j 0 (ent 0 as) [] h with
          | none => simp [hq] at hf
          | some y =>
            obtain ⟨v, h2⟩ := y
            rw [hq] at hf
            exact ⟨f, v, h2, hq, f, r, h', hf, hQ⟩
  · intro H
    cases ha : act sc ins pc len lv st h with
    | none => rw [ha] at H; exact H.elim
    | some x =>
      rw [ha] at H
      match x, H with
      | .inl (pc', lv', st', h2), H =>
        obtain ⟨f, r, h', hf, hQ⟩ := H
        refine ⟨f + 1, r, h', ?_, hQ⟩
        rw [run]
        simp only [hc, ha]
        exact hf
      | .inr (.inl v), H =>
        refine ⟨1, v, h, ?_, H⟩
        rw [run]
        simp only [hc, ha]
      | .inr (.inr (j, as, rest)), H =>
        obtain ⟨f, v, h2, hf, g, r, h', hg, hQ⟩ := H
        refine ⟨(max f g) + 1, r, h', ?_, hQ⟩
        rw [run]
        simp only [hc, ha]
        rw [run_le (Nat.le_max_left f g) hf]
        exact run_le (Nat.le_max_right f g) hg
theorem WP.ite {sc : av_S} {d m a b : Nat} {lv : av_L} {st : List av_V} {h : av_H} {Q : Option av_V → av_H → Prop} {c : Prop} [Decidable c] : WP sc d m (if c then a else b) lv st h Q ↔ if c then WP sc d m a lv st h Q else WP sc d m b lv st h Q := by
  split <;> exact Iff.rfl
