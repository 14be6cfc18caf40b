/-! one instruction of the machine for one of the picture -/
def stoB (m : Nat) (ins : Instr) : Bool := match ins with
  | .istore i => decide (i < mxl m)
  | .astore i => decide (i < mxl m)
  | .lstore i => decide (i + 1 < mxl m)
  | _ => true
theorem sto_ok : ((List.range 160).all fun m => (ccs m).all fun q => stoB m q.2.1) = true := by decide +kernel
def Cx (p : Program) (R : Room) (s : State) (mi : MethodId) (args : Array Value) (meth : Method) (c : Code) (b S : Nat) (D : va_G) (cI cN cW : ClassId) (sc : av_S) (m d : Nat) : Prop :=
  p.tables.exec = Jvm.exec ∧ c.code = (mt m).2.2.1 ∧ c.maxLocals = mxl m ∧ s.vm.findClass (cnm (mcl m)) = some mi.cls ∧ (∀ w ∈ gws, w.before args s = true) ∧ KK D cI cN cW s ∧ (mini m = true → meth.name = "<init>") ∧ R.frames = d ∧ R.locals = 38 * d ∧ S ≤ s.heap.size ∧
  (m = 159 → va_X b sc.1 (fun i => Int32.ofInt (sc.2 i)) s s.heap ∧ b < S ∧ sc.1 < 100000 ∧ ∀ i, inR (sc.2 i)) ∧ 0 < d
def St (s : State) (b S : Nat) (D : va_G) (cI cN cW : ClassId) (h0 h : av_H) (H : Heap) (locs : List Loc) (cells slots : Nat) : Prop :=
  Rel b S D cI cN cW h H ∧ va_S (fun q => S ≤ q) s.heap H locs ∧ cells + h0.1.1 = h.1.1 ∧ slots + h0.1.2 = h.1.2 ∧ s.heap.size = S + h0.1.1
def Lv (b S m : Nat) (ls : Array Slot) (lv : av_L) : Prop := lv_has ls (mxl m) (lv.map (fun q => (q.1, enc b S q.2))) ∧ ∀ q ∈ lv, okv q.2
def Go (p : Program) (l : Launch) (e : Env) (R : Room) (s : State) (mi : MethodId) (args : Array Value) (below : List Frame) (meth : Method) (c : Code) (Q : State → Prop) (b S : Nat) (D : va_G) (cI cN cW : ClassId) (m : Nat) (h0 : av_H) (pc : Nat) (lv : av_L) (st : List av_V) (h : av_H) : Prop :=
  ∀ (H : Heap) (locs : List Loc) (cells slots : Nat) (ls : Array Slot), St s b S D cI cN cW h0 h H locs cells slots → Lv b S m ls lv → (∀ v ∈ st, okv v) → W p l e R s mi args below meth c H locs cells slots Q (F0 mi pc ls (st.map (enc b S)))
theorem lget_mem {lv : av_L} {i : Nat} {v : av_V} (h : lget lv i = some v) : (i, v) ∈ lv := by
  induction lv with
  | nil => simp [lget] at h
  | cons q r ih =>
    by_cases hq : q.1 = i
    · simp only [lget, hq, if_true] at h
      obtain ⟨q1, q2⟩ := q
      dsimp only at hq
      subst hq
      cases h
      exact List.mem_cons_self
    · simp only [lget, hq, if_false] at h
      exact List.mem_cons_of_mem _ (ih h)
theorem Lv.at {b S m : Nat} {ls : Array Slot} {lv : av_L} (h : Lv b S m ls lv) {i : Nat} {v : av_V} (hg : lget lv i = some v) : ls[i]? = some (.val (enc b S v)) ∧ okv v :=
  ⟨h.1.2.2 (i, enc b S v) (List.mem_map.mpr ⟨(i, v), lget_mem hg, rfl⟩), h.2 (i, v) (lget_mem hg)⟩
theorem Lv.sub {b S m : Nat} {ls : Array Slot} {lv lv' : av_L} (h : Lv b S m ls lv) (hs : ∀ q ∈ lv', q ∈ lv) : Lv b S m ls lv' := by
  refine ⟨⟨h.1.1, h.1.2.1, fun q hq => ?_⟩, fun q hq => h.2 q (hs q hq)⟩
  obtain ⟨q0, h1, rfl⟩ := List.mem_map.mp hq
  exact h.1.2.2 _ (List.mem_map.mpr ⟨q0, hs q0 h1, rfl⟩)
theorem lins_mem {l : av_L} {i : Nat} {v : av_V} {q : Nat × av_V} (h : q ∈ lins l i v) : q = (i, v) ∨ q ∈ l := by
  induction l with
  | nil => simp [lins] at h; exact Or.inl h
  | cons x r ih =>
    simp only [lins] at h
    split at h
    · rcases List.mem_cons.mp h with h | h
      · exact Or.inl h
      · exact Or.inr h
    · rcases List.mem_cons.mp h with h | h
      · exact Or.inr (by rw [h]; exact List.mem_cons_self)
      · rcases ih h with h | h
        · exact Or.inl h
        · exact Or.inr (List.mem_cons_of_mem _ h)
theorem Lv.set1 {b S m : Nat} {ls ls' : Array Slot} {lv : av_L} {i : Nat} {v : av_V} (h : Lv b S m ls lv) (hv : okv v) (h' : lv_has ls' (mxl m) ((i, enc b S v) :: (lv.map (fun q => (q.1, enc b S q.2))).filter (fun q => !(q.1 == i) && !(q.1 + 1 == i && q.2.category == 2)))) : Lv b S m ls' (lset lv i v) := by
  have key : ∀ q ∈ lset lv i v, q = (i, v) ∨ (q ∈ lv ∧ lkeep i v q = true) := by
    intro q hq
    rcases lins_mem hq with h1 | h1
    · exact Or.inl h1
    · exact Or.inr (List.mem_filter.mp h1)
  refine ⟨⟨h'.1, h'.2.1, fun q hq => ?_⟩, fun q hq => ?_⟩
  · obtain ⟨q0, h1, rfl⟩ := List.mem_map.mp hq
    apply h'.2.2
    rcases key q0 h1 with rfl | ⟨h2, h3⟩
    · exact List.mem_cons_self
    · refine List.mem_cons_of_mem _ (List.mem_filter.mpr ⟨List.mem_map.mpr ⟨q0, h2, rfl⟩, ?_⟩)
      simp only [lkeep, Bool.and_eq_true] at h3
      obtain ⟨h3, h4, -⟩ := h3
      simp only [Bool.and_eq_true]
      refine ⟨h3, ?_⟩
      rw [enc_cat]
      cases hL : isL q0.2 <;> simp [hL] at h4 ⊢
      exact h4
  · rcases key q hq with rfl | ⟨h2, -⟩
    · exact hv
    · exact h.2 q h2
theorem Lv.set2 {b S m : Nat} {ls ls' : Array Slot} {lv : av_L} {i : Nat} {w : Int64} (h : Lv b S m ls lv) (h' : lv_has ls' (mxl m) ((i, Value.long w) :: (lv.map (fun q => (q.1, enc b S q.2))).filter (fun q => !(q.1 == i) && (!(q.1 == i + 1) && !(q.1 + 1 == i && q.2.category == 2))))) : Lv b S m ls' (lset lv i (.inr (.inr w))) := by
  have key : ∀ q ∈ lset lv i (.inr (.inr w)), q = (i, .inr (.inr w)) ∨ (q ∈ lv ∧ lkeep i (.inr (.inr w)) q = true) := by
    intro q hq
    rcases lins_mem hq with h1 | h1
    · exact Or.inl h1
    · exact Or.inr (List.mem_filter.mp h1)
  refine ⟨⟨h'.1, h'.2.1, fun q hq => ?_⟩, fun q hq => ?_⟩
  · obtain ⟨q0, h1, rfl⟩ := List.mem_map.mp hq
    apply h'.2.2
    rcases key q0 h1 with rfl | ⟨h2, h3⟩
    · exact List.mem_cons_self
    · refine List.mem_cons_of_mem _ (List.mem_filter.mpr ⟨List.mem_map.mpr ⟨q0, h2, rfl⟩, ?_⟩)
      simp only [lkeep, Bool.and_eq_true] at h3
      obtain ⟨h3, h4, h5⟩ := h3
      simp only [Bool.and_eq_true]
      refine ⟨h3, ?_, ?_⟩
      · simpa [isL] using h5
      · rw [enc_cat]
        cases hL : isL q0.2 <;> simp [hL] at h4 ⊢
        exact h4
  · rcases key q hq with rfl | ⟨h2, -⟩
    · trivial
    · exact h.2 q h2
section STP
variable {p : Program} {l : Launch} {e : Env} {R : Room} {s : State} {mi : MethodId} {args : Array Value} {below : List Frame} {meth : Method} {c : Code} {Q : State → Prop} {b S : Nat} {D : va_G} {cI cN cW : ClassId} {sc : av_S} {m d : Nat} {h0 : av_H} {pc : Nat} {lv : av_L} {st : List av_V} {h : av_H}
theorem g_kpf (k : Go p l e R s mi args below meth c Q b S D cI cN cW m h0 pc (kpf m pc lv) st h) : Go p l e R s mi args below meth c Q b S D cI cN cW m h0 pc lv st h := by
  intro H locs cells slots ls hst hl ho
  refine k H locs cells slots ls hst (hl.sub fun q hq => ?_) ho
  unfold kpf at hq
  split at hq
  · exact hq
  · exact (List.mem_filter.mp hq).1
theorem g_iconst (C : Cx p R s mi args meth c b S D cI cN cW sc m d) {n : Int} (hd : decode (mt m).2.2.1 pc = .ok (.iconst n, 1)) (hn : inR n) (k : Go p l e R s mi args below meth c Q b S D cI cN cW m h0 (pc + 1) lv (.inl n :: st) h) : Go p l e R s mi args below meth c Q b S D cI cN cW m h0 pc lv st h := by
  obtain ⟨hx, hb, hml, hown, hts, hK, hini, hfr, hlo, hS, hscr, hd0⟩ := C
  intro H locs cells slots ls hst hl ho
  exact lv_iconst hx hb hd rfl (k H locs cells slots ls hst hl (List.forall_mem_cons.mpr ⟨hn, ho⟩))
theorem g_bipush (C : Cx p R s mi args meth c b S D cI cN cW sc m d) {n : Int} (hd : decode (mt m).2.2.1 pc = .ok (.bipush n, 2)) (hn : -128 ≤ n ∧ n < 128) (k : Go p l e R s mi args below meth c Q b S D cI cN cW m h0 (pc + 2) lv (.inl n :: st) h) : Go p l e R s mi args below meth c Q b S D cI cN cW m h0 pc lv st h := by
  obtain ⟨hx, hb, hml, hown, hts, hK, hini, hfr, hlo, hS, hscr, hd0⟩ := C
  intro H locs cells slots ls hst hl ho
  refine lv_bipush hx hb hd ?_ (k H locs cells slots ls hst hl (List.forall_mem_cons.mpr ⟨by unfold okv inR; omega, ho⟩))
  apply Int32.toInt_inj.mp
  rw [toI (by unfold inR; omega), Int8.toInt_toInt32, Int8.toInt_ofInt]
  show n.bmod 256 = n
  simp only [Int.bmod_def]
  split <;> omega
theorem g_sipush (C : Cx p R s mi args meth c b S D cI cN cW sc m d) {n : Int} (hd : decode (mt m).2.2.1 pc = .ok (.sipush n, 3)) (hn : -32768 ≤ n ∧ n < 32768) (k : Go p l e R s mi args below meth c Q b S D cI cN cW m h0 (pc + 3) lv (.inl n :: st) h) : Go p l e R s mi args below meth c Q b S D cI cN cW m h0 pc lv st h := by
  obtain ⟨hx, hb, hml, hown, hts, hK, hini, hfr, hlo, hS, hscr, hd0⟩ := C
  intro H locs cells slots ls hst hl ho
  refine lv_sipush hx hb hd ?_ (k H locs cells slots ls hst hl (List.forall_mem_cons.mpr ⟨by unfold okv inR; omega, ho⟩))
  apply Int32.toInt_inj.mp
  rw [toI (by unfold inR; omega), Int16.toInt_toInt32, Int16.toInt_ofInt]
  show n.bmod 65536 = n
  simp only [Int.bmod_def]
  split <;> omega
theorem g_ldc (C : Cx p R s mi args meth c b S D cI cN cW sc m d) {i pl : Nat} {n : Int} (hd : decode (mt m).2.2.1 pc = .ok (.ldc i, 2)) (hf : (mcl m, i, n, pl) ∈ kln) (hn : -32768 ≤ n ∧ n < 100000) (k : Go p l e R s mi args below meth c Q b S D cI cN cW m h0 (pc + 2) lv (.inl n :: st) h) : Go p l e R s mi args below meth c Q b S D cI cN cW m h0 pc lv st h := by
  obtain ⟨hx, hb, hml, hown, hts, hK, hini, hfr, hlo, hS, hscr, hd0⟩ := C
  intro H locs cells slots ls hst hl ho
  have h1 := List.all_eq_true.mp kln_ok _ hf
  exact lv_ldc hx hb hown (hts _ (wAt.mem h1)) hd (k H locs cells slots ls hst hl (List.forall_mem_cons.mpr ⟨by unfold okv inR; omega, ho⟩))
theorem g_ldc2 (C : Cx p R s mi args meth c b S D cI cN cW sc m d) {i pl : Nat} {n : Nat} (hd : decode (mt m).2.2.1 pc = .ok (.ldc2_w i, 3)) (hf : (mcl m, i, n, pl) ∈ lln) (k : Go p l e R s mi args below meth c Q b S D cI cN cW m h0 (pc + 3) lv (.inr (.inr (Int64.ofNat n)) :: st) h) : Go p l e R s mi args below meth c Q b S D cI cN cW m h0 pc lv st h := by
  obtain ⟨hx, hb, hml, hown, hts, hK, hini, hfr, hlo, hS, hscr, hd0⟩ := C
  intro H locs cells slots ls hst hl ho
  have h1 := List.all_eq_true.mp lln_ok _ hf
  exact lv_ldc2 hx hb hown (hts _ (wAt.mem h1)) hd (k H locs cells slots ls hst hl (List.forall_mem_cons.mpr ⟨trivial, ho⟩))
theorem g_iload (C : Cx p R s mi args meth c b S D cI cN cW sc m d) {i : Nat} {z : Int} (hd : decode (mt m).2.2.1 pc = .ok (.iload i, 2)) (hg : lget lv i = some (.inl z)) (k : Go p l e R s mi args below meth c Q b S D cI cN cW m h0 (pc + 2) lv (.inl z :: st) h) : Go p l e R s mi args below meth c Q b S D cI cN cW m h0 pc lv st h := by
  obtain ⟨hx, hb, hml, hown, hts, hK, hini, hfr, hlo, hS, hscr, hd0⟩ := C
  intro H locs cells slots ls hst hl ho
  exact lv_iload hx hb hd (hl.at hg).1 (k H locs cells slots ls hst hl (List.forall_mem_cons.mpr ⟨(hl.at hg).2, ho⟩))
theorem g_iload_n (C : Cx p R s mi args meth c b S D cI cN cW sc m d) {i : Fin 4} {z : Int} (hd : decode (mt m).2.2.1 pc = .ok (.iload_n i, 1)) (hg : lget lv i.val = some (.inl z)) (k : Go p l e R s mi args below meth c Q b S D cI cN cW m h0 (pc + 1) lv (.inl z :: st) h) : Go p l e R s mi args below meth c Q b S D cI cN cW m h0 pc lv st h := by
  obtain ⟨hx, hb, hml, hown, hts, hK, hini, hfr, hlo, hS, hscr, hd0⟩ := C
  intro H locs cells slots ls hst hl ho
  exact lv_iload_n hx hb hd rfl (hl.at hg).1 (k H locs cells slots ls hst hl (List.forall_mem_cons.mpr ⟨(hl.at hg).2, ho⟩))
theorem g_lload (C : Cx p R s mi args meth c b S D cI cN cW sc m d) {i : Nat} {w : Int64} (hd : decode (mt m).2.2.1 pc = .ok (.lload i, 2)) (hg : lget lv i = some (.inr (.inr w))) (k : Go p l e R s mi args below meth c Q b S D cI cN cW m h0 (pc + 2) lv (.inr (.inr w) :: st) h) : Go p l e R s mi args below meth c Q b S D cI cN cW m h0 pc lv st h := by
  obtain ⟨hx, hb, hml, hown, hts, hK, hini, hfr, hlo, hS, hscr, hd0⟩ := C
  intro H locs cells slots ls hst hl ho
  exact lv_lload hx hb hd (hl.at hg).1 (k H locs cells slots ls hst hl (List.forall_mem_cons.mpr ⟨(hl.at hg).2, ho⟩))
theorem g_lload_n (C : Cx p R s mi args meth c b S D cI cN cW sc m d) {i : Fin 4} {w : Int64} (hd : decode (mt m).2.2.1 pc = .ok (.lload_n i, 1)) (hg : lget lv i.val = some (.inr (.inr w))) (k : Go p l e R s mi args below meth c Q b S D cI cN cW m h0 (pc + 1) lv (.inr (.inr w) :: st) h) : Go p l e R s mi args below meth c Q b S D cI cN cW m h0 pc lv st h := by
  obtain ⟨hx, hb, hml, hown, hts, hK, hini, hfr, hlo, hS, hscr, hd0⟩ := C
  intro H locs cells slots ls hst hl ho
  exact lv_lload_n hx hb hd rfl (hl.at hg).1 (k H locs cells slots ls hst hl (List.forall_mem_cons.mpr ⟨(hl.at hg).2, ho⟩))
theorem g_aload (C : Cx p R s mi args meth c b S D cI cN cW sc m d) {i : Nat} {a : Nat} (hd : decode (mt m).2.2.1 pc = .ok (.aload i, 2)) (hg : lget lv i = some (.inr (.inl a))) (k : Go p l e R s mi args below meth c Q b S D cI cN cW m h0 (pc + 2) lv (.inr (.inl a) :: st) h) : Go p l e R s mi args below meth c Q b S D cI cN cW m h0 pc lv st h := by
  obtain ⟨hx, hb, hml, hown, hts, hK, hini, hfr, hlo, hS, hscr, hd0⟩ := C
  intro H locs cells slots ls hst hl ho
  have h1 := (hl.at hg).1
  have k1 := k H locs cells slots ls hst hl (List.forall_mem_cons.mpr ⟨trivial, ho⟩)
  by_cases ha : a = 0
  · subst ha
    exact lv_aloadN hx hb hd h1 k1
  · have e1 : enc b S (.inr (.inl a)) = .ref (adr b S a) := by simp [enc, orf, ha, va_rf]
    rw [List.map_cons, e1] at k1
    rw [e1] at h1
    exact lv_aload hx hb hd h1 k1
theorem g_aload_n (C : Cx p R s mi args meth c b S D cI cN cW sc m d) {i : Fin 4} {a : Nat} (hd : decode (mt m).2.2.1 pc = .ok (.aload_n i, 1)) (hg : lget lv i.val = some (.inr (.inl a))) (k : Go p l e R s mi args below meth c Q b S D cI cN cW m h0 (pc + 1) lv (.inr (.inl a) :: st) h) : Go p l e R s mi args below meth c Q b S D cI cN cW m h0 pc lv st h := by
  obtain ⟨hx, hb, hml, hown, hts, hK, hini, hfr, hlo, hS, hscr, hd0⟩ := C
  intro H locs cells slots ls hst hl ho
  have h1 := (hl.at hg).1
  have k1 := k H locs cells slots ls hst hl (List.forall_mem_cons.mpr ⟨trivial, ho⟩)
  by_cases ha : a = 0
  · subst ha
    exact lv_aload_nN hx hb hd rfl h1 k1
  · have e1 : enc b S (.inr (.inl a)) = .ref (adr b S a) := by simp [enc, orf, ha, va_rf]
    rw [List.map_cons, e1] at k1
    rw [e1] at h1
    exact lv_aload_n hx hb hd rfl h1 k1
theorem g_istore (C : Cx p R s mi args meth c b S D cI cN cW sc m d) {i : Nat} {z : Int} (hd : decode (mt m).2.2.1 pc = .ok (.istore i, 2)) (hi : i < mxl m) (k : Go p l e R s mi args below meth c Q b S D cI cN cW m h0 (pc + 2) (lset lv i (.inl z)) st h) : Go p l e R s mi args below meth c Q b S D cI cN cW m h0 pc lv (.inl z :: st) h := by
  obtain ⟨hx, hb, hml, hown, hts, hK, hini, hfr, hlo, hS, hscr, hd0⟩ := C
  intro H locs cells slots ls hst hl ho
  have hv : okv (.inl z) := ho _ List.mem_cons_self
  exact lv_istore hx hb hd hl.1 hi rfl (fun ls' hl' => k H locs cells slots ls' hst (hl.set1 (v := .inl z) hv hl') (fun v hv => ho v (List.mem_cons_of_mem _ hv)))
theorem g_lstore (C : Cx p R s mi args meth c b S D cI cN cW sc m d) {i : Nat} {w : Int64} (hd : decode (mt m).2.2.1 pc = .ok (.lstore i, 2)) (hi : i + 1 < mxl m) (k : Go p l e R s mi args below meth c Q b S D cI cN cW m h0 (pc + 2) (lset lv i (.inr (.inr w))) st h) : Go p l e R s mi args below meth c Q b S D cI cN cW m h0 pc lv (.inr (.inr w) :: st) h := by
  obtain ⟨hx, hb, hml, hown, hts, hK, hini, hfr, hlo, hS, hscr, hd0⟩ := C
  intro H locs cells slots ls hst hl ho
  exact lv_lstore hx hb hd hl.1 hi rfl (fun ls' hl' => k H locs cells slots ls' hst (hl.set2 hl') (fun v hv => ho v (List.mem_cons_of_mem _ hv)))
theorem g_astore (C : Cx p R s mi args meth c b S D cI cN cW sc m d) {i : Nat} {a : Nat} (hd : decode (mt m).2.2.1 pc = .ok (.astore i, 2)) (hi : i < mxl m) (k : Go p l e R s mi args below meth c Q b S D cI cN cW m h0 (pc + 2) (lset lv i (.inr (.inl a))) st h) : Go p l e R s mi args below meth c Q b S D cI cN cW m h0 pc lv (.inr (.inl a) :: st) h := by
  obtain ⟨hx, hb, hml, hown, hts, hK, hini, hfr, hlo, hS, hscr, hd0⟩ := C
  intro H locs cells slots ls hst hl ho
  by_cases ha : a = 0
  · subst ha
    exact lv_astoreN hx hb hd hl.1 hi rfl (fun ls' hl' => k H locs cells slots ls' hst (hl.set1 (v := .inr (.inl 0)) trivial hl') (fun v hv => ho v (List.mem_cons_of_mem _ hv)))
  · have e1 : enc b S (.inr (.inl a)) = .ref (adr b S a) := by simp [enc, orf, ha, va_rf]
    rw [List.map_cons, e1]
    exact lv_astore hx hb hd hl.1 hi rfl (fun ls' hl' => k H locs cells slots ls' hst (hl.set1 (v := .inr (.inl a)) trivial (by rw [e1]; exact hl')) (fun v hv => ho v (List.mem_cons_of_mem _ hv)))
theorem g_istore_n (C : Cx p R s mi args meth c b S D cI cN cW sc m d) {i : Fin 4} {z : Int} (hd : decode (mt m).2.2.1 pc = .ok (.istore_n i, 1)) (hi : i.val < mxl m) (k : Go p l e R s mi args below meth c Q b S D cI cN cW m h0 (pc + 1) (lset lv i.val (.inl z)) st h) : Go p l e R s mi args below meth c Q b S D cI cN cW m h0 pc lv (.inl z :: st) h := by
  obtain ⟨hx, hb, hml, hown, hts, hK, hini, hfr, hlo, hS, hscr, hd0⟩ := C
  intro H locs cells slots ls hst hl ho
  have hv : okv (.inl z) := ho _ List.mem_cons_self
  exact lv_istore_n hx hb hd rfl hl.1 hi rfl (fun ls' hl' => k H locs cells slots ls' hst (hl.set1 (v := .inl z) hv hl') (fun v hv => ho v (List.mem_cons_of_mem _ hv)))
theorem g_lstore_n (C : Cx p R s mi args meth c b S D cI cN cW sc m d) {i : Fin 4} {w : Int64} (hd : decode (mt m).2.2.1 pc = .ok (.lstore_n i, 1)) (hi : i.val + 1 < mxl m) (k : Go p l e R s mi args below meth c Q b S D cI cN cW m h0 (pc + 1) (lset lv i.val (.inr (.inr w))) st h) : Go p l e R s mi args below meth c Q b S D cI cN cW m h0 pc lv (.inr (.inr w) :: st) h := by
  obtain ⟨hx, hb, hml, hown, hts, hK, hini, hfr, hlo, hS, hscr, hd0⟩ := C
  intro H locs cells slots ls hst hl ho
  exact lv_lstore_n hx hb hd rfl hl.1 hi rfl (fun ls' hl' => k H locs cells slots ls' hst (hl.set2 hl') (fun v hv => ho v (List.mem_cons_of_mem _ hv)))
theorem g_astore_n (C : Cx p R s mi args meth c b S D cI cN cW sc m d) {i : Fin 4} {a : Nat} (hd : decode (mt m).2.2.1 pc = .ok (.astore_n i, 1)) (hi : i.val < mxl m) (k : Go p l e R s mi args below meth c Q b S D cI cN cW m h0 (pc + 1) (lset lv i.val (.inr (.inl a))) st h) : Go p l e R s mi args below meth c Q b S D cI cN cW m h0 pc lv (.inr (.inl a) :: st) h := by
  obtain ⟨hx, hb, hml, hown, hts, hK, hini, hfr, hlo, hS, hscr, hd0⟩ := C
  intro H locs cells slots ls hst hl ho
  by_cases ha : a = 0
  · subst ha
    exact lv_astore_nN hx hb hd rfl hl.1 hi rfl (fun ls' hl' => k H locs cells slots ls' hst (hl.set1 (v := .inr (.inl 0)) trivial hl') (fun v hv => ho v (List.mem_cons_of_mem _ hv)))
  · have e1 : enc b S (.inr (.inl a)) = .ref (adr b S a) := by simp [enc, orf, ha, va_rf]
    rw [List.map_cons, e1]
    exact lv_astore_n hx hb hd rfl hl.1 hi rfl (fun ls' hl' => k H locs cells slots ls' hst (hl.set1 (v := .inr (.inl a)) trivial (by rw [e1]; exact hl')) (fun v hv => ho v (List.mem_cons_of_mem _ hv)))
theorem g_iinc (C : Cx p R s mi args meth c b S D cI cN cW sc m d) {i : Nat} {z n : Int} (hd : decode (mt m).2.2.1 pc = .ok (.iinc i n, 3)) (hg : lget lv i = some (.inl z)) (k : Go p l e R s mi args below meth c Q b S D cI cN cW m h0 (pc + 3) (lset lv i (.inl (wr (z + n)))) st h) : Go p l e R s mi args below meth c Q b S D cI cN cW m h0 pc lv st h := by
  obtain ⟨hx, hb, hml, hown, hts, hK, hini, hfr, hlo, hS, hscr, hd0⟩ := C
  intro H locs cells slots ls hst hl ho
  have h1 := (hl.at hg).1
  obtain ⟨k1, hk1⟩ := List.getElem?_of_mem (List.mem_map.mpr ⟨(i, .inl z), lget_mem hg, rfl⟩ : (i, enc b S (.inl z)) ∈ lv.map (fun q => (q.1, enc b S q.2)))
  have hi : i < mxl m := by rw [← hl.1.1]; exact lv_lt h1
  exact lv_iinc (k := k1) (x := Int32.ofInt z) (v := Int32.ofInt (wr (z + n))) hx hb hd hl.1 hk1 (by rw [← ofI_add]) hi rfl (fun ls' hl' => k H locs cells slots ls' hst (hl.set1 (v := .inl (wr (z + n))) (wr_inR _) hl') ho)
theorem g_iadd (C : Cx p R s mi args meth c b S D cI cN cW sc m d) {x y : Int} (hd : decode (mt m).2.2.1 pc = .ok (.iadd, 1))  (k : Go p l e R s mi args below meth c Q b S D cI cN cW m h0 (pc + 1) lv (.inl (wr (x + y)) :: st) h) : Go p l e R s mi args below meth c Q b S D cI cN cW m h0 pc lv (.inl y :: .inl x :: st) h := by
  obtain ⟨hx, hb, hml, hown, hts, hK, hini, hfr, hlo, hS, hscr, hd0⟩ := C
  intro H locs cells slots ls hst hl ho
  have k1 := k H locs cells slots ls hst hl (List.forall_mem_cons.mpr ⟨wr_inR _, fun v hv => ho v (List.mem_cons_of_mem _ (List.mem_cons_of_mem _ hv))⟩)
  refine lv_iadd hx hb hd ?_
  rw [ofI_add]
  exact k1
theorem g_isub (C : Cx p R s mi args meth c b S D cI cN cW sc m d) {x y : Int} (hd : decode (mt m).2.2.1 pc = .ok (.isub, 1))  (k : Go p l e R s mi args below meth c Q b S D cI cN cW m h0 (pc + 1) lv (.inl (wr (x - y)) :: st) h) : Go p l e R s mi args below meth c Q b S D cI cN cW m h0 pc lv (.inl y :: .inl x :: st) h := by
  obtain ⟨hx, hb, hml, hown, hts, hK, hini, hfr, hlo, hS, hscr, hd0⟩ := C
  intro H locs cells slots ls hst hl ho
  have k1 := k H locs cells slots ls hst hl (List.forall_mem_cons.mpr ⟨wr_inR _, fun v hv => ho v (List.mem_cons_of_mem _ (List.mem_cons_of_mem _ hv))⟩)
  refine lv_isub hx hb hd ?_
  rw [ofI_sub]
  exact k1
theorem g_imul (C : Cx p R s mi args meth c b S D cI cN cW sc m d) {x y : Int} (hd : decode (mt m).2.2.1 pc = .ok (.imul, 1))  (k : Go p l e R s mi args below meth c Q b S D cI cN cW m h0 (pc + 1) lv (.inl (wr (x * y)) :: st) h) : Go p l e R s mi args below meth c Q b S D cI cN cW m h0 pc lv (.inl y :: .inl x :: st) h := by
  obtain ⟨hx, hb, hml, hown, hts, hK, hini, hfr, hlo, hS, hscr, hd0⟩ := C
  intro H locs cells slots ls hst hl ho
  have k1 := k H locs cells slots ls hst hl (List.forall_mem_cons.mpr ⟨wr_inR _, fun v hv => ho v (List.mem_cons_of_mem _ (List.mem_cons_of_mem _ hv))⟩)
  refine lv_imul hx hb hd ?_
  rw [ofI_mul]
  exact k1
theorem g_irem (C : Cx p R s mi args meth c b S D cI cN cW sc m d) {x y : Int} (hd : decode (mt m).2.2.1 pc = .ok (.irem, 1)) (h1 : 0 ≤ x) (h2 : 0 < y) (k : Go p l e R s mi args below meth c Q b S D cI cN cW m h0 (pc + 1) lv (.inl (x % y) :: st) h) : Go p l e R s mi args below meth c Q b S D cI cN cW m h0 pc lv (.inl y :: .inl x :: st) h := by
  obtain ⟨hx, hb, hml, hown, hts, hK, hini, hfr, hlo, hS, hscr, hd0⟩ := C
  intro H locs cells slots ls hst hl ho
  have hy : inR y := ho _ List.mem_cons_self
  have hxx : inR x := ho _ (List.mem_cons_of_mem _ List.mem_cons_self)
  have hz : inR (x % y) := by
    have a1 := Int.emod_nonneg x (show y ≠ 0 by omega)
    have a2 := Int.emod_lt_of_pos x h2
    unfold inR at hy ⊢
    omega
  have k1 := k H locs cells slots ls hst hl (List.forall_mem_cons.mpr ⟨hz, fun v hv => ho v (List.mem_cons_of_mem _ (List.mem_cons_of_mem _ hv))⟩)
  refine lv_irem hx hb hd (by rw [ofI_0, ofI_eq hy inR_0]; omega) ?_
  rw [ofI_rem hxx hy h1 h2]
  exact k1
theorem g_iand (C : Cx p R s mi args meth c b S D cI cN cW sc m d) {x : Int} (hd : decode (mt m).2.2.1 pc = .ok (.iand, 1))  (k : Go p l e R s mi args below meth c Q b S D cI cN cW m h0 (pc + 1) lv (.inl (x % 32) :: st) h) : Go p l e R s mi args below meth c Q b S D cI cN cW m h0 pc lv (.inl 31 :: .inl x :: st) h := by
  obtain ⟨hx, hb, hml, hown, hts, hK, hini, hfr, hlo, hS, hscr, hd0⟩ := C
  intro H locs cells slots ls hst hl ho
  have k1 := k H locs cells slots ls hst hl (List.forall_mem_cons.mpr ⟨by unfold okv inR; omega, fun v hv => ho v (List.mem_cons_of_mem _ (List.mem_cons_of_mem _ hv))⟩)
  refine lv_iand hx hb hd ?_
  have e1 : Int32.ofInt x &&& Int32.ofInt 31 = Int32.ofInt (x % 32) := by
    rw [pk_and (Int32.ofInt x) (m := Int32.ofInt 31) 5 (by decide), show Int32.ofInt (x % 32) = nI (x % 32).toNat from ofI_nI (by omega), show (2 : Nat) ^ 5 = 32 from rfl]
    congr 1
    have e2 : ((Int32.ofInt x).toBitVec.toNat : Int) = x % 4294967296 := by
      show ((BitVec.ofInt 32 x).toNat : Int) = _
      rw [BitVec.toNat_ofInt]
      omega
    omega
  rw [e1]
  exact k1
theorem g_ixor (C : Cx p R s mi args meth c b S D cI cN cW sc m d) {x y : Int} (hd : decode (mt m).2.2.1 pc = .ok (.ixor, 1))  (k : Go p l e R s mi args below meth c Q b S D cI cN cW m h0 (pc + 1) lv (.inl (Int32.ofInt x ^^^ Int32.ofInt y).toInt :: st) h) : Go p l e R s mi args below meth c Q b S D cI cN cW m h0 pc lv (.inl y :: .inl x :: st) h := by
  obtain ⟨hx, hb, hml, hown, hts, hK, hini, hfr, hlo, hS, hscr, hd0⟩ := C
  intro H locs cells slots ls hst hl ho
  have hz : inR (Int32.ofInt x ^^^ Int32.ofInt y).toInt := by
    have a1 := Int32.le_toInt (Int32.ofInt x ^^^ Int32.ofInt y)
    have a2 := Int32.toInt_lt (Int32.ofInt x ^^^ Int32.ofInt y)
    unfold inR
    omega
  have k1 := k H locs cells slots ls hst hl (List.forall_mem_cons.mpr ⟨hz, fun v hv => ho v (List.mem_cons_of_mem _ (List.mem_cons_of_mem _ hv))⟩)
  refine lv_ixor hx hb hd ?_
  have e1 : Int32.ofInt x ^^^ Int32.ofInt y = Int32.ofInt (Int32.ofInt x ^^^ Int32.ofInt y).toInt := by rw [Int32.ofInt_toInt]
  rw [e1]
  exact k1
theorem g_ladd (C : Cx p R s mi args meth c b S D cI cN cW sc m d) {x y : Int64} (hd : decode (mt m).2.2.1 pc = .ok (.ladd, 1))  (k : Go p l e R s mi args below meth c Q b S D cI cN cW m h0 (pc + 1) lv (.inr (.inr (x + y)) :: st) h) : Go p l e R s mi args below meth c Q b S D cI cN cW m h0 pc lv (.inr (.inr y) :: .inr (.inr x) :: st) h := by
  obtain ⟨hx, hb, hml, hown, hts, hK, hini, hfr, hlo, hS, hscr, hd0⟩ := C
  intro H locs cells slots ls hst hl ho
  exact lv_ladd hx hb hd (k H locs cells slots ls hst hl (List.forall_mem_cons.mpr ⟨trivial, fun v hv => ho v (List.mem_cons_of_mem _ (List.mem_cons_of_mem _ hv))⟩))
theorem g_lmul (C : Cx p R s mi args meth c b S D cI cN cW sc m d) {x y : Int64} (hd : decode (mt m).2.2.1 pc = .ok (.lmul, 1))  (k : Go p l e R s mi args below meth c Q b S D cI cN cW m h0 (pc + 1) lv (.inr (.inr (x * y)) :: st) h) : Go p l e R s mi args below meth c Q b S D cI cN cW m h0 pc lv (.inr (.inr y) :: .inr (.inr x) :: st) h := by
  obtain ⟨hx, hb, hml, hown, hts, hK, hini, hfr, hlo, hS, hscr, hd0⟩ := C
  intro H locs cells slots ls hst hl ho
  exact lv_lmul hx hb hd (k H locs cells slots ls hst hl (List.forall_mem_cons.mpr ⟨trivial, fun v hv => ho v (List.mem_cons_of_mem _ (List.mem_cons_of_mem _ hv))⟩))
theorem g_i2l (C : Cx p R s mi args meth c b S D cI cN cW sc m d) {x : Int} (hd : decode (mt m).2.2.1 pc = .ok (.i2l, 1))  (k : Go p l e R s mi args below meth c Q b S D cI cN cW m h0 (pc + 1) lv (.inr (.inr (Int64.ofInt x)) :: st) h) : Go p l e R s mi args below meth c Q b S D cI cN cW m h0 pc lv (.inl x :: st) h := by
  obtain ⟨hx, hb, hml, hown, hts, hK, hini, hfr, hlo, hS, hscr, hd0⟩ := C
  intro H locs cells slots ls hst hl ho
  have hxx : inR x := ho _ List.mem_cons_self
  refine lv_i2l hx hb hd ?_ (k H locs cells slots ls hst hl (List.forall_mem_cons.mpr ⟨trivial, fun v hv => ho v (List.mem_cons_of_mem _ hv)⟩))
  apply Int64.toInt_inj.mp
  rw [Int32.toInt_toInt64, toI hxx, Int64.toInt_ofInt]
  show x = x.bmod 18446744073709551616
  unfold inR at hxx
  simp only [Int.bmod_def]
  split <;> omega
theorem g_lcmp (C : Cx p R s mi args meth c b S D cI cN cW sc m d) {x y : Int64} (hd : decode (mt m).2.2.1 pc = .ok (.lcmp, 1))  (k : Go p l e R s mi args below meth c Q b S D cI cN cW m h0 (pc + 1) lv (.inl (if x = y then 0 else (lg_cmp x y).toInt) :: st) h) : Go p l e R s mi args below meth c Q b S D cI cN cW m h0 pc lv (.inr (.inr y) :: .inr (.inr x) :: st) h := by
  obtain ⟨hx, hb, hml, hown, hts, hK, hini, hfr, hlo, hS, hscr, hd0⟩ := C
  intro H locs cells slots ls hst hl ho
  have e1 : lg_cmp x y = Int32.ofInt (if x = y then 0 else (lg_cmp x y).toInt) := by
    split
    next hh => rw [(lg_cmp_eq x y).mpr hh]; rfl
    next hh => rw [Int32.ofInt_toInt]
  have hz : inR (if x = y then 0 else (lg_cmp x y).toInt) := by
    have a1 := Int32.le_toInt (lg_cmp x y)
    have a2 := Int32.toInt_lt (lg_cmp x y)
    unfold inR
    split <;> omega
  have k1 := k H locs cells slots ls hst hl (List.forall_mem_cons.mpr ⟨hz, fun v hv => ho v (List.mem_cons_of_mem _ (List.mem_cons_of_mem _ hv))⟩)
  refine W.lcmp hx hb hd ?_
  rw [e1]
  exact k1
theorem g_dup (C : Cx p R s mi args meth c b S D cI cN cW sc m d) {v : av_V} (hd : decode (mt m).2.2.1 pc = .ok (.dup, 1)) (hv : isL v = false) (k : Go p l e R s mi args below meth c Q b S D cI cN cW m h0 (pc + 1) lv (v :: v :: st) h) : Go p l e R s mi args below meth c Q b S D cI cN cW m h0 pc lv (v :: st) h := by
  obtain ⟨hx, hb, hml, hown, hts, hK, hini, hfr, hlo, hS, hscr, hd0⟩ := C
  intro H locs cells slots ls hst hl ho
  exact lv_dup hx hb hd (by rw [enc_cat, hv]; rfl) (k H locs cells slots ls hst hl (List.forall_mem_cons.mpr ⟨ho _ List.mem_cons_self, ho⟩))
theorem g_dup2 (C : Cx p R s mi args meth c b S D cI cN cW sc m d) {v w : av_V} (hd : decode (mt m).2.2.1 pc = .ok (.dup2, 1)) (hv : isL v = false) (hw : isL w = false) (k : Go p l e R s mi args below meth c Q b S D cI cN cW m h0 (pc + 1) lv (v :: w :: v :: w :: st) h) : Go p l e R s mi args below meth c Q b S D cI cN cW m h0 pc lv (v :: w :: st) h := by
  obtain ⟨hx, hb, hml, hown, hts, hK, hini, hfr, hlo, hS, hscr, hd0⟩ := C
  intro H locs cells slots ls hst hl ho
  exact lv_dup2_11 hx hb hd (by rw [enc_cat, hv]; rfl) (by rw [enc_cat, hw]; rfl) (k H locs cells slots ls hst hl (List.forall_mem_cons.mpr ⟨ho _ List.mem_cons_self, List.forall_mem_cons.mpr ⟨ho _ (List.mem_cons_of_mem _ List.mem_cons_self), ho⟩⟩))
theorem g_pop (C : Cx p R s mi args meth c b S D cI cN cW sc m d) {v : av_V} (hd : decode (mt m).2.2.1 pc = .ok (.pop, 1)) (hv : isL v = false) (k : Go p l e R s mi args below meth c Q b S D cI cN cW m h0 (pc + 1) lv st h) : Go p l e R s mi args below meth c Q b S D cI cN cW m h0 pc lv (v :: st) h := by
  obtain ⟨hx, hb, hml, hown, hts, hK, hini, hfr, hlo, hS, hscr, hd0⟩ := C
  intro H locs cells slots ls hst hl ho
  exact lv_pop hx hb hd (by rw [enc_cat, hv]; rfl) (k H locs cells slots ls hst hl (fun v hv => ho v (List.mem_cons_of_mem _ hv)))
theorem g_if_eq (C : Cx p R s mi args meth c b S D cI cN cW sc m d) {x off : Int} (hd : decode (mt m).2.2.1 pc = .ok (.ifCond .eq off, 3)) (hn : 0 ≤ (pc : Int) + off) (kt : x = 0 → Go p l e R s mi args below meth c Q b S D cI cN cW m h0 ((pc : Int) + off).toNat lv st h) (kf : ¬ x = 0 → Go p l e R s mi args below meth c Q b S D cI cN cW m h0 (pc + 3) lv st h) : Go p l e R s mi args below meth c Q b S D cI cN cW m h0 pc lv (.inl x :: st) h := by
  obtain ⟨hx, hb, hml, hown, hts, hK, hini, hfr, hlo, hS, hscr, hd0⟩ := C
  intro H locs cells slots ls hst hl ho
  have hxx : inR x := ho _ List.mem_cons_self
  have ho' : ∀ v ∈ st, okv v := fun v hv => ho v (List.mem_cons_of_mem _ hv)
  refine lv_if_eq (tgt := ((pc : Int) + off).toNat) hx hb hd (by omega) (fun q => kt ?_ H locs cells slots ls hst hl ho') (fun q => kf ?_ H locs cells slots ls hst hl ho')
  · rw [ofI_0, ofI_eq hxx inR_0] at q
    omega
  · rw [ofI_0, ofI_eq hxx inR_0] at q
    omega
theorem g_if_ne (C : Cx p R s mi args meth c b S D cI cN cW sc m d) {x off : Int} (hd : decode (mt m).2.2.1 pc = .ok (.ifCond .ne off, 3)) (hn : 0 ≤ (pc : Int) + off) (kt : ¬ x = 0 → Go p l e R s mi args below meth c Q b S D cI cN cW m h0 ((pc : Int) + off).toNat lv st h) (kf : x = 0 → Go p l e R s mi args below meth c Q b S D cI cN cW m h0 (pc + 3) lv st h) : Go p l e R s mi args below meth c Q b S D cI cN cW m h0 pc lv (.inl x :: st) h := by
  obtain ⟨hx, hb, hml, hown, hts, hK, hini, hfr, hlo, hS, hscr, hd0⟩ := C
  intro H locs cells slots ls hst hl ho
  have hxx : inR x := ho _ List.mem_cons_self
  have ho' : ∀ v ∈ st, okv v := fun v hv => ho v (List.mem_cons_of_mem _ hv)
  refine lv_if_ne (tgt := ((pc : Int) + off).toNat) hx hb hd (by omega) (fun q => kt ?_ H locs cells slots ls hst hl ho') (fun q => kf ?_ H locs cells slots ls hst hl ho')
  · rw [ofI_0, ofI_eq hxx inR_0] at q
    omega
  · rw [ofI_0, ofI_eq hxx inR_0] at q
    omega
theorem g_if_lt (C : Cx p R s mi args meth c b S D cI cN cW sc m d) {x off : Int} (hd : decode (mt m).2.2.1 pc = .ok (.ifCond .lt off, 3)) (hn : 0 ≤ (pc : Int) + off) (kt : x < 0 → Go p l e R s mi args below meth c Q b S D cI cN cW m h0 ((pc : Int) + off).toNat lv st h) (kf : ¬ x < 0 → Go p l e R s mi args below meth c Q b S D cI cN cW m h0 (pc + 3) lv st h) : Go p l e R s mi args below meth c Q b S D cI cN cW m h0 pc lv (.inl x :: st) h := by
  obtain ⟨hx, hb, hml, hown, hts, hK, hini, hfr, hlo, hS, hscr, hd0⟩ := C
  intro H locs cells slots ls hst hl ho
  have hxx : inR x := ho _ List.mem_cons_self
  have ho' : ∀ v ∈ st, okv v := fun v hv => ho v (List.mem_cons_of_mem _ hv)
  refine lv_if_lt (tgt := ((pc : Int) + off).toNat) hx hb hd (by omega) (fun q => kt ?_ H locs cells slots ls hst hl ho') (fun q => kf ?_ H locs cells slots ls hst hl ho')
  · rw [ofI_0, ofI_lt hxx inR_0] at q
    omega
  · rw [ofI_0, ofI_lt hxx inR_0] at q
    omega
theorem g_if_ge (C : Cx p R s mi args meth c b S D cI cN cW sc m d) {x off : Int} (hd : decode (mt m).2.2.1 pc = .ok (.ifCond .ge off, 3)) (hn : 0 ≤ (pc : Int) + off) (kt : ¬ x < 0 → Go p l e R s mi args below meth c Q b S D cI cN cW m h0 ((pc : Int) + off).toNat lv st h) (kf : x < 0 → Go p l e R s mi args below meth c Q b S D cI cN cW m h0 (pc + 3) lv st h) : Go p l e R s mi args below meth c Q b S D cI cN cW m h0 pc lv (.inl x :: st) h := by
  obtain ⟨hx, hb, hml, hown, hts, hK, hini, hfr, hlo, hS, hscr, hd0⟩ := C
  intro H locs cells slots ls hst hl ho
  have hxx : inR x := ho _ List.mem_cons_self
  have ho' : ∀ v ∈ st, okv v := fun v hv => ho v (List.mem_cons_of_mem _ hv)
  refine lv_if_ge (tgt := ((pc : Int) + off).toNat) hx hb hd (by omega) (fun q => kt ?_ H locs cells slots ls hst hl ho') (fun q => kf ?_ H locs cells slots ls hst hl ho')
  · rw [ofI_0, ofI_le inR_0 hxx] at q
    omega
  · rw [ofI_0, ofI_le inR_0 hxx] at q
    omega
theorem g_if_gt (C : Cx p R s mi args meth c b S D cI cN cW sc m d) {x off : Int} (hd : decode (mt m).2.2.1 pc = .ok (.ifCond .gt off, 3)) (hn : 0 ≤ (pc : Int) + off) (kt : 0 < x → Go p l e R s mi args below meth c Q b S D cI cN cW m h0 ((pc : Int) + off).toNat lv st h) (kf : ¬ 0 < x → Go p l e R s mi args below meth c Q b S D cI cN cW m h0 (pc + 3) lv st h) : Go p l e R s mi args below meth c Q b S D cI cN cW m h0 pc lv (.inl x :: st) h := by
  obtain ⟨hx, hb, hml, hown, hts, hK, hini, hfr, hlo, hS, hscr, hd0⟩ := C
  intro H locs cells slots ls hst hl ho
  have hxx : inR x := ho _ List.mem_cons_self
  have ho' : ∀ v ∈ st, okv v := fun v hv => ho v (List.mem_cons_of_mem _ hv)
  refine lv_if_gt (tgt := ((pc : Int) + off).toNat) hx hb hd (by omega) (fun q => kt ?_ H locs cells slots ls hst hl ho') (fun q => kf ?_ H locs cells slots ls hst hl ho')
  · rw [ofI_0, ofI_lt inR_0 hxx] at q
    omega
  · rw [ofI_0, ofI_lt inR_0 hxx] at q
    omega
theorem g_if_le (C : Cx p R s mi args meth c b S D cI cN cW sc m d) {x off : Int} (hd : decode (mt m).2.2.1 pc = .ok (.ifCond .le off, 3)) (hn : 0 ≤ (pc : Int) + off) (kt : ¬ 0 < x → Go p l e R s mi args below meth c Q b S D cI cN cW m h0 ((pc : Int) + off).toNat lv st h) (kf : 0 < x → Go p l e R s mi args below meth c Q b S D cI cN cW m h0 (pc + 3) lv st h) : Go p l e R s mi args below meth c Q b S D cI cN cW m h0 pc lv (.inl x :: st) h := by
  obtain ⟨hx, hb, hml, hown, hts, hK, hini, hfr, hlo, hS, hscr, hd0⟩ := C
  intro H locs cells slots ls hst hl ho
  have hxx : inR x := ho _ List.mem_cons_self
  have ho' : ∀ v ∈ st, okv v := fun v hv => ho v (List.mem_cons_of_mem _ hv)
  refine lv_if_le (tgt := ((pc : Int) + off).toNat) hx hb hd (by omega) (fun q => kt ?_ H locs cells slots ls hst hl ho') (fun q => kf ?_ H locs cells slots ls hst hl ho')
  · rw [ofI_0, ofI_le hxx inR_0] at q
    omega
  · rw [ofI_0, ofI_le hxx inR_0] at q
    omega
theorem g_ic_eq (C : Cx p R s mi args meth c b S D cI cN cW sc m d) {x y off : Int} (hd : decode (mt m).2.2.1 pc = .ok (.if_icmp .eq off, 3)) (hn : 0 ≤ (pc : Int) + off) (kt : x = y → Go p l e R s mi args below meth c Q b S D cI cN cW m h0 ((pc : Int) + off).toNat lv st h) (kf : ¬ x = y → Go p l e R s mi args below meth c Q b S D cI cN cW m h0 (pc + 3) lv st h) : Go p l e R s mi args below meth c Q b S D cI cN cW m h0 pc lv (.inl y :: .inl x :: st) h := by
  obtain ⟨hx, hb, hml, hown, hts, hK, hini, hfr, hlo, hS, hscr, hd0⟩ := C
  intro H locs cells slots ls hst hl ho
  have hyy : inR y := ho _ List.mem_cons_self
  have hxx : inR x := ho _ (List.mem_cons_of_mem _ List.mem_cons_self)
  have ho' : ∀ v ∈ st, okv v := fun v hv => ho v (List.mem_cons_of_mem _ (List.mem_cons_of_mem _ hv))
  refine lv_icmp_eq (tgt := ((pc : Int) + off).toNat) hx hb hd (by omega) (fun q => kt ?_ H locs cells slots ls hst hl ho') (fun q => kf ?_ H locs cells slots ls hst hl ho')
  · rw [ofI_eq hxx hyy] at q
    omega
  · rw [ofI_eq hxx hyy] at q
    omega
theorem g_ic_ne (C : Cx p R s mi args meth c b S D cI cN cW sc m d) {x y off : Int} (hd : decode (mt m).2.2.1 pc = .ok (.if_icmp .ne off, 3)) (hn : 0 ≤ (pc : Int) + off) (kt : ¬ x = y → Go p l e R s mi args below meth c Q b S D cI cN cW m h0 ((pc : Int) + off).toNat lv st h) (kf : x = y → Go p l e R s mi args below meth c Q b S D cI cN cW m h0 (pc + 3) lv st h) : Go p l e R s mi args below meth c Q b S D cI cN cW m h0 pc lv (.inl y :: .inl x :: st) h := by
  obtain ⟨hx, hb, hml, hown, hts, hK, hini, hfr, hlo, hS, hscr, hd0⟩ := C
  intro H locs cells slots ls hst hl ho
  have hyy : inR y := ho _ List.mem_cons_self
  have hxx : inR x := ho _ (List.mem_cons_of_mem _ List.mem_cons_self)
  have ho' : ∀ v ∈ st, okv v := fun v hv => ho v (List.mem_cons_of_mem _ (List.mem_cons_of_mem _ hv))
  refine lv_icmp_ne (tgt := ((pc : Int) + off).toNat) hx hb hd (by omega) (fun q => kt ?_ H locs cells slots ls hst hl ho') (fun q => kf ?_ H locs cells slots ls hst hl ho')
  · rw [ofI_eq hxx hyy] at q
    omega
  · rw [ofI_eq hxx hyy] at q
    omega
theorem g_ic_lt (C : Cx p R s mi args meth c b S D cI cN cW sc m d) {x y off : Int} (hd : decode (mt m).2.2.1 pc = .ok (.if_icmp .lt off, 3)) (hn : 0 ≤ (pc : Int) + off) (kt : x < y → Go p l e R s mi args below meth c Q b S D cI cN cW m h0 ((pc : Int) + off).toNat lv st h) (kf : ¬ x < y → Go p l e R s mi args below meth c Q b S D cI cN cW m h0 (pc + 3) lv st h) : Go p l e R s mi args below meth c Q b S D cI cN cW m h0 pc lv (.inl y :: .inl x :: st) h := by
  obtain ⟨hx, hb, hml, hown, hts, hK, hini, hfr, hlo, hS, hscr, hd0⟩ := C
  intro H locs cells slots ls hst hl ho
  have hyy : inR y := ho _ List.mem_cons_self
  have hxx : inR x := ho _ (List.mem_cons_of_mem _ List.mem_cons_self)
  have ho' : ∀ v ∈ st, okv v := fun v hv => ho v (List.mem_cons_of_mem _ (List.mem_cons_of_mem _ hv))
  refine lv_icmp_lt (tgt := ((pc : Int) + off).toNat) hx hb hd (by omega) (fun q => kt ?_ H locs cells slots ls hst hl ho') (fun q => kf ?_ H locs cells slots ls hst hl ho')
  · rw [ofI_lt hxx hyy] at q
    omega
  · rw [ofI_lt hxx hyy] at q
    omega
theorem g_ic_ge (C : Cx p R s mi args meth c b S D cI cN cW sc m d) {x y off : Int} (hd : decode (mt m).2.2.1 pc = .ok (.if_icmp .ge off, 3)) (hn : 0 ≤ (pc : Int) + off) (kt : ¬ x < y → Go p l e R s mi args below meth c Q b S D cI cN cW m h0 ((pc : Int) + off).toNat lv st h) (kf : x < y → Go p l e R s mi args below meth c Q b S D cI cN cW m h0 (pc + 3) lv st h) : Go p l e R s mi args below meth c Q b S D cI cN cW m h0 pc lv (.inl y :: .inl x :: st) h := by
  obtain ⟨hx, hb, hml, hown, hts, hK, hini, hfr, hlo, hS, hscr, hd0⟩ := C
  intro H locs cells slots ls hst hl ho
  have hyy : inR y := ho _ List.mem_cons_self
  have hxx : inR x := ho _ (List.mem_cons_of_mem _ List.mem_cons_self)
  have ho' : ∀ v ∈ st, okv v := fun v hv => ho v (List.mem_cons_of_mem _ (List.mem_cons_of_mem _ hv))
  refine lv_icmp_ge (tgt := ((pc : Int) + off).toNat) hx hb hd (by omega) (fun q => kt ?_ H locs cells slots ls hst hl ho') (fun q => kf ?_ H locs cells slots ls hst hl ho')
  · rw [ofI_le hyy hxx] at q
    omega
  · rw [ofI_le hyy hxx] at q
    omega
theorem g_ic_gt (C : Cx p R s mi args meth c b S D cI cN cW sc m d) {x y off : Int} (hd : decode (mt m).2.2.1 pc = .ok (.if_icmp .gt off, 3)) (hn : 0 ≤ (pc : Int) + off) (kt : y < x → Go p l e R s mi args below meth c Q b S D cI cN cW m h0 ((pc : Int) + off).toNat lv st h) (kf : ¬ y < x → Go p l e R s mi args below meth c Q b S D cI cN cW m h0 (pc + 3) lv st h) : Go p l e R s mi args below meth c Q b S D cI cN cW m h0 pc lv (.inl y :: .inl x :: st) h := by
  obtain ⟨hx, hb, hml, hown, hts, hK, hini, hfr, hlo, hS, hscr, hd0⟩ := C
  intro H locs cells slots ls hst hl ho
  have hyy : inR y := ho _ List.mem_cons_self
  have hxx : inR x := ho _ (List.mem_cons_of_mem _ List.mem_cons_self)
  have ho' : ∀ v ∈ st, okv v := fun v hv => ho v (List.mem_cons_of_mem _ (List.mem_cons_of_mem _ hv))
  refine lv_icmp_gt (tgt := ((pc : Int) + off).toNat) hx hb hd (by omega) (fun q => kt ?_ H locs cells slots ls hst hl ho') (fun q => kf ?_ H locs cells slots ls hst hl ho')
  · rw [ofI_lt hyy hxx] at q
    omega
  · rw [ofI_lt hyy hxx] at q
    omega
theorem g_ic_le (C : Cx p R s mi args meth c b S D cI cN cW sc m d) {x y off : Int} (hd : decode (mt m).2.2.1 pc = .ok (.if_icmp .le off, 3)) (hn : 0 ≤ (pc : Int) + off) (kt : ¬ y < x → Go p l e R s mi args below meth c Q b S D cI cN cW m h0 ((pc : Int) + off).toNat lv st h) (kf : y < x → Go p l e R s mi args below meth c Q b S D cI cN cW m h0 (pc + 3) lv st h) : Go p l e R s mi args below meth c Q b S D cI cN cW m h0 pc lv (.inl y :: .inl x :: st) h := by
  obtain ⟨hx, hb, hml, hown, hts, hK, hini, hfr, hlo, hS, hscr, hd0⟩ := C
  intro H locs cells slots ls hst hl ho
  have hyy : inR y := ho _ List.mem_cons_self
  have hxx : inR x := ho _ (List.mem_cons_of_mem _ List.mem_cons_self)
  have ho' : ∀ v ∈ st, okv v := fun v hv => ho v (List.mem_cons_of_mem _ (List.mem_cons_of_mem _ hv))
  refine lv_icmp_le (tgt := ((pc : Int) + off).toNat) hx hb hd (by omega) (fun q => kt ?_ H locs cells slots ls hst hl ho') (fun q => kf ?_ H locs cells slots ls hst hl ho')
  · rw [ofI_le hxx hyy] at q
    omega
  · rw [ofI_le hxx hyy] at q
    omega
theorem g_goto (C : Cx p R s mi args meth c b S D cI cN cW sc m d) {off : Int} (hd : decode (mt m).2.2.1 pc = .ok (.goto off, 3)) (hn : 0 ≤ (pc : Int) + off) (k : Go p l e R s mi args below meth c Q b S D cI cN cW m h0 ((pc : Int) + off).toNat lv st h) : Go p l e R s mi args below meth c Q b S D cI cN cW m h0 pc lv st h := by
  obtain ⟨hx, hb, hml, hown, hts, hK, hini, hfr, hlo, hS, hscr, hd0⟩ := C
  intro H locs cells slots ls hst hl ho
  exact lv_goto (tgt := ((pc : Int) + off).toNat) hx hb hd (by omega) (k H locs cells slots ls hst hl ho)
theorem tps_sw {q x : Int} {l : List Int} : ∀ {lo : Int} {dd : Int}, (x < lo ∨ lo + l.length ≤ x → sw x (tps q lo l) (q + dd) = q + dd) ∧ (lo ≤ x → x < lo + l.length → ∃ o, l[(x - lo).toNat]? = some o ∧ sw x (tps q lo l) (q + dd) = q + o) := by
  induction l with
  | nil => intro lo dd; exact ⟨fun _ => rfl, fun h1 h2 => by simp at h2; omega⟩
  | cons o r ih =>
    intro lo dd
    obtain ⟨i1, i2⟩ := @ih (lo + 1) dd
    constructor
    · intro h1
      simp only [List.length_cons] at h1
      simp only [tps, sw]
      rw [if_neg (by omega)]
      exact i1 (by omega)
    · intro h1 h2
      simp only [List.length_cons] at h2
      by_cases hx : x = lo
      · subst hx
        exact ⟨o, by simp, by simp [tps, sw]⟩
      · obtain ⟨o', e1, e2⟩ := i2 (by omega) (by omega)
        refine ⟨o', ?_, ?_⟩
        · rw [show (x - lo).toNat = (x - (lo + 1)).toNat + 1 by omega, List.getElem?_cons_succ]
          exact e1
        · simp only [tps, sw]
          rw [if_neg hx]
          exact e2
theorem g_table (C : Cx p R s mi args meth c b S D cI cN cW sc m d) {x dd lo hi : Int} {offs : Array Int} {len : Nat} (hd : decode (mt m).2.2.1 pc = .ok (.tableswitch dd lo hi offs, len)) (h1 : 0 ≤ (pc : Int) + dd) (h2 : nng pc offs.toList = true) (h3 : (offs.size : Int) = hi - lo + 1) (k : Go p l e R s mi args below meth c Q b S D cI cN cW m h0 (sw x (tps pc lo offs.toList) ((pc : Int) + dd)).toNat lv st h) : Go p l e R s mi args below meth c Q b S D cI cN cW m h0 pc lv (.inl x :: st) h := by
  obtain ⟨hx, hb, hml, hown, hts, hK, hini, hfr, hlo, hS, hscr, hd0⟩ := C
  intro H locs cells slots ls hst hl ho
  have hxx : inR x := ho _ List.mem_cons_self
  have ho' : ∀ v ∈ st, okv v := fun v hv => ho v (List.mem_cons_of_mem _ hv)
  have k1 := k H locs cells slots ls hst hl ho'
  have hl3 : (offs.toList.length : Int) = hi - lo + 1 := by rw [Array.length_toList]; exact h3
  obtain ⟨t1, t2⟩ := @tps_sw (pc : Int) x offs.toList lo dd
  by_cases hq : x < lo ∨ hi < x
  · rw [t1 (by omega)] at k1
    exact lv_tableOut (tgt := ((pc : Int) + dd).toNat) hx hb hd (by rw [toI hxx]; exact hq) (by omega) k1
  · obtain ⟨o, e1, e2⟩ := t2 (by omega) (by omega)
    rw [e2] at k1
    have h4 : 0 ≤ (pc : Int) + o := by
      have := List.all_eq_true.mp h2 o (List.mem_of_getElem? e1)
      exact of_decide_eq_true this
    exact lv_tableIn (tgt := ((pc : Int) + o).toNat) (off := o) hx hb hd (by rw [toI hxx]; omega) (by rw [toI hxx]; omega) (by rw [toI hxx, ← Array.getElem?_toList]; exact e1) (by omega) k1
theorem look_sw {q x : Int} {l : List (Int × Int)} {dd : Int} : sw x (l.map fun y => (y.1, q + y.2)) (q + dd) = q + Op.lookupswitch.offset l dd x := by
  induction l with
  | nil => rfl
  | cons y r ih =>
    obtain ⟨a, o⟩ := y
    rw [Op.lookupswitch.offset_cons]
    simp only [List.map_cons, sw]
    by_cases hx : x = a
    · rw [if_pos hx]
      first | rw [if_pos hx] | rw [if_pos hx.symm]
    · rw [if_neg hx]
      first | rw [if_neg hx] | rw [if_neg (Ne.symm hx)]
      exact ih
theorem look_in {x : Int} {l : List (Int × Int)} {dd : Int} : Op.lookupswitch.offset l dd x = dd ∨ Op.lookupswitch.offset l dd x ∈ l.map (fun q => q.2) := by
  induction l with
  | nil => exact Or.inl rfl
  | cons y r ih =>
    obtain ⟨a, o⟩ := y
    rw [Op.lookupswitch.offset_cons]
    split
    · exact Or.inr (by simp)
    · rcases ih with h | h
      · exact Or.inl h
      · exact Or.inr (List.mem_cons_of_mem _ h)
theorem g_lookup (C : Cx p R s mi args meth c b S D cI cN cW sc m d) {x dd : Int} {ps : Array (Int × Int)} {len : Nat} (hd : decode (mt m).2.2.1 pc = .ok (.lookupswitch dd ps, len)) (h1 : 0 ≤ (pc : Int) + dd) (h2 : nng pc (ps.toList.map fun q => q.2) = true) (h3 : (ps.toList.zip (ps.toList.drop 1)).all (fun (a, next) => a.1 < next.1) = true) (k : Go p l e R s mi args below meth c Q b S D cI cN cW m h0 (sw x (ps.toList.map fun q => (q.1, (pc : Int) + q.2)) ((pc : Int) + dd)).toNat lv st h) : Go p l e R s mi args below meth c Q b S D cI cN cW m h0 pc lv (.inl x :: st) h := by
  obtain ⟨hx, hb, hml, hown, hts, hK, hini, hfr, hlo, hS, hscr, hd0⟩ := C
  intro H locs cells slots ls hst hl ho
  have hxx : inR x := ho _ List.mem_cons_self
  have ho' : ∀ v ∈ st, okv v := fun v hv => ho v (List.mem_cons_of_mem _ hv)
  have k1 := k H locs cells slots ls hst hl ho'
  rw [look_sw] at k1
  have h4 : 0 ≤ (pc : Int) + Op.lookupswitch.offset ps.toList dd x := by
    rcases @look_in x ps.toList dd with h | h
    · rw [h]; exact h1
    · exact of_decide_eq_true (List.all_eq_true.mp h2 _ h)
  exact lv_lookup (tgt := ((pc : Int) + Op.lookupswitch.offset ps.toList dd x).toNat) hx hb hd h3 (by rw [toI hxx]) (by omega) k1
end STP
