/-! THE CLAIM OUT OF ONE WALK OF THE LAW'S BODY. Your part is whole_start (and what it stands on); all else here is the same for every law, but numbers. -/
def R_law : String := "BarrierStreamsLaw"
def lw_P (b : Addr) (xs : List Int32) (args : Array Value) (s : State) : Prop := args = #[.ref b] ∧ s.IntsAt b xs ∧ xs.length ≤ 2560 ∧ (Jvm.Cond.and given_1 narrow_1).before args s = true
def lw_Q (_ : Array Value) (s : State) (o : Outcome) (t : State) : Prop := o = .returned (some (.int 1)) ∧ Framed s o t [] 600000 7302250
def lw_Z (below : List Frame) (a : Array Value) (s : State) : State → Prop := fun t => ∃ o, t.status = .running ∧ Ended t below o ∧ lw_Q a s o t
/-- the law's own end, with 1 on the stack, nothing written that was there before, its room as the claim has it -/
theorem lw_ret {p : Program} {l : Launch} {e : Env} {s : State} {m : MethodId} {below : List Frame} {meth : Method} {c : Code} {b : Nat} (hx : p.tables.exec = Jvm.exec) (hb : c.code = code) (hr : meth.sig.returnType = ret) (hlocks : meth.locks = false) {pc : Nat} {H : Heap} {ls : Array Slot} (hdg : decode code pc = .ok (.ireturn, 1)) : W p l e room_1 s m #[Value.ref b] below meth c H [] 600000 7302250 (lw_Z below #[Value.ref b] s) (F0 m pc ls [.int 1]) := by
  intro T hT X
  obtain ⟨fs, hret, hrun, hended, hW, hframe⟩ := X.leave (v := some (.int 1)) (hlocks := hlocks) (fun h => by rw [hr] at h; cases h)
  have hmeth' : T.vm.method? m = some meth := X.method'
  refine ⟨T.setFrames fs, ?_, .returned (some (.int 1)), hrun, hended, rfl, ⟨_, rfl⟩, hW, hframe⟩
  jvm_step X.here [X.here.top, hx, hb, hdg, hmeth', hr, ret, narrow_b1]
  (try refine ⟨rfl, ?_⟩); (try refine ⟨rfl, ?_⟩)
  first | (intro acts; rw [hret _ acts rfl rfl rfl]) | rw [hret _ _ rfl rfl rfl]
  exact Steps.refl _
/-- what holds at the law's entry: the machine, the code, the tables' words (any of lw_tbl by 'hts w (by decide +kernel)'), the script of L ints xs at the cell b, what the Statement gives of the start (any of its parts by flat_of_before) -/
def lw_At (p : Program) (s : State) (m : MethodId) (meth : Method) (c : Code) (b L : Nat) (xs : Nat → Int32) : Prop :=
  p.tables.exec = Jvm.exec ∧ c.code = code ∧ meth.sig.returnType = ret ∧ c.maxLocals = 4 ∧ s.vm.findClass R_law = some m.cls ∧ (∀ w ∈ lw_tbl, w.before #[Value.ref b] s = true) ∧ va_X b L xs s s.heap ∧ b < s.heap.size ∧ meth.locks = false ∧ (Jvm.Cond.and given_1 narrow_1).before #[Value.ref b] s = true
/-- the empty picture -/
def hE0 : av_H := ((0, 0), fun _ => (0, 0), fun _ _ => 0, fun _ _ => 0)
theorem okH_E0 : okH hE0 := ⟨fun _ _ => inR_0, fun a h => absurd rfl h, fun a h => absurd rfl h⟩
/-- the claim, in the picture -/
def LawWP : Prop := ∀ (sc : av_S), sc.1 ≤ 2560 → (∀ i, inR (sc.2 i)) → WP sc 13 159 0 [(0, .inr (.inl 1))] [] hE0 (fun r h' => r = some (.inl 1) ∧ h'.1.1 ≤ 600000 ∧ h'.1.2 ≤ 7302250)
theorem gws_in {w : Cond} (h : w ∈ gws) : w ∈ lw_tbl := (List.mem_filter.mp h).1
theorem KK_start {s : State} {args : Array Value} (hts : ∀ w ∈ lw_tbl, w.before args s = true) : ∃ (D : va_G) (cI cN cW : ClassId), KK D cI cN cW s := by
  have hg : ∀ w ∈ gws, w.before args s = true := fun w hw => hts w (gws_in hw)
  have hk : ∀ c, ∃ (cC : ClassId) (iS : Nat → Nat), c < 7 → u_Kn s (cnm c) (fT c) (nfl c) cC iS := by
    intro c
    by_cases hc : c < 7
    · have h2 := List.all_eq_true.mp cls_ok c (List.mem_range.mpr hc)
      simp only [Bool.and_eq_true] at h2
      obtain ⟨cC, iS, h3⟩ := u_known (C := cnm c) (T := fT c) (N := nfl c) (n := nfl c) hg (fld_in hc) (hg _ (wAt.mem h2.1))
      exact ⟨cC, iS, fun _ => h3⟩
    · exact ⟨0, fun _ => 0, fun h => absurd h hc⟩
  obtain ⟨cI, hI⟩ : ∃ cI, ArrOfT s cI .int ∧ va_RA s cI .int := by
    have h1 := hg _ (wAt.mem arr_ok)
    obtain ⟨cA, k, comp, h2, h3, h4⟩ := Cond.arrayClass_spec h1
    exact ⟨cA, fun n z => ⟨fun q h => (by cases h), k, h3, comp, h4⟩, h2⟩
  have hO : ∀ C : String, va_AO C s → ∃ cA, ArrOfT s cA (.object C) ∧ va_RA s cA (.object C) := by
    intro C h
    obtain ⟨comp, cA, k, h1, h2, h3, h4, h5⟩ := Cond.arrayOver_spec h
    exact ⟨cA, fun n z => ⟨fun q h => (by cases h), k, h3, comp, h4⟩, k, comp, h3, h4, h1, h5⟩
  have a0 : va_AO RX0 s := va_AO.of (hts (.arrayOver (.object RX0)) (by decide +kernel))
  have a4 : va_AO RX4 s := va_AO.of (hts (.arrayOver (.object RX4)) (by decide +kernel))
  obtain ⟨cN, hN⟩ := hO RX0 a0
  obtain ⟨cW, hW⟩ := hO RX4 a4
  refine ⟨(fun c => Classical.choose (hk c), fun c => Classical.choose (Classical.choose_spec (hk c))), cI, cN, cW, ⟨fun c q hq => ?_, fun k q hq => ?_⟩, a0, a4, va_Nw.of rfl (hts _ (by decide +kernel)), va_Nw.of rfl (hts _ (by decide +kernel)), va_Nw.of rfl (hts _ (by decide +kernel))⟩
  · have hc : c < 7 := (List.getElem?_eq_some_iff.mp hq).1
    rw [vw_ok c hc] at hq
    cases hq
    exact Classical.choose_spec (Classical.choose_spec (hk c)) hc
  · match k, hq with
    | 0, hq => cases hq; exact hI
    | 1, hq => cases hq; exact hN
    | 2, hq => cases hq; exact hW
    | n + 3, hq => simp at hq
set_option maxRecDepth 20000 in
set_option maxHeartbeats 4000000 in
theorem lawEnd {p : Program} {l : Launch} {e : Env} {s : State} {m : MethodId} {below : List Frame} {meth : Method} {c : Code} {b : Nat} {D : va_G} {cI cN cW : ClassId} {sc : av_S} {h : av_H} {pc len : Nat} {raw ins : Instr} {lv : av_L} {st : List av_V} {lw : Bool} (hx : p.tables.exec = Jvm.exec) (hb : c.code = code) (hr : meth.sig.returnType = ret) (hlocks : meth.locks = false) (hh1 : h.1.1 ≤ 600000) (hh2 : h.1.2 ≤ 7302250) (hd : decode (mt 159).2.2.1 pc = .ok (raw, len)) (hn : nrm (mcl 159) (mini 159) (mt 159).2.2.2.2.1 lw pc raw len = some ins) (ha : act sc ins pc len lv st h = some (.inr (.inl (some (.inl 1))))) : Go p l e room_1 s m #[Value.ref b] below meth c (lw_Z below #[Value.ref b] s) b s.heap.size D cI cN cW 159 hE0 pc lv st h := by
  intro H locs cells slots ls hst hl ho
  obtain ⟨hRel, hS0, hce, hsl, hs0⟩ := hst
  have hret : (mt 159).2.2.2.2.1 = some .boolean := rfl
  rw [hret] at hn
  unfold nrm at hn
  split at hn
  case h_50 =>
    rw [if_neg (by decide), if_pos rfl] at hn
    cases hn
    simp only [act, rt] at ha
    split at ha
    · split at ha
      · cases ha
        refine va_forget (fun q hq => hS0.2.2 q hq) ?_
        refine W.widen (k := 600000) (n := 7302250) (by have : hE0.1.1 = 0 := rfl; omega) (by have : hE0.1.2 = 0 := rfl; omega) ?_
        exact lw_ret hx hb hr hlocks hd
      · cases ha
    · cases ha
  case h_51 =>
    split at hn
    · next hz => cases hz
    · cases hn
  case h_52 => cases hn
  case h_53 =>
    split at hn
    · next hz => cases hz
    · cases hn
  all_goals (repeat' split at hn)
  all_goals first
    | (cases hn; done)
    | (cases hn
       unfold act at ha
       simp only [nx, rt, cl_] at ha
       repeat' split at ha
       all_goals first | (cases ha; done) | contradiction)
    | (cases hn
       unfold act at ha
       split at ha <;> simp only [nx, rt, cl_] at ha <;> (repeat' split at ha) <;> first | (cases ha; done) | contradiction)
theorem whole_of (HW : LawWP) {p : Program} {e : Env} {s : State} {m : MethodId} {below : List Frame} {meth : Method} {c : Code} (l : Launch) {b L : Nat} {xs : Nat → Int32} (hL : L ≤ 2560) (C0 : lw_At p s m meth c b L xs) : W p l e room_1 s m #[Value.ref b] below meth c s.heap [] 0 0 (lw_Z below #[Value.ref b] s) (entryFrame m ([Value.ref b] : List Value).toArray 4) := by
  obtain ⟨hx, hb, hr, hml, hown, hts, hX, hbl, hlocks, hgv⟩ := id C0
  obtain ⟨D, cI, cN, cW, hK⟩ := KK_start hts
  have hin : ∀ i, inR ((fun i => (xs i).toInt) i) := by
    intro i
    have a1 := Int32.le_toInt (xs i)
    have a2 := Int32.toInt_lt (xs i)
    unfold inR
    dsimp only
    omega
  obtain ⟨f, r, h', hrun, rfl, hh1, hh2⟩ := HW (L, fun i => (xs i).toInt) hL hin
  have C : Cx p room_1 s m #[Value.ref b] meth c b s.heap.size D cI cN cW (L, fun i => (xs i).toInt) 159 13 := by
    refine ⟨hx, hb, hml, hown, fun w hw => hts w (gws_in hw), hK, (fun h9 => absurd h9 (by decide)), rfl, rfl, Nat.le_refl _, (fun _ => ⟨?_, hbl, (by show L < 100000; omega), hin⟩), (by omega)⟩
    have e1 : (fun i => Int32.ofInt (xs i).toInt) = xs := by
      funext i
      rw [Int32.ofInt_toInt]
    show va_X b L (fun i => Int32.ofInt (xs i).toInt) s s.heap
    rw [e1]
    exact hX
  have hgo := snd_all f 13 159 0 _ _ _ _ _ hrun (by omega) p l e room_1 s m #[Value.ref b] below meth c (lw_Z below #[Value.ref b] s) b s.heap.size D cI cN cW hE0 C (by show _ ≤ 0 + 600000; omega) (by show _ ≤ 0 + 7302250; omega)
    (fun pcR len raw ins lvR stR q1 q2 q3 => lawEnd hx hb hr hlocks hh1 hh2 q1 q2 q3)
  have hl0 := lv_entry ([Value.ref b]) (n := 4) (Nat.le_of_ble_eq_true rfl)
  rw [lg_entry_eq]
  refine hgo s.heap [] 0 0 _ ⟨⟨(fun k q hq => by cases hq), okH_E0⟩, va_S.rf, rfl, rfl, rfl⟩ ⟨?_, ?_⟩ (fun v hv => by cases hv)
  · have e2 : ([(0, .inr (.inl 1))] : av_L).map (fun q => (q.1, enc b s.heap.size q.2)) = lv_args 0 [Value.ref b] := by
      show [(0, enc b s.heap.size (.inr (.inl 1)))] = [(0, Value.ref b)]
      rw [enc_ref (by omega)]
      rfl
    rw [e2]
    exact hl0
  · intro q hq
    rw [List.mem_singleton.mp hq]
    trivial
