/-- SOUNDNESS: what the picture runs to its end, the machine does -/
def SND (sc : av_S) (f : Nat) : Prop := ∀ (d m pc : Nat) (lv : av_L) (st : List av_V) (h : av_H) (r : Option av_V) (hF : av_H), run sc f d m pc lv st h = some (r, hF) → m < 160 → ∀ (p : Program) (l : Launch) (e : Env) (R : Room) (s : State) (mi : MethodId) (args : Array Value) (below : List Frame) (meth : Method) (c : Code) (Q : State → Prop) (b S : Nat) (D : va_G) (cI cN cW : ClassId) (h0 : av_H), Cx p R s mi args meth c b S D cI cN cW sc m d → hF.1.1 ≤ h0.1.1 + R.cells → hF.1.2 ≤ h0.1.2 + R.slots →
  (∀ (pcR len : Nat) (raw ins : Instr) (lvR : av_L) (stR : List av_V), decode (mt m).2.2.1 pcR = .ok (raw, len) → nrm (mcl m) (mini m) (mt m).2.2.2.2.1 (decide (m = 159)) pcR raw len = some ins → act sc ins pcR len lvR stR hF = some (.inr (.inl r)) → Go p l e R s mi args below meth c Q b S D cI cN cW m h0 pcR lvR stR hF) →
  Go p l e R s mi args below meth c Q b S D cI cN cW m h0 pc lv st h
section RET
variable {p : Program} {l : Launch} {e : Env} {R : Room} {s : State} {mi : MethodId} {args : Array Value} {below : List Frame} {meth : Method} {c : Code} {b S : Nat} {D : va_G} {cI cN cW : ClassId} {sc : av_S} {m d : Nat} {h0 : av_H} {pc : Nat} {lv : av_L} {st : List av_V} {h : av_H}
set_option maxHeartbeats 4000000 in
/-- a method's end -/
theorem retG (C : Cx p R s mi args meth c b S D cI cN cW sc m d) {ins raw : Instr} {len mc ms : Nat} {r : Option av_V} {lw : Bool} (hret : meth.sig.returnType = (mt m).2.2.2.2.1) (hlk : meth.locks = false) (hd : decode (mt m).2.2.1 pc = .ok (raw, len)) (hn : nrm (mcl m) (mini m) (mt m).2.2.2.2.1 lw pc raw len = some ins) (ha : act sc ins pc len lv st h = some (.inr (.inl r))) (hmc : mc + h0.1.1 = h.1.1) (hms : ms + h0.1.2 = h.1.2) : Go p l e R s mi args below meth c (MQ below (Qc_ b S D cI cN cW r h) args s mc ms (fun q => S ≤ q)) b S D cI cN cW m h0 pc lv st h := by
  obtain ⟨hx, hb, hml, hown, hts, hK, hini, hfr, hlo, hS, hscr, hd0⟩ := C
  intro H locs cells slots ls hst hl ho
  have hst' := hst
  obtain ⟨hRel, hS0, hce, hsl, hs0⟩ := hst'
  have hc1 : cells = mc := by omega
  have hc2 : slots = ms := by omega
  subst hc1 hc2
  have hlocs : ∀ q ∈ locs, (fun q => S ≤ q) q.base := hS0.2.2
  have fin : ∀ (t : State), t.heap = H → (∀ v, r = some v → okv v) → Qc_ b S D cI cN cW r h args s (.returned (r.map (enc b S))) t := by
    intro t ht hv
    exact ⟨rfl, by rw [ht]; exact hRel, hS0.F ht, hv⟩
  unfold nrm at hn
  split at hn
  case h_50 =>
    split at hn
    · next hr1 =>
      cases hn
      simp only [act, rt] at ha
      split at ha
      · next z =>
        cases ha
        have hz := ho _ List.mem_cons_self
        exact W.iret hx hb (hret.trans hr1) (fun t ht _ => fin t ht (fun v hv => by cases hv; exact hz)) hlocs hd (hlocks := hlk)
      · cases ha
    · split at hn
      · next hr1 =>
        cases hn
        simp only [act, rt] at ha
        split at ha
        · next z =>
          split at ha
          · next hz01 =>
            cases ha
            have hz := ho _ List.mem_cons_self
            exact W.zret hx hb (hret.trans hr1) (by rcases hz01 with rfl | rfl <;> rfl) (fun t ht _ => fin t ht (fun v hv => by cases hv; exact hz)) hlocs hd (hlocks := hlk)
          · cases ha
        · cases ha
      · cases hn
  case h_51 =>
    split at hn
    · next hr1 =>
      cases hn
      simp only [act, rt] at ha
      split at ha
      · cases ha
        exact W.lret hx hb (hret.trans hr1) (fun t ht _ => fin t ht (fun v hv => by cases hv; trivial)) hlocs hd (hlocks := hlk)
      · cases ha
    · cases hn
  case h_52 =>
    split at hn
    · next nm hr1 =>
      cases hn
      simp only [act, rt] at ha
      split at ha
      · next a =>
        cases ha
        refine W.aret hx hb (hret.trans hr1) (Or.inl ⟨_, rfl⟩) ?_ (fun t ht _ => fin t ht (fun v hv => by cases hv; trivial)) hlocs hd (hlocks := hlk)
        by_cases ha0 : a = 0
        · exact Or.inl (by simp [enc, orf, ha0, va_rf])
        · exact Or.inr ⟨_, enc_ref ha0⟩
      · cases ha
    · cases hn
  case h_53 =>
    split at hn
    · next hr1 =>
      cases hn
      simp only [act, rt] at ha
      split at ha
      · cases ha
        exact W.vret hx hb (hret.trans hr1) (fun t ht _ => fin t ht (fun v hv => by cases hv)) hlocs hd (hlocks := hlk)
      · cases ha
    · cases hn
  all_goals (repeat' split at hn)
  all_goals first
    | (cases hn; done)
    | (cases hn
       unfold act at ha
       simp only [nx, rt, cl_] at ha
       repeat' split at ha
       all_goals first | (cases ha; done) | contradiction)
    | (cases hn
       unfold act at ha
       split at ha <;> simp only [nx, rt, cl_] at ha <;> (repeat' split at ha) <;> first | (cases ha; done) | contradiction)
end RET
