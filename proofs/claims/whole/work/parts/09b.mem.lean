/-! fields and arrays -/
theorem fld_in {c : Nat} (hc : c < 7) : ∀ w ∈ u_ws (cnm c) (fT c) (nfl c), w ∈ gws := by
  intro w hw
  obtain ⟨k, hk, rfl⟩ := List.mem_map.mp hw
  exact wAt.mem (List.all_eq_true.mp (List.all_eq_true.mp fld_ok c (List.mem_range.mpr hc)) k hk)
theorem fln_of {o i c k pl : Nat} (h : (o, i, c, k, pl) ∈ fln) : c < 7 ∧ k < nfl c ∧ Cond.fieldLink (cnm o) i (cnm c) (fT c k).2.1 (fT c k).2.2.1 ∈ gws := by
  have h1 := List.all_eq_true.mp fln_ok _ h
  simp only [Bool.and_eq_true, decide_eq_true_eq] at h1
  exact ⟨h1.1, h1.2.1, wAt.mem h1.2.2⟩
theorem enc_ref {b S a : Nat} (h : a ≠ 0) : enc b S (.inr (.inl a)) = .ref (adr b S a) := by simp [enc, orf, h, va_rf]
theorem okH.obj {b S : Nat} {cI cN cW : ClassId} {h : av_H} (ho : okH h) {a c : Nat} (hk : (kd h a).1 = c + 1) (hc : c < 7) : 2 ≤ a ∧ a < h.1.1 + 2 ∧ eE b S cI cN cW h a = .inr (c, (List.range (nfl c)).map (fv b S h c a)) := by
  obtain ⟨-, h2, h3⟩ := ho
  have h4 := h2 a (by omega)
  have h5 := h3 a (by omega)
  refine ⟨h4.1, h4.2, ?_⟩
  unfold eE
  rw [if_neg (by omega), if_neg (by omega), if_neg (by omega), hk]
  rcases h5.2 with h6 | h6
  · omega
  · have h7 : (kd h a).2 = nfl c := by rw [h6.2, hk]; rfl
    rw [h7]
    rfl
theorem okH.int {b S : Nat} {cI cN cW : ClassId} {h : av_H} (ho : okH h) {a : Nat} (hk : (kd h a).1 = 10) : 2 ≤ a ∧ a < h.1.1 + 2 ∧ eE b S cI cN cW h a = .inl (cI, (kd h a).2, .inl (fun i => Int32.ofInt (gI h a i))) := by
  obtain ⟨-, h2, h3⟩ := ho
  have h4 := h2 a (by omega)
  refine ⟨h4.1, h4.2, ?_⟩
  unfold eE
  rw [if_pos hk]
theorem okH.nar {b S : Nat} {cI cN cW : ClassId} {h : av_H} (ho : okH h) {a : Nat} (hk : (kd h a).1 = 11) : 2 ≤ a ∧ a < h.1.1 + 2 ∧ eE b S cI cN cW h a = .inl (cN, (kd h a).2, .inr (.inr (.inr (.inr (fun i => orf b S (gR h a i)))))) := by
  obtain ⟨-, h2, h3⟩ := ho
  have h4 := h2 a (by omega)
  refine ⟨h4.1, h4.2, ?_⟩
  unfold eE
  rw [if_neg (by omega), if_pos hk]
theorem okH.war {b S : Nat} {cI cN cW : ClassId} {h : av_H} (ho : okH h) {a : Nat} (hk : (kd h a).1 = 15) : 2 ≤ a ∧ a < h.1.1 + 2 ∧ eE b S cI cN cW h a = .inl (cW, (kd h a).2, .inr (.inr (.inr (.inr (fun i => orf b S (gR h a i)))))) := by
  obtain ⟨-, h2, h3⟩ := ho
  have h4 := h2 a (by omega)
  refine ⟨h4.1, h4.2, ?_⟩
  unfold eE
  rw [if_neg (by omega), if_neg (by omega), if_pos hk]
theorem okH.sI {h : av_H} (ho : okH h) {a k : Nat} {z : Int} (hz : inR z) : okH (sI h a k z) := by
  refine ⟨fun b j => ?_, ho.2⟩
  show inR (if b = a ∧ j = k then z else gI h b j)
  split
  · exact hz
  · exact ho.1 b j
theorem okH.sR {h : av_H} (ho : okH h) {a k r : Nat} : okH (sR h a k r) := ⟨ho.1, ho.2⟩
theorem okH.cp {h : av_H} (ho : okH h) {a sp b dp n : Nat} : okH (cp h a sp b dp n) := by
  refine ⟨fun c j => ?_, ho.2⟩
  show inR (if c = b ∧ dp ≤ j ∧ j < dp + n then gI h a (sp + (j - dp)) else gI h c j)
  split
  · exact ho.1 _ _
  · exact ho.1 _ _
theorem eE_other {b S : Nat} {cI cN cW : ClassId} {h h' : av_H} {c : Nat} (hk : kd h' c = kd h c) (hi : gI h' c = gI h c) (hr : gR h' c = gR h c) : eE b S cI cN cW h' c = eE b S cI cN cW h c := by
  unfold eE fv
  rw [hk, hi, hr]
theorem eE_sI {b S : Nat} {cI cN cW : ClassId} {h : av_H} {a k : Nat} {z : Int} {c : Nat} (hc : c ≠ a) : eE b S cI cN cW (sI h a k z) c = eE b S cI cN cW h c :=
  eE_other rfl (by funext j; show (if c = a ∧ j = k then z else gI h c j) = gI h c j; rw [if_neg (by omega)]) rfl
theorem eE_sR {b S : Nat} {cI cN cW : ClassId} {h : av_H} {a k r : Nat} {c : Nat} (hc : c ≠ a) : eE b S cI cN cW (sR h a k r) c = eE b S cI cN cW h c :=
  eE_other rfl rfl (by funext j; show (if c = a ∧ j = k then r else gR h c j) = gR h c j; rw [if_neg (by omega)])
theorem eE_cp {b S : Nat} {cI cN cW : ClassId} {h : av_H} {a sp a2 dp n : Nat} {c : Nat} (hc : c ≠ a2) : eE b S cI cN cW (cp h a sp a2 dp n) c = eE b S cI cN cW h c :=
  eE_other rfl (by funext j; show (if c = a2 ∧ dp ≤ j ∧ j < dp + n then gI h a (sp + (j - dp)) else gI h c j) = gI h c j; rw [if_neg (by omega)]) rfl
theorem fv_set {b S : Nat} {h h' : av_H} {c a k n : Nat} {v : Value} (hv : fv b S h' c a k = v) (ho : ∀ j, j ≠ k → fv b S h' c a j = fv b S h c a j) : ((List.range n).map (fv b S h c a)).set k v = (List.range n).map (fv b S h' c a) := by
  apply List.ext_getElem?
  intro i
  by_cases hi : i = k
  · subst hi
    by_cases hl : i < n
    · rw [List.getElem?_set_self (by simpa using hl), List.getElem?_map, List.getElem?_range hl]
      simp [hv]
    · rw [List.getElem?_eq_none (by simp; omega), List.getElem?_eq_none (by simp; omega)]
  · rw [List.getElem?_set_ne (Ne.symm hi), List.getElem?_map, List.getElem?_map]
    by_cases hl : i < n
    · rw [List.getElem?_range hl]
      simp only [Option.map_some]
      rw [ho i hi]
    · rw [List.getElem?_eq_none (by simp; omega)]
      rfl
theorem rfl_ty : ∀ c, c < 7 → ∀ k, k < nfl c → (rfl_ c k = false → fty c k = .int ∨ fty c k = .boolean) ∧ (rfl_ c k = true → (match fty c k with | .object _ => true | .array _ => true | _ => false) = true) := by decide +kernel
section MEM
variable {p : Program} {l : Launch} {e : Env} {R : Room} {s : State} {mi : MethodId} {args : Array Value} {below : List Frame} {meth : Method} {c : Code} {Q : State → Prop} {b S : Nat} {D : va_G} {cI cN cW : ClassId} {sc : av_S} {m d : Nat} {h0 : av_H} {pc : Nat} {lv : av_L} {st : List av_V} {h : av_H}
theorem g_getF (C : Cx p R s mi args meth c b S D cI cN cW sc m d) {i ci k pl a : Nat} (hd : decode (mt m).2.2.1 pc = .ok (.getfield i, 3)) (hf : (mcl m, i, ci, k, pl) ∈ fln) (hk : (kd h a).1 = ci + 1) {v : av_V} (hv : enc b S v = fv b S h ci a k) (hov : okH h → okv v) (kk : Go p l e R s mi args below meth c Q b S D cI cN cW m h0 (pc + 3) lv (v :: st) h) : Go p l e R s mi args below meth c Q b S D cI cN cW m h0 pc lv (.inr (.inl a) :: st) h := by
  obtain ⟨hx, hb, hml, hown, hts, hK, hini, hfr, hlo, hS, hscr, hd0⟩ := C
  intro H locs cells slots ls hst hl ho
  have hst' := hst
  obtain ⟨⟨hP, hok⟩, hS0, hce, hsl, hs0⟩ := hst'
  obtain ⟨hc7, hkn, hw⟩ := fln_of hf
  obtain ⟨ha1, ha2, he⟩ := hok.obj (b := b) (S := S) (cI := cI) (cN := cN) (cW := cW) hk hc7
  have hg := ws_get (b := b) (S := S) (cI := cI) (cN := cN) (cW := cW) ha1 ha2
  rw [he] at hg
  rw [List.map_cons, enc_ref (by omega)]
  refine va_get (T := fT ci) (N := nfl ci) (ci := ci) (v := enc b S v) hx hb hts (fld_in hc7) hown hK.1 hP (a - 2) hg (vw_ok ci hc7) k hkn (hts _ hw) (fun x9 h9 => by rw [← fcl_ok ci hc7 k hkn]; exact h9) ?_ hd (kk H locs cells slots ls hst hl (List.forall_mem_cons.mpr ⟨hov hok, fun v hv => ho v (List.mem_cons_of_mem _ hv)⟩))
  rw [List.getElem?_map, List.getElem?_range hkn, hv]
  rfl
theorem g_putF (C : Cx p R s mi args meth c b S D cI cN cW sc m d) {i ci k pl a : Nat} (hd : decode (mt m).2.2.1 pc = .ok (.putfield i, 3)) (hf : (mcl m, i, ci, k, pl) ∈ fln) (hfin : (fT ci k).2.2.2 = false ∨ (mini m = true ∧ ci = mcl m)) (hk : (kd h a).1 = ci + 1) {v : av_V} {h' : av_H} (hn : narrow (fty ci k) (enc b S v) = enc b S v) (hfit : fits (fty ci k) (enc b S v) = true) (hv : fv b S h' ci a k = enc b S v) (hoth : ∀ j, j ≠ k → fv b S h' ci a j = fv b S h ci a j) (hkd : ∀ q, kd h' q = kd h q) (h1' : h'.1 = h.1) (hE : ∀ q, q ≠ a → eE b S cI cN cW h' q = eE b S cI cN cW h q) (hok' : okH h → okv v → okH h') (kk : Go p l e R s mi args below meth c Q b S D cI cN cW m h0 (pc + 3) lv st h') : Go p l e R s mi args below meth c Q b S D cI cN cW m h0 pc lv (v :: .inr (.inl a) :: st) h := by
  obtain ⟨hx, hb, hml, hown, hts, hK, hini, hfr, hlo, hS, hscr, hd0⟩ := C
  intro H locs cells slots ls hst hl ho
  have hst' := hst
  obtain ⟨⟨hP, hok⟩, hS0, hce, hsl, hs0⟩ := hst'
  obtain ⟨hc7, hkn, hw⟩ := fln_of hf
  obtain ⟨ha1, ha2, he⟩ := hok.obj (b := b) (S := S) (cI := cI) (cN := cN) (cW := cW) hk hc7
  have hg := ws_get (b := b) (S := S) (cI := cI) (cN := cN) (cW := cW) ha1 ha2
  rw [he] at hg
  have hov : okv v := ho _ List.mem_cons_self
  have hok2 := hok' hok hov
  obtain ⟨-, -, he2⟩ := hok2.obj (b := b) (S := S) (cI := cI) (cN := cN) (cW := cW) (show (kd h' a).1 = ci + 1 by rw [hkd]; exact hk) hc7
  have hset : (wsO b S cI cN cW h).set (a - 2) (adr b S a, .inr (ci, ((List.range (nfl ci)).map (fv b S h ci a)).set k (enc b S v))) = wsO b S cI cN cW h' := by
    refine ws_set ha1 ha2 h1' ?_ hE
    rw [he2, fv_set hv hoth]
  rw [List.map_cons, List.map_cons, enc_ref (show a ≠ 0 by omega)]
  have fin : ∀ (H1 : Heap) (locs1 : List Loc), va_P D vwCl ((wsO b S cI cN cW h).set (a - 2) (adr b S a, .inr (ci, ((List.range (nfl ci)).map (fv b S h ci a)).set k (enc b S v)))) H1 → va_D (fun q => S ≤ q) ((wsO b S cI cN cW h).set (a - 2) (adr b S a, .inr (ci, ((List.range (nfl ci)).map (fv b S h ci a)).set k (enc b S v)))) → va_S (fun q => S ≤ q) s.heap H1 locs1 → W p l e R s mi args below meth c H1 locs1 cells slots Q (F0 mi (pc + 3) ls (st.map (enc b S))) := by
    intro H1 locs1 hP1 hD1 hS1
    rw [hset] at hP1
    exact kk H1 locs1 cells slots ls ⟨⟨hP1, hok2⟩, hS1, by rw [h1']; exact hce, by rw [h1']; exact hsl, hs0⟩ hl (fun v hv => ho v (List.mem_cons_of_mem _ (List.mem_cons_of_mem _ hv)))
  by_cases hff : (fT ci k).2.2.2 = false
  · exact va_put (T := fT ci) (N := nfl ci) (ci := ci) (ty := fty ci k) hx hb hts (fld_in hc7) (fty ci) (fun k hk => fty_ok ci hc7 k hk) (fun a ha b hb => fnm_ok ci hc7 a ha b hb) hown hK.1 hP ws_D hS0 (a - 2) hg (vw_ok ci hc7) k hkn (hts _ hw) (fun x9 h9 => by rw [← fcl_ok ci hc7 k hkn]; exact h9) hff (fty_ok ci hc7 k hkn) hn hfit (by simpa using hkn) hd fin
  · have hff2 : (fT ci k).2.2.2 = true := by simpa using hff
    rcases hfin with hz | ⟨hz1, hz2⟩
    · exact absurd hz hff
    · exact va_putF (T := fT ci) (N := nfl ci) (ci := ci) (ty := fty ci k) hx hb hts (fld_in hc7) (fty ci) (fun k hk => fty_ok ci hc7 k hk) (fun a ha b hb => fnm_ok ci hc7 a ha b hb) hown hK.1 hP ws_D hS0 (a - 2) hg (vw_ok ci hc7) k hkn (hts _ hw) (fun x9 h9 => by rw [← fcl_ok ci hc7 k hkn]; exact h9) hff2 (hini hz1) (by rw [fcl_ok ci hc7 k hkn, hz2]) (fty_ok ci hc7 k hkn) hn hfit (by simpa using hkn) hd fin
theorem g_iaload (C : Cx p R s mi args meth c b S D cI cN cW sc m d) {a : Nat} {i : Int} (hd : decode (mt m).2.2.1 pc = .ok (.iaload, 1)) (hk : (kd h a).1 = 10) (h1 : 0 ≤ i) (h2 : i < ((kd h a).2 : Int)) (kk : Go p l e R s mi args below meth c Q b S D cI cN cW m h0 (pc + 1) lv (.inl (gI h a i.toNat) :: st) h) : Go p l e R s mi args below meth c Q b S D cI cN cW m h0 pc lv (.inl i :: .inr (.inl a) :: st) h := by
  obtain ⟨hx, hb, hml, hown, hts, hK, hini, hfr, hlo, hS, hscr, hd0⟩ := C
  intro H locs cells slots ls hst hl ho
  have hst' := hst
  obtain ⟨⟨hP, hok⟩, hS0, hce, hsl, hs0⟩ := hst'
  obtain ⟨ha1, ha2, he⟩ := hok.int (b := b) (S := S) (cI := cI) (cN := cN) (cW := cW) hk
  have hg := ws_get (b := b) (S := S) (cI := cI) (cN := cN) (cW := cW) ha1 ha2
  rw [he] at hg
  have hi : inR i := ho _ List.mem_cons_self
  rw [List.map_cons, List.map_cons, enc_ref (show a ≠ 0 by omega)]
  have k1 := kk H locs cells slots ls hst hl (List.forall_mem_cons.mpr ⟨hok.1 _ _, fun v hv => ho v (List.mem_cons_of_mem _ (List.mem_cons_of_mem _ hv))⟩)
  refine va_iald (i := Int32.ofInt i) hx hb hK.1 hP (a - 2) 0 hg rfl (ofI_in hi h1 h2) hd ?_
  rw [ofI_cl hi h1]
  exact k1
theorem g_iastore (C : Cx p R s mi args meth c b S D cI cN cW sc m d) {a : Nat} {i z : Int} (hd : decode (mt m).2.2.1 pc = .ok (.iastore, 1)) (hk : (kd h a).1 = 10) (h1 : 0 ≤ i) (h2 : i < ((kd h a).2 : Int)) (kk : Go p l e R s mi args below meth c Q b S D cI cN cW m h0 (pc + 1) lv st (sI h a i.toNat z)) : Go p l e R s mi args below meth c Q b S D cI cN cW m h0 pc lv (.inl z :: .inl i :: .inr (.inl a) :: st) h := by
  obtain ⟨hx, hb, hml, hown, hts, hK, hini, hfr, hlo, hS, hscr, hd0⟩ := C
  intro H locs cells slots ls hst hl ho
  have hst' := hst
  obtain ⟨⟨hP, hok⟩, hS0, hce, hsl, hs0⟩ := hst'
  obtain ⟨ha1, ha2, he⟩ := hok.int (b := b) (S := S) (cI := cI) (cN := cN) (cW := cW) hk
  have hg := ws_get (b := b) (S := S) (cI := cI) (cN := cN) (cW := cW) ha1 ha2
  rw [he] at hg
  have hz : inR z := ho _ List.mem_cons_self
  have hi : inR i := ho _ (List.mem_cons_of_mem _ List.mem_cons_self)
  have hok2 : okH (sI h a i.toNat z) := hok.sI hz
  rw [List.map_cons, List.map_cons, List.map_cons, enc_ref (show a ≠ 0 by omega)]
  refine va_iast (i := Int32.ofInt i) (x := Int32.ofInt z) hx hb hK.1 hP ws_D hS0 (a - 2) 0 hg rfl (ofI_in hi h1 h2) hd ?_
  intro H1 locs1 hP1 hD1 hS1
  have hset : (wsO b S cI cN cW h).set (a - 2) (adr b S a, .inl (cI, (kd h a).2, .inl (upd (fun i => Int32.ofInt (gI h a i)) (Int32.ofInt i).toNatClampNeg (Int32.ofInt z)))) = wsO b S cI cN cW (sI h a i.toNat z) := by
    refine ws_set ha1 ha2 rfl ?_ (fun q hq => eE_sI hq)
    rw [(hok2.int (b := b) (S := S) (cI := cI) (cN := cN) (cW := cW) hk).2.2, ofI_cl hi h1]
    have e1 : (fun j => Int32.ofInt (gI (sI h a i.toNat z) a j)) = upd (fun i => Int32.ofInt (gI h a i)) i.toNat (Int32.ofInt z) := by
      funext j
      show Int32.ofInt (if a = a ∧ j = i.toNat then z else gI h a j) = if j = i.toNat then Int32.ofInt z else Int32.ofInt (gI h a j)
      by_cases hj : j = i.toNat <;> simp [hj]
    rw [e1]
    rfl
  rw [hset] at hP1
  exact kk H1 locs1 cells slots ls ⟨⟨hP1, hok2⟩, hS1, hce, hsl, hs0⟩ hl (fun v hv => ho v (List.mem_cons_of_mem _ (List.mem_cons_of_mem _ (List.mem_cons_of_mem _ hv))))
theorem g_aaload (C : Cx p R s mi args meth c b S D cI cN cW sc m d) {a : Nat} {i : Int} (hd : decode (mt m).2.2.1 pc = .ok (.aaload, 1)) (hk : (kd h a).1 = 11 ∨ (kd h a).1 = 15) (h1 : 0 ≤ i) (h2 : i < ((kd h a).2 : Int)) (kk : Go p l e R s mi args below meth c Q b S D cI cN cW m h0 (pc + 1) lv (.inr (.inl (gR h a i.toNat)) :: st) h) : Go p l e R s mi args below meth c Q b S D cI cN cW m h0 pc lv (.inl i :: .inr (.inl a) :: st) h := by
  obtain ⟨hx, hb, hml, hown, hts, hK, hini, hfr, hlo, hS, hscr, hd0⟩ := C
  intro H locs cells slots ls hst hl ho
  have hst' := hst
  obtain ⟨⟨hP, hok⟩, hS0, hce, hsl, hs0⟩ := hst'
  have hi : inR i := ho _ List.mem_cons_self
  have k1 := kk H locs cells slots ls hst hl (List.forall_mem_cons.mpr ⟨trivial, fun v hv => ho v (List.mem_cons_of_mem _ (List.mem_cons_of_mem _ hv))⟩)
  rcases hk with hk | hk
  · obtain ⟨ha1, ha2, he⟩ := hok.nar (b := b) (S := S) (cI := cI) (cN := cN) (cW := cW) hk
    have hg := ws_get (b := b) (S := S) (cI := cI) (cN := cN) (cW := cW) ha1 ha2
    rw [he] at hg
    rw [List.map_cons, List.map_cons, enc_ref (show a ≠ 0 by omega)]
    refine va_aldq (i := Int32.ofInt i) (C := RX0) hx hb hK.1 hP (a - 2) 1 hg rfl (ofI_in hi h1 h2) hd ?_
    rw [ofI_cl hi h1]
    exact k1
  · obtain ⟨ha1, ha2, he⟩ := hok.war (b := b) (S := S) (cI := cI) (cN := cN) (cW := cW) hk
    have hg := ws_get (b := b) (S := S) (cI := cI) (cN := cN) (cW := cW) ha1 ha2
    rw [he] at hg
    rw [List.map_cons, List.map_cons, enc_ref (show a ≠ 0 by omega)]
    refine va_aldq (i := Int32.ofInt i) (C := RX4) hx hb hK.1 hP (a - 2) 2 hg rfl (ofI_in hi h1 h2) hd ?_
    rw [ofI_cl hi h1]
    exact k1
theorem g_aastore (C : Cx p R s mi args meth c b S D cI cN cW sc m d) {a r : Nat} {i : Int} (hd : decode (mt m).2.2.1 pc = .ok (.aastore, 1)) (hk : ((kd h a).1 = 11 ∧ (kd h r).1 = 1) ∨ ((kd h a).1 = 15 ∧ (kd h r).1 = 5)) (h1 : 0 ≤ i) (h2 : i < ((kd h a).2 : Int)) (kk : Go p l e R s mi args below meth c Q b S D cI cN cW m h0 (pc + 1) lv st (sR h a i.toNat r)) : Go p l e R s mi args below meth c Q b S D cI cN cW m h0 pc lv (.inr (.inl r) :: .inl i :: .inr (.inl a) :: st) h := by
  obtain ⟨hx, hb, hml, hown, hts, hK, hini, hfr, hlo, hS, hscr, hd0⟩ := C
  intro H locs cells slots ls hst hl ho
  have hst' := hst
  obtain ⟨⟨hP, hok⟩, hS0, hce, hsl, hs0⟩ := hst'
  have hi : inR i := ho _ (List.mem_cons_of_mem _ List.mem_cons_self)
  have hok2 : okH (sR h a i.toNat r) := hok.sR
  have e1 : ∀ hr : r ≠ 0, (fun j => orf b S (gR (sR h a i.toNat r) a j)) = va_up (fun i => orf b S (gR h a i)) i.toNat (some (adr b S r)) := by
    intro hr
    funext j
    show orf b S (if a = a ∧ j = i.toNat then r else gR h a j) = if j = i.toNat then some (adr b S r) else orf b S (gR h a j)
    by_cases hj : j = i.toNat
    · simp [hj, orf, hr]
    · simp [hj]
  rcases hk with ⟨hk, hk2⟩ | ⟨hk, hk2⟩
  · obtain ⟨ha1, ha2, he⟩ := hok.nar (b := b) (S := S) (cI := cI) (cN := cN) (cW := cW) hk
    have hg := ws_get (b := b) (S := S) (cI := cI) (cN := cN) (cW := cW) ha1 ha2
    rw [he] at hg
    obtain ⟨hr1, hr2, her⟩ := hok.obj (b := b) (S := S) (cI := cI) (cN := cN) (cW := cW) (c := 0) hk2 (by omega)
    have hgr := ws_get (b := b) (S := S) (cI := cI) (cN := cN) (cW := cW) hr1 hr2
    rw [her] at hgr
    rw [List.map_cons, List.map_cons, List.map_cons, enc_ref (show a ≠ 0 by omega), enc_ref (show r ≠ 0 by omega)]
    refine va_astq (i := Int32.ofInt i) (ci := 0) hx hb hK.1 hP ws_D hS0 (a - 2) 1 (r - 2) hg rfl hgr (vw_ok 0 (by omega)) (ofI_in hi h1 h2) hd ?_
    intro H1 locs1 hP1 hD1 hS1
    have hset : (wsO b S cI cN cW h).set (a - 2) (adr b S a, .inl (cN, (kd h a).2, .inr (.inr (.inr (.inr (va_up (fun i => orf b S (gR h a i)) (Int32.ofInt i).toNatClampNeg (some (adr b S r)))))))) = wsO b S cI cN cW (sR h a i.toNat r) := by
      refine ws_set ha1 ha2 rfl ?_ (fun q hq => eE_sR hq)
      rw [(hok2.nar (b := b) (S := S) (cI := cI) (cN := cN) (cW := cW) hk).2.2, ofI_cl hi h1, e1 (by omega)]
      rfl
    rw [hset] at hP1
    exact kk H1 locs1 cells slots ls ⟨⟨hP1, hok2⟩, hS1, hce, hsl, hs0⟩ hl (fun v hv => ho v (List.mem_cons_of_mem _ (List.mem_cons_of_mem _ (List.mem_cons_of_mem _ hv))))
  · obtain ⟨ha1, ha2, he⟩ := hok.war (b := b) (S := S) (cI := cI) (cN := cN) (cW := cW) hk
    have hg := ws_get (b := b) (S := S) (cI := cI) (cN := cN) (cW := cW) ha1 ha2
    rw [he] at hg
    obtain ⟨hr1, hr2, her⟩ := hok.obj (b := b) (S := S) (cI := cI) (cN := cN) (cW := cW) (c := 4) hk2 (by omega)
    have hgr := ws_get (b := b) (S := S) (cI := cI) (cN := cN) (cW := cW) hr1 hr2
    rw [her] at hgr
    rw [List.map_cons, List.map_cons, List.map_cons, enc_ref (show a ≠ 0 by omega), enc_ref (show r ≠ 0 by omega)]
    refine va_astq (i := Int32.ofInt i) (ci := 4) hx hb hK.1 hP ws_D hS0 (a - 2) 2 (r - 2) hg rfl hgr (vw_ok 4 (by omega)) (ofI_in hi h1 h2) hd ?_
    intro H1 locs1 hP1 hD1 hS1
    have hset : (wsO b S cI cN cW h).set (a - 2) (adr b S a, .inl (cW, (kd h a).2, .inr (.inr (.inr (.inr (va_up (fun i => orf b S (gR h a i)) (Int32.ofInt i).toNatClampNeg (some (adr b S r)))))))) = wsO b S cI cN cW (sR h a i.toNat r) := by
      refine ws_set ha1 ha2 rfl ?_ (fun q hq => eE_sR hq)
      rw [(hok2.war (b := b) (S := S) (cI := cI) (cN := cN) (cW := cW) hk).2.2, ofI_cl hi h1, e1 (by omega)]
      rfl
    rw [hset] at hP1
    exact kk H1 locs1 cells slots ls ⟨⟨hP1, hok2⟩, hS1, hce, hsl, hs0⟩ hl (fun v hv => ho v (List.mem_cons_of_mem _ (List.mem_cons_of_mem _ (List.mem_cons_of_mem _ hv))))
theorem g_arraylength (C : Cx p R s mi args meth c b S D cI cN cW sc m d) {a : Nat} (hd : decode (mt m).2.2.1 pc = .ok (.arraylength, 1)) (hk : (kd h a).1 = 10) (kk : Go p l e R s mi args below meth c Q b S D cI cN cW m h0 (pc + 1) lv (.inl ((kd h a).2 : Int) :: st) h) : Go p l e R s mi args below meth c Q b S D cI cN cW m h0 pc lv (.inr (.inl a) :: st) h := by
  obtain ⟨hx, hb, hml, hown, hts, hK, hini, hfr, hlo, hS, hscr, hd0⟩ := C
  intro H locs cells slots ls hst hl ho
  have hst' := hst
  obtain ⟨⟨hP, hok⟩, hS0, hce, hsl, hs0⟩ := hst'
  obtain ⟨ha1, ha2, he⟩ := hok.int (b := b) (S := S) (cI := cI) (cN := cN) (cW := cW) hk
  have hg := ws_get (b := b) (S := S) (cI := cI) (cN := cN) (cW := cW) ha1 ha2
  rw [he] at hg
  have hlen := (hok.2.2 a (by omega)).1
  rw [List.map_cons, enc_ref (show a ≠ 0 by omega)]
  exact va_alen (v := Int32.ofInt ((kd h a).2 : Int)) hx hb hK.1 hP (a - 2) 0 hg rfl (by rw [Int32.ofInt_eq_ofNat]) hd (kk H locs cells slots ls hst hl (List.forall_mem_cons.mpr ⟨by unfold okv inR; omega, fun v hv => ho v (List.mem_cons_of_mem _ hv)⟩))
theorem g_baload (C : Cx p R s mi args meth c b S D cI cN cW sc m d) (hm : m = 159) {i : Int} (hd : decode (mt m).2.2.1 pc = .ok (.iaload, 1)) (h1 : 0 ≤ i) (h2 : i < (sc.1 : Int)) (kk : Go p l e R s mi args below meth c Q b S D cI cN cW m h0 (pc + 1) lv (.inl (sc.2 i.toNat) :: st) h) : Go p l e R s mi args below meth c Q b S D cI cN cW m h0 pc lv (.inl i :: .inr (.inl 1) :: st) h := by
  obtain ⟨hx, hb, hml, hown, hts, hK, hini, hfr, hlo, hS, hscr, hd0⟩ := C
  intro H locs cells slots ls hst hl ho
  have hst' := hst
  obtain ⟨⟨hP, hok⟩, hS0, hce, hsl, hs0⟩ := hst'
  obtain ⟨hX, hbS, hsc, hin⟩ := hscr hm
  have hi : inR i := ho _ List.mem_cons_self
  have k1 := kk H locs cells slots ls hst hl (List.forall_mem_cons.mpr ⟨hin _, fun v hv => ho v (List.mem_cons_of_mem _ (List.mem_cons_of_mem _ hv))⟩)
  rw [List.map_cons, List.map_cons, enc_ref (show (1 : Nat) ≠ 0 by omega), show adr b S 1 = b from rfl]
  refine va_sld (i := Int32.ofInt i) hx hb hX (by omega) (show ¬ S ≤ b by omega) hS0 (ofI_in hi h1 h2) hd ?_
  rw [ofI_cl hi h1]
  exact k1
theorem g_athrow (C : Cx p R s mi args meth c b S D cI cN cW sc m d) (hm : m = 159) (hd : decode (mt m).2.2.1 pc = .ok (.arraylength, 1)) (kk : Go p l e R s mi args below meth c Q b S D cI cN cW m h0 (pc + 1) lv (.inl (sc.1 : Int) :: st) h) : Go p l e R s mi args below meth c Q b S D cI cN cW m h0 pc lv (.inr (.inl 1) :: st) h := by
  obtain ⟨hx, hb, hml, hown, hts, hK, hini, hfr, hlo, hS, hscr, hd0⟩ := C
  intro H locs cells slots ls hst hl ho
  have hst' := hst
  obtain ⟨⟨hP, hok⟩, hS0, hce, hsl, hs0⟩ := hst'
  obtain ⟨hX, hbS, hsc, hin⟩ := hscr hm
  have k1 := kk H locs cells slots ls hst hl (List.forall_mem_cons.mpr ⟨by unfold okv inR; omega, fun v hv => ho v (List.mem_cons_of_mem _ hv)⟩)
  rw [List.map_cons, enc_ref (show (1 : Nat) ≠ 0 by omega), show adr b S 1 = b from rfl]
  refine va_slen hx hb hX (by omega) (show ¬ S ≤ b by omega) hS0 hd ?_
  have e1 : Int32.ofNat sc.1 = Int32.ofInt (sc.1 : Int) := by rw [Int32.ofInt_eq_ofNat]
  rw [e1]
  exact k1
end MEM
