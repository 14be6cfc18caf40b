/-! new cells, copies -/
theorem kd_al (h : av_H) (q n a : Nat) : kd (al h q n) a = if a = h.1.1 + 2 then (q, n) else kd h a := rfl
theorem eE_al {b S : Nat} {cI cN cW : ClassId} {h : av_H} {q n c : Nat} (hc : c ≠ h.1.1 + 2) : eE b S cI cN cW (al h q n) c = eE b S cI cN cW h c := by
  refine eE_other ?_ ?_ ?_
  · rw [kd_al, if_neg hc]
  · funext j
    show (if c = h.1.1 + 2 then 0 else gI h c j) = gI h c j
    rw [if_neg hc]
  · funext j
    show (if c = h.1.1 + 2 then 0 else gR h c j) = gR h c j
    rw [if_neg hc]
theorem ws_al {b S : Nat} {cI cN cW : ClassId} {h : av_H} {q n : Nat} : wsO b S cI cN cW (al h q n) = wsO b S cI cN cW h ++ [(S + h.1.1, eE b S cI cN cW (al h q n) (h.1.1 + 2))] := by
  unfold wsO
  show (List.range (h.1.1 + 1)).map _ = _
  rw [List.range_succ, List.map_append]
  congr 1
  apply List.map_congr_left
  intro k hk
  have hk' := List.mem_range.mp hk
  rw [eE_al (by omega)]
theorem okH.al {h : av_H} (ho : okH h) {q n : Nat} (hn : n < 100000) (hq : (q = 10 ∨ q = 11 ∨ q = 15) ∨ (1 ≤ q ∧ q ≤ 7 ∧ n = nfl (q - 1))) : okH (al h q n) := by
  refine ⟨fun a k => ?_, fun a ha => ?_, fun a ha => ?_⟩
  · show inR (if a = h.1.1 + 2 then 0 else gI h a k)
    split
    · exact inR_0
    · exact ho.1 a k
  · rw [kd_al] at ha
    show 2 ≤ a ∧ a < h.1.1 + 1 + 2
    split at ha
    · omega
    · have := ho.2.1 a ha
      omega
  · rw [kd_al] at ha ⊢
    split
    · exact ⟨hn, by dsimp only; rcases hq with h1 | h1
                    · exact Or.inl h1
                    · exact Or.inr ⟨h1.2.1, h1.2.2⟩⟩
    · next hh =>
      rw [if_neg hh] at ha
      exact ho.2.2 a ha
section NEW
variable {p : Program} {l : Launch} {e : Env} {R : Room} {s : State} {mi : MethodId} {args : Array Value} {below : List Frame} {meth : Method} {c : Code} {Q : State → Prop} {b S : Nat} {D : va_G} {cI cN cW : ClassId} {sc : av_S} {m d : Nat} {h0 : av_H} {pc : Nat} {lv : av_L} {st : List av_V} {h : av_H}
theorem sz_of {T : State} {H : Heap} {locs : List Loc} {cells slots : Nat} (X : Stand p l e R s mi args below meth c T locs cells slots) (hst : St s b S D cI cN cW h0 h H locs cells slots) (hT : T.heap = H) : H.size = S + h.1.1 := by
  obtain ⟨⟨hP, hok⟩, hS0, hce, hsl, hs0⟩ := hst
  have h1 := X.heapSize
  rw [hT] at h1
  have h2 := hS0.1
  by_cases hz : h.1.1 = 0
  · omega
  · have h3 : (wsO b S cI cN cW h)[h.1.1 - 1]? = some (S + (h.1.1 - 1), eE b S cI cN cW h (h.1.1 - 1 + 2)) := by
      unfold wsO
      rw [List.getElem?_map, List.getElem?_range (by omega)]
      rfl
    have h4 := (hP _ _ h3).lt
    dsimp only at h4
    omega
/-- the world with one more cell -/
theorem ws_push {H H' : Heap} {locs : List Loc} {cells slots q n : Nat} (hst : St s b S D cI cN cW h0 h H locs cells slots) (hsz : H.size = S + h.1.1) (hz : H'.size = S + h.1.1 + 1) (ho : ∀ a, a < S + h.1.1 → H'[a]? = H[a]?) (hok2 : okH (al h q n)) (hnew : va_at D vwCl (S + h.1.1, eE b S cI cN cW (al h q n) (h.1.1 + 2)) H') : St s b S D cI cN cW h0 (al h q n) H' locs (cells + 1) (slots + n) := by
  obtain ⟨⟨hP, hok⟩, hS0, hce, hsl, hs0⟩ := hst
  refine ⟨⟨?_, hok2⟩, ⟨by have := hS0.1; omega, fun a h1 h2 => ?_, hS0.2.2⟩, by show cells + 1 + _ = h.1.1 + 1; omega, by show slots + n + _ = h.1.2 + n; omega, hs0⟩
  · rw [ws_al]
    refine va_P.app (hP.kept fun k x hx => ho x.1 ?_) (fun k x hx => ?_)
    · have := (hP k x hx).lt
      omega
    · have hk : k = 0 := by
        have := (List.getElem?_eq_some_iff.mp hx).1
        simp at this
        exact this
      subst hk
      cases hx
      exact hnew
  · rw [ho a (by have := hS0.1; omega)]
    exact hS0.2.1 a h1 h2
theorem adr_new : adr b S (h.1.1 + 2) = S + h.1.1 := by
  unfold adr
  rw [if_neg (by omega)]
  omega
theorem g_new (C : Cx p R s mi args meth c b S D cI cN cW sc m d) {i ci pl : Nat} (hd : decode (mt m).2.2.1 pc = .ok (.new i, 3)) (hf : (mcl m, i, ci, pl) ∈ cln) (hr : (al h (ci + 1) (nfl ci)).1.1 ≤ h0.1.1 + R.cells ∧ (al h (ci + 1) (nfl ci)).1.2 ≤ h0.1.2 + R.slots) (kk : Go p l e R s mi args below meth c Q b S D cI cN cW m h0 (pc + 3) lv (.inr (.inl (h.1.1 + 2)) :: st) (al h (ci + 1) (nfl ci))) : Go p l e R s mi args below meth c Q b S D cI cN cW m h0 pc lv st h := by
  obtain ⟨hx, hb, hml, hown, hts, hK, hini, hfr, hlo, hS, hscr, hd0⟩ := C
  intro H locs cells slots ls hst hl ho T hT X
  have hsz := sz_of X hst hT
  have hst' := hst
  obtain ⟨⟨hP, hok⟩, hS0, hce, hsl, hs0⟩ := hst'
  have h1 := List.all_eq_true.mp cln_ok _ hf
  simp only [Bool.and_eq_true, decide_eq_true_eq] at h1
  obtain ⟨hc7, hw⟩ := h1
  have h2 := List.all_eq_true.mp cls_ok ci (List.mem_range.mpr hc7)
  simp only [Bool.and_eq_true] at h2
  have hKn := hK.1.1 ci _ (vw_ok ci hc7)
  have hnf : nfl ci < 100000 := by
    have : ∀ c, c < 7 → nfl c < 100000 := by decide
    exact this ci hc7
  have hr1 : h.1.1 + 1 ≤ h0.1.1 + R.cells := hr.1
  have hr2 : h.1.2 + nfl ci ≤ h0.1.2 + R.slots := hr.2
  have hok2 : okH (al h (ci + 1) (nfl ci)) := hok.al hnf (Or.inr ⟨by omega, by omega, rfl⟩)
  have hk2 : (kd (al h (ci + 1) (nfl ci)) (h.1.1 + 2)).1 = ci + 1 := by rw [kd_al, if_pos rfl]
  obtain ⟨-, -, he⟩ := hok2.obj (b := b) (S := S) (cI := cI) (cN := cN) (cW := cW) hk2 hc7
  have K : W p l e R s mi args below meth c H locs cells slots Q (F0 mi pc ls (st.map (enc b S))) := by
    refine W.newcK hx hb hown (hts _ (wAt.mem hw)) (hts _ (wAt.mem h2.1)) (hts _ (wAt.mem h2.2)) rfl hd (by omega) (by omega) hKn.2.1 hsz fun H1 kC hkC e1 z1 o1 => ?_
    have hst2 : St s b S D cI cN cW h0 (al h (ci + 1) (nfl ci)) H1 locs (cells + 1) (slots + nfl ci) := by
      refine ws_push hst hsz z1 o1 hok2 ?_
      rw [he]
      refine ⟨_, vw_ok ci hc7, (u_born (fty ci) hts (fld_in hc7) hKn hkC e1 (fun k hk => fty_ok ci hc7 k hk)).to ?_⟩
      intro j hj
      have e2 : vp_V ((List.range (nfl ci)).map (fv b S (al h (ci + 1) (nfl ci)) ci (h.1.1 + 2))) j = fv b S (al h (ci + 1) (nfl ci)) ci (h.1.1 + 2) j := by
        unfold vp_V
        rw [List.getD_eq_getElem?_getD, List.getElem?_map, List.getElem?_range hj]
        rfl
      rw [e2]
      have e3 : gI (al h (ci + 1) (nfl ci)) (h.1.1 + 2) j = 0 := by show (if _ then _ else _) = _; rw [if_pos rfl]
      have e4 : gR (al h (ci + 1) (nfl ci)) (h.1.1 + 2) j = 0 := by show (if _ then _ else _) = _; rw [if_pos rfl]
      obtain ⟨t1, t2⟩ := rfl_ty ci hc7 j hj
      unfold fv
      rw [e3, e4]
      cases hrf : rfl_ ci j with
      | false =>
        rcases t1 hrf with t | t <;> rw [t] <;> rfl
      | true =>
        have t3 := t2 hrf
        cases hty : fty ci j <;> rw [hty] at t3 <;> first | rfl | (exact absurd t3 (by decide))
    have k1 := kk H1 locs (cells + 1) (slots + nfl ci) ls hst2 hl (List.forall_mem_cons.mpr ⟨trivial, ho⟩)
    rw [List.map_cons, enc_ref (by omega), adr_new] at k1
    exact k1
  exact K T hT X
theorem g_newarray (C : Cx p R s mi args meth c b S D cI cN cW sc m d) {n : Int} (hd : decode (mt m).2.2.1 pc = .ok (.newarray .int, 2)) (hn0 : 0 ≤ n) (hn1 : n < 100000) (hr : (al h 10 n.toNat).1.1 ≤ h0.1.1 + R.cells ∧ (al h 10 n.toNat).1.2 ≤ h0.1.2 + R.slots) (kk : Go p l e R s mi args below meth c Q b S D cI cN cW m h0 (pc + 2) lv (.inr (.inl (h.1.1 + 2)) :: st) (al h 10 n.toNat)) : Go p l e R s mi args below meth c Q b S D cI cN cW m h0 pc lv (.inl n :: st) h := by
  obtain ⟨hx, hb, hml, hown, hts, hK, hini, hfr, hlo, hS, hscr, hd0⟩ := C
  intro H locs cells slots ls hst hl ho T hT X
  have hsz := sz_of X hst hT
  have hst' := hst
  obtain ⟨⟨hP, hok⟩, hS0, hce, hsl, hs0⟩ := hst'
  have hin : inR n := ho _ List.mem_cons_self
  have hr1 : h.1.1 + 1 ≤ h0.1.1 + R.cells := hr.1
  have hr2 : h.1.2 + n.toNat ≤ h0.1.2 + R.slots := hr.2
  have hok2 : okH (al h 10 n.toNat) := hok.al (by omega) (Or.inl (Or.inl rfl))
  have hk2 : (kd (al h 10 n.toNat) (h.1.1 + 2)).1 = 10 := by rw [kd_al, if_pos rfl]
  obtain ⟨-, -, he⟩ := hok2.int (b := b) (S := S) (cI := cI) (cN := cN) (cW := cW) hk2
  have K : W p l e R s mi args below meth c H locs cells slots Q (F0 mi pc ls ((.inl n :: st).map (enc b S))) := by
    refine va_newaK (atype := .int) (N := n.toNat) hx hb (hts _ (wAt.mem arr_ok)) rfl hd rfl (ofI_nn hin hn0) (ofI_cl hin hn0) (by show n.toNat * 4 ≤ _; omega) (by omega) (by omega) hsz fun H1 cA e1 z1 o1 hAr hNm => ?_
    have hcA : cA = cI := by
      have h3 : s.vm.findClass ("[" ++ (FieldType.int).toString) = some cI := (hK.1.2 0 _ rfl).2
      exact Option.some.inj (hNm.symm.trans h3)
    subst hcA
    have hst2 : St s b S D cA cN cW h0 (al h 10 n.toNat) H1 locs (cells + 1) (slots + n.toNat) := by
      refine ws_push hst hsz z1 o1 hok2 ?_
      rw [he]
      show H1[S + h.1.1]? = some (vp_cell _ _)
      rw [vp_cell_i, e1, kd_al, if_pos rfl]
      congr 2
      funext j
      show _ = Value.int (Int32.ofInt (if _ then _ else _))
      rw [if_pos rfl]
      rfl
    have k1 := kk H1 locs (cells + 1) (slots + n.toNat) ls hst2 hl (List.forall_mem_cons.mpr ⟨trivial, fun v hv => ho v (List.mem_cons_of_mem _ hv)⟩)
    rw [List.map_cons, enc_ref (by omega), adr_new] at k1
    exact k1
  exact K T hT X
theorem g_anewarray (C : Cx p R s mi args meth c b S D cI cN cW sc m d) {i ci pl : Nat} {n : Int} (hd : decode (mt m).2.2.1 pc = .ok (.anewarray i, 3)) (hf : (mcl m, i, ci, pl) ∈ cln) (hci : ci = 0 ∨ ci = 4) (hn0 : 0 ≤ n) (hn1 : n < 100000) (hr : (al h (ci + 11) n.toNat).1.1 ≤ h0.1.1 + R.cells ∧ (al h (ci + 11) n.toNat).1.2 ≤ h0.1.2 + R.slots) (kk : Go p l e R s mi args below meth c Q b S D cI cN cW m h0 (pc + 3) lv (.inr (.inl (h.1.1 + 2)) :: st) (al h (ci + 11) n.toNat)) : Go p l e R s mi args below meth c Q b S D cI cN cW m h0 pc lv (.inl n :: st) h := by
  obtain ⟨hx, hb, hml, hown, hts, hK, hini, hfr, hlo, hS, hscr, hd0⟩ := C
  intro H locs cells slots ls hst hl ho T hT X
  have hsz := sz_of X hst hT
  have hst' := hst
  obtain ⟨⟨hP, hok⟩, hS0, hce, hsl, hs0⟩ := hst'
  have hin : inR n := ho _ List.mem_cons_self
  have hr1 : h.1.1 + 1 ≤ h0.1.1 + R.cells := hr.1
  have hr2 : h.1.2 + n.toNat ≤ h0.1.2 + R.slots := hr.2
  have h1 := List.all_eq_true.mp cln_ok _ hf
  simp only [Bool.and_eq_true, decide_eq_true_eq] at h1
  obtain ⟨hc7, hw⟩ := h1
  have hok2 : okH (al h (ci + 11) n.toNat) := hok.al (by omega) (Or.inl (by omega))
  have hover : va_AO (cnm ci) s := by
    rcases hci with rfl | rfl
    · exact hK.2.1
    · exact hK.2.2.1
  have K : W p l e R s mi args below meth c H locs cells slots Q (F0 mi pc ls ((.inl n :: st).map (enc b S))) := by
    refine W.anew (C := cnm ci) hx hb hown (hts _ (wAt.mem hw)) (va_AO.use hover) rfl hd rfl (ofI_nn hin hn0) (by rw [ofI_cl hin hn0]; omega) (by omega) (by rw [ofI_cl hin hn0]; omega) fun cA kA comp f1 f2 f3 f4 => ?_
    rw [ofI_cl hin hn0]
    generalize hH1 : H.push ({ cls := cA, slots := Array.replicate n.toNat .null, vm := .none } : Cell) = H1
    have z1 : H1.size = S + h.1.1 + 1 := by rw [← hH1, Array.size_push, hsz]
    have e1 : H1[S + h.1.1]? = some (arrV cA n.toNat (fun _ => .null)) := by rw [← hH1, ← hsz, Array.getElem?_push_size, ← arrV_new]
    have o1 : ∀ q : Nat, q < S + h.1.1 → H1[q]? = H[q]? := fun q hq => by rw [← hH1, Array.getElem?_push, if_neg (by omega)]
    have e5 : ∀ j, gR (al h (ci + 11) n.toNat) (h.1.1 + 2) j = 0 := fun j => by show (if _ then _ else _) = _; rw [if_pos rfl]
    have hst2 : St s b S D cI cN cW h0 (al h (ci + 11) n.toNat) H1 locs (cells + 1) (slots + n.toNat) := by
      refine ws_push hst hsz z1 o1 hok2 ?_
      rcases hci with rfl | rfl
      · have hk2 : (kd (al h (0 + 11) n.toNat) (h.1.1 + 2)).1 = 11 := by rw [kd_al, if_pos rfl]
        obtain ⟨-, -, he⟩ := hok2.nar (b := b) (S := S) (cI := cI) (cN := cN) (cW := cW) hk2
        rw [he]
        show H1[S + h.1.1]? = some (vp_cell _ _)
        have hcA : cA = cN := by
          obtain ⟨_, _, _, _, _, h9⟩ := (hK.1.2 1 _ rfl).2
          exact Option.some.inj (f1.symm.trans h9)
        rw [vp_cell_q, e1, kd_al, if_pos rfl, hcA]
        congr 2
        funext j
        rw [e5]
        rfl
      · have hk2 : (kd (al h (4 + 11) n.toNat) (h.1.1 + 2)).1 = 15 := by rw [kd_al, if_pos rfl]
        obtain ⟨-, -, he⟩ := hok2.war (b := b) (S := S) (cI := cI) (cN := cN) (cW := cW) hk2
        rw [he]
        show H1[S + h.1.1]? = some (vp_cell _ _)
        have hcA : cA = cW := by
          obtain ⟨_, _, _, _, _, h9⟩ := (hK.1.2 2 _ rfl).2
          exact Option.some.inj (f1.symm.trans h9)
        rw [vp_cell_q, e1, kd_al, if_pos rfl, hcA]
        congr 2
        funext j
        rw [e5]
        rfl
    have k1 := kk H1 locs (cells + 1) (slots + n.toNat) ls hst2 hl (List.forall_mem_cons.mpr ⟨trivial, fun v hv => ho v (List.mem_cons_of_mem _ hv)⟩)
    rw [List.map_cons, enc_ref (by omega), adr_new, ← hsz] at k1
    exact k1
  exact K T hT X
theorem cat_sum {st : List av_V} (h : st.length ≤ 4) : ((st.map (enc b S)).map fun v => v.category).sum ≤ 8 := by
  have key : ∀ l : List av_V, ((l.map (enc b S)).map fun v => v.category).sum ≤ 2 * l.length := by
    intro l
    induction l with
    | nil => simp
    | cons v r ih =>
      simp only [List.map_cons, List.sum_cons, List.length_cons]
      have : (enc b S v).category ≤ 2 := by rw [enc_cat]; split <;> omega
      omega
  have := key st
  omega
theorem g_objinit (C : Cx p R s mi args meth c b S D cI cN cW sc m d) {i pl a : Nat} (hd : decode (mt m).2.2.1 pc = .ok (.invokespecial i, 3)) (hf : (mcl m, i, pl) ∈ oin) (ha : 1 < a) (hs : st.length ≤ 4) (kk : Go p l e R s mi args below meth c Q b S D cI cN cW m h0 (pc + 3) lv st h) : Go p l e R s mi args below meth c Q b S D cI cN cW m h0 pc lv (.inr (.inl a) :: st) h := by
  obtain ⟨hx, hb, hml, hown, hts, hK, hini, hfr, hlo, hS, hscr, hd0⟩ := C
  intro H locs cells slots ls hst hl ho
  have h1 := List.all_eq_true.mp oin_ok _ hf
  have h2 := obi_ok
  simp only [Bool.and_eq_true] at h2
  have h3 := cat_sum (b := b) (S := S) hs
  rw [List.map_cons, enc_ref (show a ≠ 0 by omega)]
  exact W.objInit hx hb hown (hts _ (wAt.mem h1)) (hts _ (wAt.mem h2.1)) (hts _ (wAt.mem h2.2)) rfl (by rw [hml]; exact hl.1.1) rfl hd (by omega) (by show 2 * 0 + _ + 12 ≤ _; omega) (kk H locs cells slots ls hst hl (fun v hv => ho v (List.mem_cons_of_mem _ hv)))
theorem g_copy (C : Cx p R s mi args meth c b S D cI cN cW sc m d) {i pl a a2 : Nat} {n dp sp : Int} (hd : decode (mt m).2.2.1 pc = .ok (.invokestatic i, 3)) (hf : (mcl m, i, pl) ∈ acn) (hk1 : (kd h a).1 = 10) (hk2 : (kd h a2).1 = 10) (q1 : 0 ≤ n) (q2 : 0 ≤ sp) (q3 : 0 ≤ dp) (q4 : sp + n ≤ ((kd h a).2 : Int)) (q5 : dp + n ≤ ((kd h a2).2 : Int)) (hs : st.length ≤ 4) (kk : Go p l e R s mi args below meth c Q b S D cI cN cW m h0 (pc + 3) lv st (cp h a sp.toNat a2 dp.toNat n.toNat)) : Go p l e R s mi args below meth c Q b S D cI cN cW m h0 pc lv (.inl n :: .inl dp :: .inr (.inl a2) :: .inl sp :: .inr (.inl a) :: st) h := by
  obtain ⟨hx, hb, hml, hown, hts, hK, hini, hfr, hlo, hS, hscr, hd0⟩ := C
  intro H locs cells slots ls hst hl ho
  have hst' := hst
  obtain ⟨⟨hP, hok⟩, hS0, hce, hsl, hs0⟩ := hst'
  have h1 := List.all_eq_true.mp acn_ok _ hf
  have h2 := arc_ok
  simp only [Bool.and_eq_true] at h2
  have h3 := cat_sum (b := b) (S := S) hs
  have o1 : inR n := ho _ List.mem_cons_self
  have o2 : inR dp := ho _ (List.mem_cons_of_mem _ List.mem_cons_self)
  have o3 : inR sp := ho _ (List.mem_cons_of_mem _ (List.mem_cons_of_mem _ (List.mem_cons_of_mem _ List.mem_cons_self)))
  obtain ⟨ha1, ha2, he⟩ := hok.int (b := b) (S := S) (cI := cI) (cN := cN) (cW := cW) hk1
  have hg := ws_get (b := b) (S := S) (cI := cI) (cN := cN) (cW := cW) ha1 ha2
  rw [he] at hg
  obtain ⟨hb1, hb2, he2⟩ := hok.int (b := b) (S := S) (cI := cI) (cN := cN) (cW := cW) hk2
  have hg2 := ws_get (b := b) (S := S) (cI := cI) (cN := cN) (cW := cW) hb1 hb2
  rw [he2] at hg2
  have hok2 : okH (cp h a sp.toNat a2 dp.toNat n.toNat) := hok.cp
  rw [List.map_cons, List.map_cons, List.map_cons, List.map_cons, List.map_cons, enc_ref (show a ≠ 0 by omega), enc_ref (show a2 ≠ 0 by omega)]
  refine va_copyi (ty := .int) (sp := Int32.ofInt sp) (dp := Int32.ofInt dp) (n := Int32.ofInt n) hx hb (by rw [hml]; exact hl.1.1.symm) hown (hts _ (wAt.mem h1)) (hts _ (wAt.mem h2.1)) (hts _ (wAt.mem h2.2.1)) (hts _ (wAt.mem h2.2.2)) hK.1 hP ws_D hS0 (a - 2) (a2 - 2) 0 0 hg hg2 rfl rfl rfl (ofI_nn o3 q2) (ofI_nn o2 q3) (ofI_nn o1 q1) (by rw [ofI_cl o3 q2, ofI_cl o1 q1]; omega) (by rw [ofI_cl o2 q3, ofI_cl o1 q1]; omega) (fun _ _ => rfl) (by omega) (by show _ + (5 + 2 + 11) ≤ _; omega) hd ?_
  intro H1 locs1 hP1 hD1 hS1
  have hset : (wsO b S cI cN cW h).set (a2 - 2) (adr b S a2, .inl (cI, (kd h a2).2, .inl (va_cpy (fun i => Int32.ofInt (gI h a i)) (fun i => Int32.ofInt (gI h a2 i)) (Int32.ofInt sp).toNatClampNeg (Int32.ofInt dp).toNatClampNeg (Int32.ofInt n).toNatClampNeg))) = wsO b S cI cN cW (cp h a sp.toNat a2 dp.toNat n.toNat) := by
    refine ws_set hb1 hb2 rfl ?_ (fun q hq => eE_cp hq)
    rw [(hok2.int (b := b) (S := S) (cI := cI) (cN := cN) (cW := cW) hk2).2.2, ofI_cl o3 q2, ofI_cl o2 q3, ofI_cl o1 q1]
    have e1 : (fun j => Int32.ofInt (gI (cp h a sp.toNat a2 dp.toNat n.toNat) a2 j)) = va_cpy (fun i => Int32.ofInt (gI h a i)) (fun i => Int32.ofInt (gI h a2 i)) sp.toNat dp.toNat n.toNat := by
      funext j
      show Int32.ofInt (if a2 = a2 ∧ dp.toNat ≤ j ∧ j < dp.toNat + n.toNat then gI h a (sp.toNat + (j - dp.toNat)) else gI h a2 j) = _
      by_cases hj : dp.toNat ≤ j ∧ j < dp.toNat + n.toNat
      · rw [pk_cpy_in hj.1 hj.2, if_pos ⟨rfl, hj⟩]
      · rw [pk_cpy_out (by omega), if_neg (fun q => hj q.2)]
    rw [e1]
    rfl
  rw [hset] at hP1
  exact kk H1 locs1 cells slots ls ⟨⟨hP1, hok2⟩, hS1, hce, hsl, hs0⟩ hl (fun v hv => ho v (List.mem_cons_of_mem _ (List.mem_cons_of_mem _ (List.mem_cons_of_mem _ (List.mem_cons_of_mem _ (List.mem_cons_of_mem _ hv))))))
end NEW
