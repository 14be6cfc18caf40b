/-! THE PICTURE AND THE MACHINE: what the heap of the machine is when the picture's heap is h. b: the script's cell; S: where our cells begin. -/
def inR (z : Int) : Prop := -2147483648 ≤ z ∧ z < 2147483648
def okv (v : av_V) : Prop := match v with
  | .inl z => inR z
  | .inr _ => True
def adr (b S a : Nat) : Nat := if a = 1 then b else S + (a - 2)
def orf (b S a : Nat) : Option Nat := if a = 0 then none else some (adr b S a)
def enc (b S : Nat) (v : av_V) : Value := match v with
  | .inl z => .int (Int32.ofInt z)
  | .inr (.inl a) => va_rf (orf b S a)
  | .inr (.inr w) => .long w
/-- a field's value -/
def fv (b S : Nat) (h : av_H) (c a k : Nat) : Value := if rfl_ c k = true then va_rf (orf b S (gR h a k)) else .int (Int32.ofInt (gI h a k))
def eE (b S : Nat) (cI cN cW : ClassId) (h : av_H) (a : Nat) : va_E :=
  if (kd h a).1 = 10 then .inl (cI, (kd h a).2, .inl (fun i => Int32.ofInt (gI h a i)))
  else if (kd h a).1 = 11 then .inl (cN, (kd h a).2, .inr (.inr (.inr (.inr (fun i => orf b S (gR h a i))))))
  else if (kd h a).1 = 15 then .inl (cW, (kd h a).2, .inr (.inr (.inr (.inr (fun i => orf b S (gR h a i))))))
  else .inr ((kd h a).1 - 1, (List.range (kd h a).2).map (fv b S h ((kd h a).1 - 1) a))
def wsO (b S : Nat) (cI cN cW : ClassId) (h : av_H) : va_W := (List.range h.1.1).map (fun k => (S + k, eE b S cI cN cW h (k + 2)))
/-- the picture's heap is in order -/
def okH (h : av_H) : Prop := (∀ a k, inR (gI h a k)) ∧ (∀ a, (kd h a).1 ≠ 0 → 2 ≤ a ∧ a < h.1.1 + 2) ∧ ∀ a, (kd h a).1 ≠ 0 → (kd h a).2 < 100000 ∧ (((kd h a).1 = 10 ∨ (kd h a).1 = 11 ∨ (kd h a).1 = 15) ∨ ((kd h a).1 ≤ 7 ∧ (kd h a).2 = nfl ((kd h a).1 - 1)))
def Rel (b S : Nat) (D : va_G) (cI cN cW : ClassId) (h : av_H) (H : Heap) : Prop := va_P D vwCl (wsO b S cI cN cW h) H ∧ okH h
def KK (D : va_G) (cI cN cW : ClassId) (U : State) : Prop := va_K D vwCl [(cI, .int), (cN, .object RX0), (cW, .object RX4)] U ∧ va_AO RX0 U ∧ va_AO RX4 U ∧ va_Nw (.methodLinkNest (cnm 4) 17 (mt 0).2.1 (cnm 5)) U ∧ va_Nw (.methodLinkNest (cnm 0) 45 (mt 22).2.1 (cnm 5)) U ∧ va_Nw (.methodLinkNest (cnm 5) 22 (mt 33).2.1 (cnm 5)) U
theorem KK.warm {D : va_G} {cI cN cW : ClassId} {s U : State} (hW : s.WarmedH U.vm) (h : KK D cI cN cW s) : KK D cI cN cW U := by
  obtain ⟨h1, h2, h3, h4, h5, h6⟩ := h
  exact ⟨va_K.moved hW.alike h1, h2.moved hW.alike, h3.moved hW.alike, va_Nw.warmM hW h4, va_Nw.warmM hW h5, va_Nw.warmM hW h6⟩
theorem KK.same {D : va_G} {cI cN cW : ClassId} {u U : State} (hv : u.vm = U.vm) (h : KK D cI cN cW u) : KK D cI cN cW U := by
  obtain ⟨h1, h2, h3, h4, h5, h6⟩ := h
  have ha : u.vm.Alike U.vm := by rw [hv]; exact Vm.Alike.refl U.vm
  exact ⟨va_K.moved ha h1, h2.moved ha, h3.moved ha, va_Nw.same rfl hv h4, va_Nw.same rfl hv h5, va_Nw.same rfl hv h6⟩
theorem ws_len {b S : Nat} {cI cN cW : ClassId} {h : av_H} : (wsO b S cI cN cW h).length = h.1.1 := by simp [wsO]
theorem ws_get {b S : Nat} {cI cN cW : ClassId} {h : av_H} {a : Nat} (h1 : 2 ≤ a) (h2 : a < h.1.1 + 2) : (wsO b S cI cN cW h)[a - 2]? = some (adr b S a, eE b S cI cN cW h a) := by
  unfold wsO
  rw [List.getElem?_map, List.getElem?_range (by omega)]
  simp only [Option.map_some, adr]
  rw [if_neg (by omega), show a - 2 + 2 = a by omega]
theorem ws_D {b S : Nat} {cI cN cW : ClassId} {h : av_H} : va_D (fun q => S ≤ q) (wsO b S cI cN cW h) := by
  have key : ∀ (i : Nat) (p : Nat × va_E), (wsO b S cI cN cW h)[i]? = some p → p.1 = S + i := by
    intro i p hp
    have hl : i < h.1.1 := by
      have := (List.getElem?_eq_some_iff.mp hp).1
      rwa [ws_len] at this
    unfold wsO at hp
    rw [List.getElem?_map, List.getElem?_range hl] at hp
    simp only [Option.map_some, Option.some.injEq] at hp
    rw [← hp]
  refine ⟨fun i j p q hp hq e => ?_, fun k q hq => ?_⟩
  · have := key i p hp
    have := key j q hq
    omega
  · rw [key k q hq]; exact Nat.le_add_right S k
theorem ws_set {b S : Nat} {cI cN cW : ClassId} {h h' : av_H} {a : Nat} {e : va_E} (h1 : 2 ≤ a) (h2 : a < h.1.1 + 2) (hs : h'.1 = h.1) (he : eE b S cI cN cW h' a = e) (ho : ∀ c, c ≠ a → eE b S cI cN cW h' c = eE b S cI cN cW h c) :
    (wsO b S cI cN cW h).set (a - 2) (adr b S a, e) = wsO b S cI cN cW h' := by
  apply List.ext_getElem?
  intro i
  by_cases hi : i = a - 2
  · subst hi
    rw [List.getElem?_set_self (by rw [ws_len]; omega), ws_get h1 (by rw [hs]; exact h2), he]
  · rw [List.getElem?_set_ne (Ne.symm hi)]
    unfold wsO
    rw [List.getElem?_map, List.getElem?_map, hs]
    by_cases hl : i < h.1.1
    · rw [List.getElem?_range hl]
      simp only [Option.map_some]
      rw [ho (i + 2) (by omega)]
    · rw [List.getElem?_eq_none (by simp; omega)]
      rfl
theorem wr_inR (z : Int) : inR (wr z) := by unfold inR wr; omega
theorem toI {z : Int} (h : inR z) : (Int32.ofInt z).toInt = z := by
  obtain ⟨h1, h2⟩ := h
  rw [Int32.toInt_ofInt]
  show z.bmod 4294967296 = z
  simp only [Int.bmod_def]
  split <;> omega
theorem ofI_wr (z : Int) : Int32.ofInt (wr z) = Int32.ofInt z := by
  apply Int32.toInt_inj.mp
  rw [toI (wr_inR z), Int32.toInt_ofInt]
  show wr z = z.bmod 4294967296
  simp only [Int.bmod_def, wr]
  split <;> omega
theorem ofI_add (x y : Int) : Int32.ofInt x + Int32.ofInt y = Int32.ofInt (wr (x + y)) := by rw [ofI_wr, Int32.ofInt_add]
theorem ofI_sub (x y : Int) : Int32.ofInt x - Int32.ofInt y = Int32.ofInt (wr (x - y)) := by rw [ofI_wr, Int32.ofInt_sub]
theorem ofI_mul (x y : Int) : Int32.ofInt x * Int32.ofInt y = Int32.ofInt (wr (x * y)) := by rw [ofI_wr, Int32.ofInt_mul]
theorem ofI_eq {x y : Int} (hx : inR x) (hy : inR y) : Int32.ofInt x = Int32.ofInt y ↔ x = y := by
  rw [← Int32.toInt_inj, toI hx, toI hy]
theorem ofI_lt {x y : Int} (hx : inR x) (hy : inR y) : Int32.ofInt x < Int32.ofInt y ↔ x < y := by
  rw [Int32.lt_iff_toInt_lt, toI hx, toI hy]
theorem ofI_le {x y : Int} (hx : inR x) (hy : inR y) : Int32.ofInt x ≤ Int32.ofInt y ↔ x ≤ y := by
  rw [Int32.le_iff_toInt_le, toI hx, toI hy]
theorem ofI_0 : (0 : Int32) = Int32.ofInt 0 := rfl
theorem inR_0 : inR 0 := by unfold inR; omega
theorem ofI_cl {i : Int} (hi : inR i) (h0 : 0 ≤ i) : (Int32.ofInt i).toNatClampNeg = i.toNat := by
  show (Int32.ofInt i).toInt.toNat = i.toNat
  rw [toI hi]
theorem ofI_in {i : Int} {n : Nat} (hi : inR i) (h0 : 0 ≤ i) (hn : i < (n : Int)) : vp_in (Int32.ofInt i) n := by
  rw [vp_in_iff, toI hi]
  exact ⟨h0, hn⟩
theorem ofI_nn {i : Int} (hi : inR i) (h0 : 0 ≤ i) : ¬ Int32.ofInt i < 0 := by
  rw [ofI_0, ofI_lt hi inR_0]
  omega
theorem ofI_nI {i : Int} (h0 : 0 ≤ i) : Int32.ofInt i = nI i.toNat := by
  show Int32.ofInt i = Int32.ofNat i.toNat
  rw [← Int32.ofInt_eq_ofNat]
  congr 1
  omega
theorem ofI_rem {x y : Int} (hx : inR x) (hy : inR y) (h0 : 0 ≤ x) (h1 : 0 < y) : Int32.ofInt x - Int32.ofInt x / Int32.ofInt y * Int32.ofInt y = Int32.ofInt (x % y) := by
  have e : x % y = ((x.toNat % y.toNat : Nat) : Int) := by
    have hx' : x = (x.toNat : Int) := by omega
    have hy' : y = (y.toNat : Int) := by omega
    rw [hx', hy']
    simp
  rw [ofI_nI h0, ofI_nI (by omega : 0 ≤ y), pk_rem (by unfold inR at hx; omega) (by omega) (by unfold inR at hy; omega), ofI_nI (by rw [e]; omega)]
  congr 1
  rw [e]
  omega
theorem enc_cat (b S : Nat) (v : av_V) : (enc b S v).category = if isL v = true then 2 else 1 := by
  match v with
  | .inl z => rfl
  | .inr (.inl a) =>
    simp only [enc, isL, orf]
    split <;> rfl
  | .inr (.inr w) => rfl
