theorem o_iconst {sc : av_S} {d m pc len pc2 : Nat} {lv lv' : av_L} {st : List av_V} {h : av_H} {Q : Option av_V → av_H → Prop} {n : Int} (hc : cd m pc = some (.iconst n, len)) (hp : pc + len = pc2) (hk : kpf m pc2 lv = lv') : WP sc (d + 1) m pc lv st h Q ↔ WP sc (d + 1) m pc2 lv' (.inl n :: st) h Q := by
  subst hp hk; rw [WP.unf hc]
  simp [act, wpk, nx, rt, cl_]
theorem o_bipush {sc : av_S} {d m pc len pc2 : Nat} {lv lv' : av_L} {st : List av_V} {h : av_H} {Q : Option av_V → av_H → Prop} {n : Int} (hc : cd m pc = some (.bipush n, len)) (hp : pc + len = pc2) (hk : kpf m pc2 lv = lv') : WP sc (d + 1) m pc lv st h Q ↔ WP sc (d + 1) m pc2 lv' (.inl n :: st) h Q := by
  subst hp hk; rw [WP.unf hc]
  simp [act, wpk, nx, rt, cl_]
theorem o_sipush {sc : av_S} {d m pc len pc2 : Nat} {lv lv' : av_L} {st : List av_V} {h : av_H} {Q : Option av_V → av_H → Prop} {n : Int} (hc : cd m pc = some (.sipush n, len)) (hp : pc + len = pc2) (hk : kpf m pc2 lv = lv') : WP sc (d + 1) m pc lv st h Q ↔ WP sc (d + 1) m pc2 lv' (.inl n :: st) h Q := by
  subst hp hk; rw [WP.unf hc]
  simp [act, wpk, nx, rt, cl_]
theorem o_ldc2_w {sc : av_S} {d m pc len pc2 : Nat} {lv lv' : av_L} {st : List av_V} {h : av_H} {Q : Option av_V → av_H → Prop} {n : Nat} (hc : cd m pc = some (.ldc2_w n, len)) (hp : pc + len = pc2) (hk : kpf m pc2 lv = lv') : WP sc (d + 1) m pc lv st h Q ↔ WP sc (d + 1) m pc2 lv' (.inr (.inr (Int64.ofNat n)) :: st) h Q := by
  subst hp hk; rw [WP.unf hc]
  simp [act, wpk, nx, rt, cl_]
theorem o_iload {sc : av_S} {d m pc len pc2 : Nat} {lv lv' : av_L} {st : List av_V} {h : av_H} {Q : Option av_V → av_H → Prop} {i : Nat} {z : Int} (hc : cd m pc = some (.iload i, len)) (hl : lget lv i = some (.inl z)) (hp : pc + len = pc2) (hk : kpf m pc2 lv = lv') : WP sc (d + 1) m pc lv st h Q ↔ WP sc (d + 1) m pc2 lv' (.inl z :: st) h Q := by
  subst hp hk; rw [WP.unf hc]
  simp [act, wpk, nx, rt, cl_, hl]
theorem o_aload {sc : av_S} {d m pc len pc2 : Nat} {lv lv' : av_L} {st : List av_V} {h : av_H} {Q : Option av_V → av_H → Prop} {i a : Nat} (hc : cd m pc = some (.aload i, len)) (hl : lget lv i = some (.inr (.inl a))) (hp : pc + len = pc2) (hk : kpf m pc2 lv = lv') : WP sc (d + 1) m pc lv st h Q ↔ WP sc (d + 1) m pc2 lv' (.inr (.inl a) :: st) h Q := by
  subst hp hk; rw [WP.unf hc]
  simp [act, wpk, nx, rt, cl_, hl]
theorem o_lload {sc : av_S} {d m pc len pc2 : Nat} {lv lv' : av_L} {st : List av_V} {h : av_H} {Q : Option av_V → av_H → Prop} {i : Nat} {w : Int64} (hc : cd m pc = some (.lload i, len)) (hl : lget lv i = some (.inr (.inr w))) (hp : pc + len = pc2) (hk : kpf m pc2 lv = lv') : WP sc (d + 1) m pc lv st h Q ↔ WP sc (d + 1) m pc2 lv' (.inr (.inr w) :: st) h Q := by
  subst hp hk; rw [WP.unf hc]
  simp [act, wpk, nx, rt, cl_, hl]
theorem o_istore {sc : av_S} {d m pc len pc2 : Nat} {lv lv' : av_L} {st : List av_V} {h : av_H} {Q : Option av_V → av_H → Prop} {i : Nat} {z : Int} (hc : cd m pc = some (.istore i, len)) (hp : pc + len = pc2) (hk : kpf m pc2 (lset lv i (.inl z)) = lv') : WP sc (d + 1) m pc lv (.inl z :: st) h Q ↔ WP sc (d + 1) m pc2 lv' st h Q := by
  subst hp hk; rw [WP.unf hc]
  simp [act, wpk, nx, rt, cl_]
theorem o_astore {sc : av_S} {d m pc len pc2 : Nat} {lv lv' : av_L} {st : List av_V} {h : av_H} {Q : Option av_V → av_H → Prop} {i a : Nat} (hc : cd m pc = some (.astore i, len)) (hp : pc + len = pc2) (hk : kpf m pc2 (lset lv i (.inr (.inl a))) = lv') : WP sc (d + 1) m pc lv (.inr (.inl a) :: st) h Q ↔ WP sc (d + 1) m pc2 lv' st h Q := by
  subst hp hk; rw [WP.unf hc]
  simp [act, wpk, nx, rt, cl_]
theorem o_lstore {sc : av_S} {d m pc len pc2 : Nat} {lv lv' : av_L} {st : List av_V} {h : av_H} {Q : Option av_V → av_H → Prop} {i : Nat} {w : Int64} (hc : cd m pc = some (.lstore i, len)) (hp : pc + len = pc2) (hk : kpf m pc2 (lset lv i (.inr (.inr w))) = lv') : WP sc (d + 1) m pc lv (.inr (.inr w) :: st) h Q ↔ WP sc (d + 1) m pc2 lv' st h Q := by
  subst hp hk; rw [WP.unf hc]
  simp [act, wpk, nx, rt, cl_]
theorem o_iinc {sc : av_S} {d m pc len pc2 : Nat} {lv lv' : av_L} {st : List av_V} {h : av_H} {Q : Option av_V → av_H → Prop} {i : Nat} {z n : Int} (hc : cd m pc = some (.iinc i n, len)) (hl : lget lv i = some (.inl z)) (hp : pc + len = pc2) (hk : kpf m pc2 (lset lv i (.inl (wr (z + n)))) = lv') : WP sc (d + 1) m pc lv st h Q ↔ WP sc (d + 1) m pc2 lv' st h Q := by
  subst hp hk; rw [WP.unf hc]
  simp [act, wpk, nx, rt, cl_, hl]
theorem o_iadd {sc : av_S} {d m pc len pc2 : Nat} {lv lv' : av_L} {st : List av_V} {h : av_H} {Q : Option av_V → av_H → Prop} {x y : Int} (hc : cd m pc = some (.iadd, len)) (hp : pc + len = pc2) (hk : kpf m pc2 lv = lv') : WP sc (d + 1) m pc lv (.inl y :: .inl x :: st) h Q ↔ WP sc (d + 1) m pc2 lv' (.inl (wr (x + y)) :: st) h Q := by
  subst hp hk; rw [WP.unf hc]
  simp [act, wpk, nx, rt, cl_]
theorem o_isub {sc : av_S} {d m pc len pc2 : Nat} {lv lv' : av_L} {st : List av_V} {h : av_H} {Q : Option av_V → av_H → Prop} {x y : Int} (hc : cd m pc = some (.isub, len)) (hp : pc + len = pc2) (hk : kpf m pc2 lv = lv') : WP sc (d + 1) m pc lv (.inl y :: .inl x :: st) h Q ↔ WP sc (d + 1) m pc2 lv' (.inl (wr (x - y)) :: st) h Q := by
  subst hp hk; rw [WP.unf hc]
  simp [act, wpk, nx, rt, cl_]
theorem o_imul {sc : av_S} {d m pc len pc2 : Nat} {lv lv' : av_L} {st : List av_V} {h : av_H} {Q : Option av_V → av_H → Prop} {x y : Int} (hc : cd m pc = some (.imul, len)) (hp : pc + len = pc2) (hk : kpf m pc2 lv = lv') : WP sc (d + 1) m pc lv (.inl y :: .inl x :: st) h Q ↔ WP sc (d + 1) m pc2 lv' (.inl (wr (x * y)) :: st) h Q := by
  subst hp hk; rw [WP.unf hc]
  simp [act, wpk, nx, rt, cl_]
theorem o_irem {sc : av_S} {d m pc len pc2 : Nat} {lv lv' : av_L} {st : List av_V} {h : av_H} {Q : Option av_V → av_H → Prop} {x y : Int} (hc : cd m pc = some (.irem, len)) (hp : pc + len = pc2) (hk : kpf m pc2 lv = lv') : WP sc (d + 1) m pc lv (.inl y :: .inl x :: st) h Q ↔ (0 ≤ x ∧ 0 < y) ∧ WP sc (d + 1) m pc2 lv' (.inl (x % y) :: st) h Q := by
  subst hp hk; rw [WP.unf hc]
  by_cases hx : (0 ≤ x ∧ 0 < y)
  · simp [act, wpk, nx, hx]
  · simp only [act]
    rw [if_neg hx]
    simp [wpk, hx]
theorem o_iand {sc : av_S} {d m pc len pc2 : Nat} {lv lv' : av_L} {st : List av_V} {h : av_H} {Q : Option av_V → av_H → Prop} {x y : Int} (hc : cd m pc = some (.iand, len)) (hp : pc + len = pc2) (hk : kpf m pc2 lv = lv') : WP sc (d + 1) m pc lv (.inl y :: .inl x :: st) h Q ↔ y = 31 ∧ WP sc (d + 1) m pc2 lv' (.inl (x % 32) :: st) h Q := by
  subst hp hk; rw [WP.unf hc]
  by_cases hx : y = 31
  · simp [act, wpk, nx, hx]
  · simp only [act]
    rw [if_neg hx]
    simp [wpk, hx]
theorem o_ixor {sc : av_S} {d m pc len pc2 : Nat} {lv lv' : av_L} {st : List av_V} {h : av_H} {Q : Option av_V → av_H → Prop} {x y : Int} (hc : cd m pc = some (.ixor, len)) (hp : pc + len = pc2) (hk : kpf m pc2 lv = lv') : WP sc (d + 1) m pc lv (.inl y :: .inl x :: st) h Q ↔ WP sc (d + 1) m pc2 lv' (.inl (Int32.ofInt x ^^^ Int32.ofInt y).toInt :: st) h Q := by
  subst hp hk; rw [WP.unf hc]
  simp [act, wpk, nx, rt, cl_]
theorem o_ladd {sc : av_S} {d m pc len pc2 : Nat} {lv lv' : av_L} {st : List av_V} {h : av_H} {Q : Option av_V → av_H → Prop} {x y : Int64} (hc : cd m pc = some (.ladd, len)) (hp : pc + len = pc2) (hk : kpf m pc2 lv = lv') : WP sc (d + 1) m pc lv (.inr (.inr y) :: .inr (.inr x) :: st) h Q ↔ WP sc (d + 1) m pc2 lv' (.inr (.inr (x + y)) :: st) h Q := by
  subst hp hk; rw [WP.unf hc]
  simp [act, wpk, nx, rt, cl_]
theorem o_lmul {sc : av_S} {d m pc len pc2 : Nat} {lv lv' : av_L} {st : List av_V} {h : av_H} {Q : Option av_V → av_H → Prop} {x y : Int64} (hc : cd m pc = some (.lmul, len)) (hp : pc + len = pc2) (hk : kpf m pc2 lv = lv') : WP sc (d + 1) m pc lv (.inr (.inr y) :: .inr (.inr x) :: st) h Q ↔ WP sc (d + 1) m pc2 lv' (.inr (.inr (x * y)) :: st) h Q := by
  subst hp hk; rw [WP.unf hc]
  simp [act, wpk, nx, rt, cl_]
theorem o_i2l {sc : av_S} {d m pc len pc2 : Nat} {lv lv' : av_L} {st : List av_V} {h : av_H} {Q : Option av_V → av_H → Prop} {x : Int} (hc : cd m pc = some (.i2l, len)) (hp : pc + len = pc2) (hk : kpf m pc2 lv = lv') : WP sc (d + 1) m pc lv (.inl x :: st) h Q ↔ WP sc (d + 1) m pc2 lv' (.inr (.inr (Int64.ofInt x)) :: st) h Q := by
  subst hp hk; rw [WP.unf hc]
  simp [act, wpk, nx, rt, cl_]
theorem o_lcmp {sc : av_S} {d m pc len pc2 : Nat} {lv lv' : av_L} {st : List av_V} {h : av_H} {Q : Option av_V → av_H → Prop} {x y : Int64} (hc : cd m pc = some (.lcmp, len)) (hp : pc + len = pc2) (hk : kpf m pc2 lv = lv') : WP sc (d + 1) m pc lv (.inr (.inr y) :: .inr (.inr x) :: st) h Q ↔ WP sc (d + 1) m pc2 lv' (.inl (if x = y then 0 else (lg_cmp x y).toInt) :: st) h Q := by
  subst hp hk; rw [WP.unf hc]
  simp [act, wpk, nx, rt, cl_]
theorem o_dup {sc : av_S} {d m pc len pc2 : Nat} {lv lv' : av_L} {st : List av_V} {h : av_H} {Q : Option av_V → av_H → Prop} {v : av_V} (hc : cd m pc = some (.dup, len)) (hv : isL v = false) (hp : pc + len = pc2) (hk : kpf m pc2 lv = lv') : WP sc (d + 1) m pc lv (v :: st) h Q ↔ WP sc (d + 1) m pc2 lv' (v :: v :: st) h Q := by
  subst hp hk; rw [WP.unf hc]
  simp [act, wpk, nx, rt, cl_, hv]
theorem o_dup2 {sc : av_S} {d m pc len pc2 : Nat} {lv lv' : av_L} {st : List av_V} {h : av_H} {Q : Option av_V → av_H → Prop} {v w : av_V} (hc : cd m pc = some (.dup2, len)) (hv : isL v = false) (hw : isL w = false) (hp : pc + len = pc2) (hk : kpf m pc2 lv = lv') : WP sc (d + 1) m pc lv (v :: w :: st) h Q ↔ WP sc (d + 1) m pc2 lv' (v :: w :: v :: w :: st) h Q := by
  subst hp hk; rw [WP.unf hc]
  simp [act, wpk, nx, rt, cl_, hv, hw]
theorem o_pop {sc : av_S} {d m pc len pc2 : Nat} {lv lv' : av_L} {st : List av_V} {h : av_H} {Q : Option av_V → av_H → Prop} {v : av_V} (hc : cd m pc = some (.pop, len)) (hv : isL v = false) (hp : pc + len = pc2) (hk : kpf m pc2 lv = lv') : WP sc (d + 1) m pc lv (v :: st) h Q ↔ WP sc (d + 1) m pc2 lv' st h Q := by
  subst hp hk; rw [WP.unf hc]
  simp [act, wpk, nx, rt, cl_, hv]
theorem o_if_eq {sc : av_S} {d m pc len pc2 : Nat} {lv : av_L} {st : List av_V} {h : av_H} {Q : Option av_V → av_H → Prop} {t : Int} {lt lf : av_L} {tg : Nat} {x : Int} (hc : cd m pc = some (.ifCond .eq t, len)) (ht : t.toNat = tg) (hkt : kpf m tg lv = lt) (hp : pc + len = pc2) (hkf : kpf m pc2 lv = lf) : WP sc (d + 1) m pc lv (.inl x :: st) h Q ↔ (if x = 0 then WP sc (d + 1) m tg lt st h Q else WP sc (d + 1) m pc2 lf st h Q) := by
  subst ht hkt hp hkf
  rw [WP.unf hc]
  by_cases hx : x = 0 <;> simp [act, wpk, nx, hx]
theorem o_if_ne {sc : av_S} {d m pc len pc2 : Nat} {lv : av_L} {st : List av_V} {h : av_H} {Q : Option av_V → av_H → Prop} {t : Int} {lt lf : av_L} {tg : Nat} {x : Int} (hc : cd m pc = some (.ifCond .ne t, len)) (ht : t.toNat = tg) (hkt : kpf m tg lv = lt) (hp : pc + len = pc2) (hkf : kpf m pc2 lv = lf) : WP sc (d + 1) m pc lv (.inl x :: st) h Q ↔ (if x = 0 then WP sc (d + 1) m pc2 lf st h Q else WP sc (d + 1) m tg lt st h Q) := by
  subst ht hkt hp hkf
  rw [WP.unf hc]
  by_cases hx : x = 0 <;> simp [act, wpk, nx, hx]
theorem o_if_lt {sc : av_S} {d m pc len pc2 : Nat} {lv : av_L} {st : List av_V} {h : av_H} {Q : Option av_V → av_H → Prop} {t : Int} {lt lf : av_L} {tg : Nat} {x : Int} (hc : cd m pc = some (.ifCond .lt t, len)) (ht : t.toNat = tg) (hkt : kpf m tg lv = lt) (hp : pc + len = pc2) (hkf : kpf m pc2 lv = lf) : WP sc (d + 1) m pc lv (.inl x :: st) h Q ↔ (if x < 0 then WP sc (d + 1) m tg lt st h Q else WP sc (d + 1) m pc2 lf st h Q) := by
  subst ht hkt hp hkf
  rw [WP.unf hc]
  by_cases hx : x < 0 <;> simp [act, wpk, nx, hx]
theorem o_if_ge {sc : av_S} {d m pc len pc2 : Nat} {lv : av_L} {st : List av_V} {h : av_H} {Q : Option av_V → av_H → Prop} {t : Int} {lt lf : av_L} {tg : Nat} {x : Int} (hc : cd m pc = some (.ifCond .ge t, len)) (ht : t.toNat = tg) (hkt : kpf m tg lv = lt) (hp : pc + len = pc2) (hkf : kpf m pc2 lv = lf) : WP sc (d + 1) m pc lv (.inl x :: st) h Q ↔ (if x < 0 then WP sc (d + 1) m pc2 lf st h Q else WP sc (d + 1) m tg lt st h Q) := by
  subst ht hkt hp hkf
  rw [WP.unf hc]
  by_cases hx : x < 0 <;> simp [act, wpk, nx, hx]
theorem o_if_gt {sc : av_S} {d m pc len pc2 : Nat} {lv : av_L} {st : List av_V} {h : av_H} {Q : Option av_V → av_H → Prop} {t : Int} {lt lf : av_L} {tg : Nat} {x : Int} (hc : cd m pc = some (.ifCond .gt t, len)) (ht : t.toNat = tg) (hkt : kpf m tg lv = lt) (hp : pc + len = pc2) (hkf : kpf m pc2 lv = lf) : WP sc (d + 1) m pc lv (.inl x :: st) h Q ↔ (if 0 < x then WP sc (d + 1) m tg lt st h Q else WP sc (d + 1) m pc2 lf st h Q) := by
  subst ht hkt hp hkf
  rw [WP.unf hc]
  by_cases hx : 0 < x <;> simp [act, wpk, nx, hx]
theorem o_if_le {sc : av_S} {d m pc len pc2 : Nat} {lv : av_L} {st : List av_V} {h : av_H} {Q : Option av_V → av_H → Prop} {t : Int} {lt lf : av_L} {tg : Nat} {x : Int} (hc : cd m pc = some (.ifCond .le t, len)) (ht : t.toNat = tg) (hkt : kpf m tg lv = lt) (hp : pc + len = pc2) (hkf : kpf m pc2 lv = lf) : WP sc (d + 1) m pc lv (.inl x :: st) h Q ↔ (if 0 < x then WP sc (d + 1) m pc2 lf st h Q else WP sc (d + 1) m tg lt st h Q) := by
  subst ht hkt hp hkf
  rw [WP.unf hc]
  by_cases hx : 0 < x <;> simp [act, wpk, nx, hx]
theorem o_ic_eq {sc : av_S} {d m pc len pc2 : Nat} {lv : av_L} {st : List av_V} {h : av_H} {Q : Option av_V → av_H → Prop} {t : Int} {lt lf : av_L} {tg : Nat} {x y : Int} (hc : cd m pc = some (.if_icmp .eq t, len)) (ht : t.toNat = tg) (hkt : kpf m tg lv = lt) (hp : pc + len = pc2) (hkf : kpf m pc2 lv = lf) : WP sc (d + 1) m pc lv (.inl y :: .inl x :: st) h Q ↔ (if x = y then WP sc (d + 1) m tg lt st h Q else WP sc (d + 1) m pc2 lf st h Q) := by
  subst ht hkt hp hkf
  rw [WP.unf hc]
  by_cases hx : x = y <;> simp [act, wpk, nx, hx]
theorem o_ic_ne {sc : av_S} {d m pc len pc2 : Nat} {lv : av_L} {st : List av_V} {h : av_H} {Q : Option av_V → av_H → Prop} {t : Int} {lt lf : av_L} {tg : Nat} {x y : Int} (hc : cd m pc = some (.if_icmp .ne t, len)) (ht : t.toNat = tg) (hkt : kpf m tg lv = lt) (hp : pc + len = pc2) (hkf : kpf m pc2 lv = lf) : WP sc (d + 1) m pc lv (.inl y :: .inl x :: st) h Q ↔ (if x = y then WP sc (d + 1) m pc2 lf st h Q else WP sc (d + 1) m tg lt st h Q) := by
  subst ht hkt hp hkf
  rw [WP.unf hc]
  by_cases hx : x = y <;> simp [act, wpk, nx, hx]
theorem o_ic_lt {sc : av_S} {d m pc len pc2 : Nat} {lv : av_L} {st : List av_V} {h : av_H} {Q : Option av_V → av_H → Prop} {t : Int} {lt lf : av_L} {tg : Nat} {x y : Int} (hc : cd m pc = some (.if_icmp .lt t, len)) (ht : t.toNat = tg) (hkt : kpf m tg lv = lt) (hp : pc + len = pc2) (hkf : kpf m pc2 lv = lf) : WP sc (d + 1) m pc lv (.inl y :: .inl x :: st) h Q ↔ (if x < y then WP sc (d + 1) m tg lt st h Q else WP sc (d + 1) m pc2 lf st h Q) := by
  subst ht hkt hp hkf
  rw [WP.unf hc]
  by_cases hx : x < y <;> simp [act, wpk, nx, hx]
theorem o_ic_ge {sc : av_S} {d m pc len pc2 : Nat} {lv : av_L} {st : List av_V} {h : av_H} {Q : Option av_V → av_H → Prop} {t : Int} {lt lf : av_L} {tg : Nat} {x y : Int} (hc : cd m pc = some (.if_icmp .ge t, len)) (ht : t.toNat = tg) (hkt : kpf m tg lv = lt) (hp : pc + len = pc2) (hkf : kpf m pc2 lv = lf) : WP sc (d + 1) m pc lv (.inl y :: .inl x :: st) h Q ↔ (if x < y then WP sc (d + 1) m pc2 lf st h Q else WP sc (d + 1) m tg lt st h Q) := by
  subst ht hkt hp hkf
  rw [WP.unf hc]
  by_cases hx : x < y <;> simp [act, wpk, nx, hx]
theorem o_ic_gt {sc : av_S} {d m pc len pc2 : Nat} {lv : av_L} {st : List av_V} {h : av_H} {Q : Option av_V → av_H → Prop} {t : Int} {lt lf : av_L} {tg : Nat} {x y : Int} (hc : cd m pc = some (.if_icmp .gt t, len)) (ht : t.toNat = tg) (hkt : kpf m tg lv = lt) (hp : pc + len = pc2) (hkf : kpf m pc2 lv = lf) : WP sc (d + 1) m pc lv (.inl y :: .inl x :: st) h Q ↔ (if y < x then WP sc (d + 1) m tg lt st h Q else WP sc (d + 1) m pc2 lf st h Q) := by
  subst ht hkt hp hkf
  rw [WP.unf hc]
  by_cases hx : y < x <;> simp [act, wpk, nx, hx]
theorem o_ic_le {sc : av_S} {d m pc len pc2 : Nat} {lv : av_L} {st : List av_V} {h : av_H} {Q : Option av_V → av_H → Prop} {t : Int} {lt lf : av_L} {tg : Nat} {x y : Int} (hc : cd m pc = some (.if_icmp .le t, len)) (ht : t.toNat = tg) (hkt : kpf m tg lv = lt) (hp : pc + len = pc2) (hkf : kpf m pc2 lv = lf) : WP sc (d + 1) m pc lv (.inl y :: .inl x :: st) h Q ↔ (if y < x then WP sc (d + 1) m pc2 lf st h Q else WP sc (d + 1) m tg lt st h Q) := by
  subst ht hkt hp hkf
  rw [WP.unf hc]
  by_cases hx : y < x <;> simp [act, wpk, nx, hx]
theorem o_goto {sc : av_S} {d m pc len : Nat} {lv lv' : av_L} {st : List av_V} {h : av_H} {Q : Option av_V → av_H → Prop} {t : Int} {tg : Nat} (hc : cd m pc = some (.goto t, len)) (ht : t.toNat = tg) (hk : kpf m tg lv = lv') : WP sc (d + 1) m pc lv st h Q ↔ WP sc (d + 1) m tg lv' st h Q := by
  subst ht hk
  rw [WP.unf hc]
  simp [act, wpk, nx]
def wsw (sc : av_S) (d m : Nat) (lv : av_L) (st : List av_V) (h : av_H) (Q : Option av_V → av_H → Prop) (x : Int) (ps : List (Int × Int)) (dd : Int) : Prop := WP sc (d + 1) m (sw x ps dd).toNat (kpf m (sw x ps dd).toNat lv) st h Q
theorem o_sw {sc : av_S} {d m pc len : Nat} {lv : av_L} {st : List av_V} {h : av_H} {Q : Option av_V → av_H → Prop} {x dd : Int} {ps : Array (Int × Int)} (hc : cd m pc = some (.lookupswitch dd ps, len)) : WP sc (d + 1) m pc lv (.inl x :: st) h Q ↔ wsw sc d m lv st h Q x ps.toList dd := by
  rw [WP.unf hc]
  simp [act, wpk, nx, wsw]
theorem o_sw0 {sc : av_S} {d m tg : Nat} {lv lv' : av_L} {st : List av_V} {h : av_H} {Q : Option av_V → av_H → Prop} {x dd : Int} (ht : dd.toNat = tg) (hk : kpf m tg lv = lv') : wsw sc d m lv st h Q x [] dd ↔ WP sc (d + 1) m tg lv' st h Q := by
  subst ht hk
  exact Iff.rfl
theorem o_sw1 {sc : av_S} {d m tg : Nat} {lv lv' : av_L} {st : List av_V} {h : av_H} {Q : Option av_V → av_H → Prop} {x dd k t : Int} {ps : List (Int × Int)} {P : Prop} (ht : t.toNat = tg) (hk : kpf m tg lv = lv') (hP : wsw sc d m lv st h Q x ps dd ↔ P) : wsw sc d m lv st h Q x ((k, t) :: ps) dd ↔ (if x = k then WP sc (d + 1) m tg lv' st h Q else P) := by
  subst ht hk
  by_cases hx : x = k
  · rw [if_pos hx]; unfold wsw; rw [show sw x ((k, t) :: ps) dd = t by simp [sw, hx]]
  · rw [if_neg hx, ← hP]; unfold wsw; rw [show sw x ((k, t) :: ps) dd = sw x ps dd by simp [sw, hx]]
theorem o_getfield {sc : av_S} {d m pc len pc2 : Nat} {lv lv' : av_L} {st : List av_V} {h : av_H} {Q : Option av_V → av_H → Prop} {x a : Nat} {c k : Nat} (hc : cd m pc = some (.getfield x, len)) (hxc : x / 64 + 1 = c) (hxk : x % 64 = k) (hp : pc + len = pc2) (hk : kpf m pc2 lv = lv') : WP sc (d + 1) m pc lv (.inr (.inl a) :: st) h Q ↔ (kd h a).1 = c ∧ WP sc (d + 1) m pc2 lv' (.inl (gI h a k) :: st) h Q := by
  subst hp hk; subst hxc hxk; rw [WP.unf hc]
  by_cases hx : (kd h a).1 = x / 64 + 1
  · simp [act, wpk, nx, hx]
  · simp only [act]
    rw [if_neg (by exact hx)]
    simp [wpk, hx]
theorem o_getstatic {sc : av_S} {d m pc len pc2 : Nat} {lv lv' : av_L} {st : List av_V} {h : av_H} {Q : Option av_V → av_H → Prop} {x a : Nat} {c k : Nat} (hc : cd m pc = some (.getstatic x, len)) (hxc : x / 64 + 1 = c) (hxk : x % 64 = k) (hp : pc + len = pc2) (hk : kpf m pc2 lv = lv') : WP sc (d + 1) m pc lv (.inr (.inl a) :: st) h Q ↔ (kd h a).1 = c ∧ WP sc (d + 1) m pc2 lv' (.inr (.inl (gR h a k)) :: st) h Q := by
  subst hp hk; subst hxc hxk; rw [WP.unf hc]
  by_cases hx : (kd h a).1 = x / 64 + 1
  · simp [act, wpk, nx, hx]
  · simp only [act]
    rw [if_neg (by exact hx)]
    simp [wpk, hx]
theorem o_putfield {sc : av_S} {d m pc len pc2 : Nat} {lv lv' : av_L} {st : List av_V} {h : av_H} {Q : Option av_V → av_H → Prop} {x a : Nat} {c k : Nat} {z : Int} (hc : cd m pc = some (.putfield x, len)) (hxc : x / 64 + 1 = c) (hxk : x % 64 = k) (hp : pc + len = pc2) (hk : kpf m pc2 lv = lv') : WP sc (d + 1) m pc lv (.inl z :: .inr (.inl a) :: st) h Q ↔ (kd h a).1 = c ∧ WP sc (d + 1) m pc2 lv' st (sI h a k z) Q := by
  subst hp hk; subst hxc hxk; rw [WP.unf hc]
  by_cases hx : (kd h a).1 = x / 64 + 1
  · simp [act, wpk, nx, hx]
  · simp only [act]
    rw [if_neg (by exact hx)]
    simp [wpk, hx]
theorem o_putbool {sc : av_S} {d m pc len pc2 : Nat} {lv lv' : av_L} {st : List av_V} {h : av_H} {Q : Option av_V → av_H → Prop} {x a : Nat} {c k : Nat} {z : Int} (hc : cd m pc = some (.instanceof x, len)) (hxc : x / 64 + 1 = c) (hxk : x % 64 = k) (hp : pc + len = pc2) (hk : kpf m pc2 lv = lv') : WP sc (d + 1) m pc lv (.inl z :: .inr (.inl a) :: st) h Q ↔ ((kd h a).1 = c ∧ (z = 0 ∨ z = 1)) ∧ WP sc (d + 1) m pc2 lv' st (sI h a k z) Q := by
  subst hp hk; subst hxc hxk; rw [WP.unf hc]
  by_cases hx : ((kd h a).1 = x / 64 + 1 ∧ (z = 0 ∨ z = 1))
  · simp [act, wpk, nx, hx]
  · simp only [act]
    rw [if_neg (by exact hx)]
    simp [wpk, hx]
theorem o_putstatic {sc : av_S} {d m pc len pc2 : Nat} {lv lv' : av_L} {st : List av_V} {h : av_H} {Q : Option av_V → av_H → Prop} {x a b : Nat} {c k : Nat} (hc : cd m pc = some (.putstatic x, len)) (hxc : x / 64 + 1 = c) (hxk : x % 64 = k) (hp : pc + len = pc2) (hk : kpf m pc2 lv = lv') : WP sc (d + 1) m pc lv (.inr (.inl b) :: .inr (.inl a) :: st) h Q ↔ (kd h a).1 = c ∧ WP sc (d + 1) m pc2 lv' st (sR h a k b) Q := by
  subst hp hk; subst hxc hxk; rw [WP.unf hc]
  by_cases hx : (kd h a).1 = x / 64 + 1
  · simp [act, wpk, nx, hx]
  · simp only [act]
    rw [if_neg (by exact hx)]
    simp [wpk, hx]
theorem o_iaload {sc : av_S} {d m pc len pc2 : Nat} {lv lv' : av_L} {st : List av_V} {h : av_H} {Q : Option av_V → av_H → Prop} {a : Nat} {i : Int} (hc : cd m pc = some (.iaload, len)) (hp : pc + len = pc2) (hk : kpf m pc2 lv = lv') : WP sc (d + 1) m pc lv (.inl i :: .inr (.inl a) :: st) h Q ↔ ((kd h a).1 = 10 ∧ 0 ≤ i ∧ i < ((kd h a).2 : Int)) ∧ WP sc (d + 1) m pc2 lv' (.inl (gI h a i.toNat) :: st) h Q := by
  subst hp hk; rw [WP.unf hc]
  by_cases hx : ((kd h a).1 = 10 ∧ 0 ≤ i ∧ i < ((kd h a).2 : Int))
  · simp [act, wpk, nx, hx]
  · simp only [act]
    rw [if_neg (by exact hx)]
    simp [wpk, hx]
theorem o_iastore {sc : av_S} {d m pc len pc2 : Nat} {lv lv' : av_L} {st : List av_V} {h : av_H} {Q : Option av_V → av_H → Prop} {a : Nat} {i z : Int} (hc : cd m pc = some (.iastore, len)) (hp : pc + len = pc2) (hk : kpf m pc2 lv = lv') : WP sc (d + 1) m pc lv (.inl z :: .inl i :: .inr (.inl a) :: st) h Q ↔ ((kd h a).1 = 10 ∧ 0 ≤ i ∧ i < ((kd h a).2 : Int)) ∧ WP sc (d + 1) m pc2 lv' st (sI h a i.toNat z) Q := by
  subst hp hk; rw [WP.unf hc]
  by_cases hx : ((kd h a).1 = 10 ∧ 0 ≤ i ∧ i < ((kd h a).2 : Int))
  · simp [act, wpk, nx, hx]
  · simp only [act]
    rw [if_neg (by exact hx)]
    simp [wpk, hx]
theorem o_aaload {sc : av_S} {d m pc len pc2 : Nat} {lv lv' : av_L} {st : List av_V} {h : av_H} {Q : Option av_V → av_H → Prop} {a : Nat} {i : Int} (hc : cd m pc = some (.aaload, len)) (hp : pc + len = pc2) (hk : kpf m pc2 lv = lv') : WP sc (d + 1) m pc lv (.inl i :: .inr (.inl a) :: st) h Q ↔ (((kd h a).1 = 11 ∨ (kd h a).1 = 15) ∧ 0 ≤ i ∧ i < ((kd h a).2 : Int)) ∧ WP sc (d + 1) m pc2 lv' (.inr (.inl (gR h a i.toNat)) :: st) h Q := by
  subst hp hk; rw [WP.unf hc]
  by_cases hx : (((kd h a).1 = 11 ∨ (kd h a).1 = 15) ∧ 0 ≤ i ∧ i < ((kd h a).2 : Int))
  · simp [act, wpk, nx, hx]
  · simp only [act]
    rw [if_neg (by exact hx)]
    simp [wpk, hx]
theorem o_aastore {sc : av_S} {d m pc len pc2 : Nat} {lv lv' : av_L} {st : List av_V} {h : av_H} {Q : Option av_V → av_H → Prop} {a b : Nat} {i : Int} (hc : cd m pc = some (.aastore, len)) (hp : pc + len = pc2) (hk : kpf m pc2 lv = lv') : WP sc (d + 1) m pc lv (.inr (.inl b) :: .inl i :: .inr (.inl a) :: st) h Q ↔ (((kd h a).1 = 11 ∧ (kd h b).1 = 1 ∨ (kd h a).1 = 15 ∧ (kd h b).1 = 5) ∧ 0 ≤ i ∧ i < ((kd h a).2 : Int)) ∧ WP sc (d + 1) m pc2 lv' st (sR h a i.toNat b) Q := by
  subst hp hk; rw [WP.unf hc]
  by_cases hx : (((kd h a).1 = 11 ∧ (kd h b).1 = 1 ∨ (kd h a).1 = 15 ∧ (kd h b).1 = 5) ∧ 0 ≤ i ∧ i < ((kd h a).2 : Int))
  · simp [act, wpk, nx, hx]
  · simp only [act]
    rw [if_neg (by exact hx)]
    simp [wpk, hx]
theorem o_arraylength {sc : av_S} {d m pc len pc2 : Nat} {lv lv' : av_L} {st : List av_V} {h : av_H} {Q : Option av_V → av_H → Prop} {a : Nat} (hc : cd m pc = some (.arraylength, len)) (hp : pc + len = pc2) (hk : kpf m pc2 lv = lv') : WP sc (d + 1) m pc lv (.inr (.inl a) :: st) h Q ↔ (kd h a).1 = 10 ∧ WP sc (d + 1) m pc2 lv' (.inl ((kd h a).2 : Int) :: st) h Q := by
  subst hp hk; rw [WP.unf hc]
  by_cases hx : (kd h a).1 = 10
  · simp [act, wpk, nx, hx]
  · simp only [act]
    rw [if_neg (by exact hx)]
    simp [wpk, hx]
theorem o_baload {sc : av_S} {d m pc len pc2 : Nat} {lv lv' : av_L} {st : List av_V} {h : av_H} {Q : Option av_V → av_H → Prop} {a : Nat} {i : Int} (hc : cd m pc = some (.baload, len)) (hp : pc + len = pc2) (hk : kpf m pc2 lv = lv') : WP sc (d + 1) m pc lv (.inl i :: .inr (.inl a) :: st) h Q ↔ (a = 1 ∧ 0 ≤ i ∧ i < (sc.1 : Int)) ∧ WP sc (d + 1) m pc2 lv' (.inl (sc.2 i.toNat) :: st) h Q := by
  subst hp hk; rw [WP.unf hc]
  by_cases hx : (a = 1 ∧ 0 ≤ i ∧ i < (sc.1 : Int))
  · simp [act, wpk, nx, hx]
  · simp only [act]
    rw [if_neg (by exact hx)]
    simp [wpk, hx]
theorem o_athrow {sc : av_S} {d m pc len pc2 : Nat} {lv lv' : av_L} {st : List av_V} {h : av_H} {Q : Option av_V → av_H → Prop} {a : Nat} (hc : cd m pc = some (.athrow, len)) (hp : pc + len = pc2) (hk : kpf m pc2 lv = lv') : WP sc (d + 1) m pc lv (.inr (.inl a) :: st) h Q ↔ a = 1 ∧ WP sc (d + 1) m pc2 lv' (.inl (sc.1 : Int) :: st) h Q := by
  subst hp hk; rw [WP.unf hc]
  by_cases hx : a = 1
  · simp [act, wpk, nx, hx]
  · simp only [act]
    rw [if_neg (by exact hx)]
    simp [wpk, hx]
theorem o_new {sc : av_S} {d m pc len pc2 : Nat} {lv lv' : av_L} {st : List av_V} {h : av_H} {Q : Option av_V → av_H → Prop} {x c k : Nat} (hc : cd m pc = some (.new x, len)) (hxc : x + 1 = c) (hxk : nfl x = k) (hp : pc + len = pc2) (hk : kpf m pc2 lv = lv') : WP sc (d + 1) m pc lv st h Q ↔ WP sc (d + 1) m pc2 lv' (.inr (.inl (h.1.1 + 2)) :: st) (al h c k) Q := by
  subst hp hk; subst hxc hxk; rw [WP.unf hc]
  simp [act, wpk, nx, rt, cl_]
theorem o_newarray {sc : av_S} {d m pc len pc2 : Nat} {lv lv' : av_L} {st : List av_V} {h : av_H} {Q : Option av_V → av_H → Prop} {n : Int} (hc : cd m pc = some (.newarray .int, len)) (hp : pc + len = pc2) (hk : kpf m pc2 lv = lv') : WP sc (d + 1) m pc lv (.inl n :: st) h Q ↔ (0 ≤ n ∧ n < 100000) ∧ WP sc (d + 1) m pc2 lv' (.inr (.inl (h.1.1 + 2)) :: st) (al h 10 n.toNat) Q := by
  subst hp hk; rw [WP.unf hc]
  by_cases hx : (0 ≤ n ∧ n < 100000)
  · simp [act, wpk, nx, hx]
  · simp only [act]
    rw [if_neg (by exact hx)]
    simp [wpk, hx]
theorem o_anewarray {sc : av_S} {d m pc len pc2 : Nat} {lv lv' : av_L} {st : List av_V} {h : av_H} {Q : Option av_V → av_H → Prop} {x c : Nat} {n : Int} (hc : cd m pc = some (.anewarray x, len)) (hxd : x + 11 = c) (hp : pc + len = pc2) (hk : kpf m pc2 lv = lv') : WP sc (d + 1) m pc lv (.inl n :: st) h Q ↔ (0 ≤ n ∧ n < 100000) ∧ WP sc (d + 1) m pc2 lv' (.inr (.inl (h.1.1 + 2)) :: st) (al h c n.toNat) Q := by
  subst hp hk; subst hxd; rw [WP.unf hc]
  by_cases hx : (0 ≤ n ∧ n < 100000)
  · simp [act, wpk, nx, hx]
  · simp only [act]
    rw [if_neg (by exact hx)]
    simp [wpk, hx]
theorem o_objinit {sc : av_S} {d m pc len pc2 : Nat} {lv lv' : av_L} {st : List av_V} {h : av_H} {Q : Option av_V → av_H → Prop} {a : Nat} (hc : cd m pc = some (.monitorexit, len)) (hs : decide (st.length ≤ 4) = true) (hp : pc + len = pc2) (hk : kpf m pc2 lv = lv') : WP sc (d + 1) m pc lv (.inr (.inl a) :: st) h Q ↔ 1 < a ∧ WP sc (d + 1) m pc2 lv' st h Q := by
  subst hp hk; rw [WP.unf hc]
  have hs2 := of_decide_eq_true hs
  by_cases hx : 1 < a
  · simp [act, wpk, nx, hx, hs2]
  · simp only [act]
    rw [if_neg (by exact fun h => hx h.1)]
    simp [wpk, hx]
theorem o_copy {sc : av_S} {d m pc len pc2 : Nat} {lv lv' : av_L} {st : List av_V} {h : av_H} {Q : Option av_V → av_H → Prop} {a b : Nat} {n dp sp : Int} (hc : cd m pc = some (.monitorenter, len)) (hs : decide (st.length ≤ 4) = true) (hp : pc + len = pc2) (hk : kpf m pc2 lv = lv') : WP sc (d + 1) m pc lv (.inl n :: .inl dp :: .inr (.inl b) :: .inl sp :: .inr (.inl a) :: st) h Q ↔ (((kd h a).1 = 10 ∧ (kd h b).1 = 10) ∧ (0 ≤ n ∧ 0 ≤ sp ∧ 0 ≤ dp) ∧ sp + n ≤ ((kd h a).2 : Int) ∧ dp + n ≤ ((kd h b).2 : Int)) ∧ WP sc (d + 1) m pc2 lv' st (cp h a sp.toNat b dp.toNat n.toNat) Q := by
  subst hp hk; rw [WP.unf hc]
  have hs2 := of_decide_eq_true hs
  by_cases hx : (((kd h a).1 = 10 ∧ (kd h b).1 = 10) ∧ (0 ≤ n ∧ 0 ≤ sp ∧ 0 ≤ dp) ∧ sp + n ≤ ((kd h a).2 : Int) ∧ dp + n ≤ ((kd h b).2 : Int))
  · simp [act, wpk, nx, hx, hs2]
  · simp only [act]
    rw [if_neg (by exact fun h => hx ⟨h.1, h.2.1, h.2.2.1, h.2.2.2.1⟩)]
    simp [wpk, hx]
theorem o_invv {sc : av_S} {d m pc len pc2 : Nat} {lv lv' : av_L} {st : List av_V} {h : av_H} {Q : Option av_V → av_H → Prop} {j a c : Nat} {rs rest : List av_V} {le : av_L} (hc : cd m pc = some (.invokevirtual j, len)) (hr : st.drop (mar j) = rest) (hn : decide (rest.length ≤ 4 ∧ mar j ≤ st.length ∧ asz (st.take (mar j)) ≤ mxl j) = true) (ht : (st.take (mar j)).reverse = .inr (.inl a) :: rs) (he : ent 0 (.inr (.inl a) :: rs) = le) (hp : pc + len = pc2) (hk : kpf m pc2 lv = lv') (hm : mcl j + 1 = c) : WP sc (d + 1) m pc lv st h Q ↔ (kd h a).1 = c ∧ WP sc d j 0 le [] h (fun r h' => WP sc (d + 1) m pc2 lv' (r.toList ++ rest) h' Q) := by
  subst hp hk hr he hm
  rw [WP.unf hc]
  simp only [act, of_decide_eq_true hn, ht]
  by_cases hx : (kd h a).1 = mcl j + 1 <;> simp [hx, wpk, cl_]
theorem o_invi {sc : av_S} {d m pc len pc2 : Nat} {lv lv' : av_L} {st : List av_V} {h : av_H} {Q : Option av_V → av_H → Prop} {j a c : Nat} {rs rest : List av_V} {le : av_L} (hc : cd m pc = some (.invokespecial j, len)) (hr : st.drop (mar j) = rest) (hn : decide (rest.length ≤ 4 ∧ mar j ≤ st.length ∧ asz (st.take (mar j)) ≤ mxl j) = true) (ht : (st.take (mar j)).reverse = .inr (.inl a) :: rs) (he : ent 0 (.inr (.inl a) :: rs) = le) (hp : pc + len = pc2) (hk : kpf m pc2 lv = lv') (hm : mcl j + 1 = c) : WP sc (d + 1) m pc lv st h Q ↔ (kd h a).1 = c ∧ WP sc d j 0 le [] h (fun r h' => WP sc (d + 1) m pc2 lv' (r.toList ++ rest) h' Q) := by
  subst hp hk hr he hm
  rw [WP.unf hc]
  simp only [act, of_decide_eq_true hn, ht]
  by_cases hx : (kd h a).1 = mcl j + 1 <;> simp [hx, wpk, cl_]
theorem o_invs {sc : av_S} {d m pc len pc2 : Nat} {lv lv' : av_L} {st : List av_V} {h : av_H} {Q : Option av_V → av_H → Prop} {j : Nat} {rs rest : List av_V} {le : av_L} (hc : cd m pc = some (.invokestatic j, len)) (hr : st.drop (mar j) = rest) (hn : decide (rest.length ≤ 4 ∧ mar j ≤ st.length ∧ asz (st.take (mar j)) ≤ mxl j) = true) (ht : (st.take (mar j)).reverse = rs) (he : ent 0 rs = le) (hp : pc + len = pc2) (hk : kpf m pc2 lv = lv') : WP sc (d + 1) m pc lv st h Q ↔ WP sc d j 0 le [] h (fun r h' => WP sc (d + 1) m pc2 lv' (r.toList ++ rest) h' Q) := by
  subst hp hk hr he ht
  rw [WP.unf hc]
  simp only [act, of_decide_eq_true hn]
  simp [wpk, cl_]
theorem o_ireturn {sc : av_S} {d m pc len : Nat} {lv : av_L} {h : av_H} {Q : Option av_V → av_H → Prop} {z : Int} (hc : cd m pc = some (.ireturn, len)) : WP sc (d + 1) m pc lv [.inl z] h Q ↔ Q (some (.inl z)) h := by
  rw [WP.unf hc]
  simp [act, wpk, rt]
theorem o_freturn {sc : av_S} {d m pc len : Nat} {lv : av_L} {h : av_H} {Q : Option av_V → av_H → Prop} {z : Int} (hc : cd m pc = some (.freturn, len)) : WP sc (d + 1) m pc lv [.inl z] h Q ↔ (z = 0 ∨ z = 1) ∧ Q (some (.inl z)) h := by
  rw [WP.unf hc]
  by_cases hx : (z = 0 ∨ z = 1) <;> simp [act, wpk, rt, hx]
theorem o_lreturn {sc : av_S} {d m pc len : Nat} {lv : av_L} {h : av_H} {Q : Option av_V → av_H → Prop} {w : Int64} (hc : cd m pc = some (.lreturn, len)) : WP sc (d + 1) m pc lv [.inr (.inr w)] h Q ↔ Q (some (.inr (.inr w))) h := by
  rw [WP.unf hc]
  simp [act, wpk, rt]
theorem o_areturn {sc : av_S} {d m pc len : Nat} {lv : av_L} {h : av_H} {Q : Option av_V → av_H → Prop} {a : Nat} (hc : cd m pc = some (.areturn, len)) : WP sc (d + 1) m pc lv [.inr (.inl a)] h Q ↔ Q (some (.inr (.inl a))) h := by
  rw [WP.unf hc]
  simp [act, wpk, rt]
theorem o_return {sc : av_S} {d m pc len : Nat} {lv : av_L} {h : av_H} {Q : Option av_V → av_H → Prop} (hc : cd m pc = some (.return_, len)) : WP sc (d + 1) m pc lv [] h Q ↔ Q none h := by
  rw [WP.unf hc]
  simp [act, wpk, rt]
