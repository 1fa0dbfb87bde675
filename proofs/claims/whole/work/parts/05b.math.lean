/-! Math.max, Math.min, Math.abs: the kit's rows -/
section GMath
variable {G : aG} {l : Launch} {D : Nat} {Tm : List Frame → Array Value → State → State → Prop} {M : aM} {pc : Nat} {lv : List (Nat × Value)} {st : List Value} {S : aSt}
theorem am_lo {st : List Value} (h : (st.map fun v => v.category).sum ≤ 8) : ((st.map (cV G)).map fun v => v.category).sum + 13 ≤ (rmM (D + 1)).locals := by
  rw [am_cat]
  show _ ≤ 64 * (D + 1)
  omega
theorem Go.mmax {ix : Nat} {x y : Int32} (pc' : Nat) (hp : pc + 3 = pc') (hd : decode M.1 pc = .ok (.invokestatic ix, 3)) (w1 : Cond.methodLink M.2.2.2.1 ix Lib.Math.max.name ∈ lw_g) (w2 : Cond.static Lib.Math.max.name ∈ lw_g) (w3 : Cond.initialized "java/lang/Math" ∈ lw_g) (w4 : Cond.code Lib.Math.max.name Lib.Math.max.code 2 (some .int) ∈ lw_g) (hst : (st.map fun v => v.category).sum ≤ 8) (k : GoM G l (D + 1) Tm M pc' lv (.int (if x < y then y else x) :: st) S) : GoM G l (D + 1) Tm M pc lv (.int y :: .int x :: st) S := by
  subst hp
  intro p e s m args below meth c H locs ls C hn hS hW hl
  exact va_mmax C.1 C.2.1 (C.2.2.1.trans hl.1.symm) C.2.2.2.2.1 (C.2.2.2.2.2.2.2.1 _ w1) (C.2.2.2.2.2.2.2.1 _ w2) (C.2.2.2.2.2.2.2.1 _ w3) (C.2.2.2.2.2.2.2.1 _ w4) (Nat.succ_le_succ (Nat.zero_le D)) (am_lo hst) (Nat.le_refl 0) (Nat.le_refl 0) hd (k p e s m args below meth c H locs ls C hn hS hW hl)
theorem Go.mmin {ix : Nat} {x y : Int32} (pc' : Nat) (hp : pc + 3 = pc') (hd : decode M.1 pc = .ok (.invokestatic ix, 3)) (w1 : Cond.methodLink M.2.2.2.1 ix Lib.Math.min.name ∈ lw_g) (w2 : Cond.static Lib.Math.min.name ∈ lw_g) (w3 : Cond.initialized "java/lang/Math" ∈ lw_g) (w4 : Cond.code Lib.Math.min.name Lib.Math.min.code 2 (some .int) ∈ lw_g) (hst : (st.map fun v => v.category).sum ≤ 8) (k : GoM G l (D + 1) Tm M pc' lv (.int (if y < x then y else x) :: st) S) : GoM G l (D + 1) Tm M pc lv (.int y :: .int x :: st) S := by
  subst hp
  intro p e s m args below meth c H locs ls C hn hS hW hl
  exact va_mmin C.1 C.2.1 (C.2.2.1.trans hl.1.symm) C.2.2.2.2.1 (C.2.2.2.2.2.2.2.1 _ w1) (C.2.2.2.2.2.2.2.1 _ w2) (C.2.2.2.2.2.2.2.1 _ w3) (C.2.2.2.2.2.2.2.1 _ w4) (Nat.succ_le_succ (Nat.zero_le D)) (am_lo hst) (Nat.le_refl 0) (Nat.le_refl 0) hd (k p e s m args below meth c H locs ls C hn hS hW hl)
theorem Go.mabs {ix : Nat} {x : Int32} (pc' : Nat) (hp : pc + 3 = pc') (hd : decode M.1 pc = .ok (.invokestatic ix, 3)) (w1 : Cond.methodLink M.2.2.2.1 ix Lib.Math.abs.name ∈ lw_g) (w2 : Cond.static Lib.Math.abs.name ∈ lw_g) (w3 : Cond.initialized "java/lang/Math" ∈ lw_g) (w4 : Cond.code Lib.Math.abs.name Lib.Math.abs.code 1 (some .int) ∈ lw_g) (hst : (st.map fun v => v.category).sum ≤ 8) (k : GoM G l (D + 1) Tm M pc' lv (.int (if 0 ≤ x then x else 0 - x) :: st) S) : GoM G l (D + 1) Tm M pc lv (.int x :: st) S := by
  subst hp
  intro p e s m args below meth c H locs ls C hn hS hW hl
  exact va_mabs C.1 C.2.1 (C.2.2.1.trans hl.1.symm) C.2.2.2.2.1 (C.2.2.2.2.2.2.2.1 _ w1) (C.2.2.2.2.2.2.2.1 _ w2) (C.2.2.2.2.2.2.2.1 _ w3) (C.2.2.2.2.2.2.2.1 _ w4) (Nat.succ_le_succ (Nat.zero_le D)) (am_lo hst) (Nat.le_refl 0) (Nat.le_refl 0) hd (k p e s m args below meth c H locs ls C hn hS hW hl)
end GMath
