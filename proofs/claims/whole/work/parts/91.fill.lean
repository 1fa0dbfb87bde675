/-! fill and begin where not all cells stand yet. -/
section Fill
variable {G : aG} {l : Launch}
theorem K_fill {n k N : Nat} {S : aSt} {v : Int32} (hk : k < n) (hs : SH k = (7, N)) (hN : N < 2 ^ 31) : Ctr G l yJ7_fill_53178 mJ7_fill_53178 (rmM 1) n n S [.ref k, .int v] none (stRow S k (fil (S.1 k) 0 N v)) := by
  have hs1 : (SH k).1 = 7 := by rw [hs]
  have hs2 : (SH k).2 = N := by rw [hs]
  refine Ctr.of (by decide) rfl rfl (Nat.le_of_ble_eq_true rfl) [(0, .ref k), (1, .int v)] rfl ?_
  refine Go.iconst (0 : Int32) 1 rfl dJ7_fill_53178_0 ci_0 ?_
  refine Go.istore_n 2 [(2, .int (0 : Int32)), (0, .ref k), (1, .int v)] rfl dJ7_fill_53178_1 (by decide) rfl ?_
  refine Go.aload_n 1 3 rfl dJ7_fill_53178_2 rfl ?_
  refine Go.alenI 4 rfl dJ7_fill_53178_3 hk hs1 ?_
  rw [hs2]
  refine Go.istore_n 5 [(3, .int (nI N)), (2, .int (0 : Int32)), (0, .ref k), (1, .int v)] rfl dJ7_fill_53178_4 (by decide) rfl ?_
  have key : ∀ (j i : Nat), i + j = N → Go G l (rmM 1) (TmR G none n (stRow S k (fil (S.1 k) 0 N v)) 0 0) mJ7_fill_53178 n 0 0 5 [(0, .ref k), (1, .int v), (2, .int (nI i)), (3, .int (nI N))] [] (stRow S k (fil (S.1 k) 0 i v)) := by
    intro j
    induction j with
    | zero =>
      intro i hi
      have e : i = N := by omega
      rw [e]
      refine Go.iload_n 2 6 rfl dJ7_fill_53178_5 rfl ?_
      refine Go.iload_n 3 7 rfl dJ7_fill_53178_6 rfl ?_
      refine Go.icmp_ge 20 10 rfl dJ7_fill_53178_7 rfl (fun hc => ?_) (fun hc => absurd (Int32.le_refl _) hc)
      exact Go.vret rfl dJ7_fill_53178_20
    | succ j ih =>
      intro i hi
      refine Go.iload_n 2 6 rfl dJ7_fill_53178_5 rfl ?_
      refine Go.iload_n 3 7 rfl dJ7_fill_53178_6 rfl ?_
      refine Go.icmp_ge 20 10 rfl dJ7_fill_53178_7 rfl (fun hc => absurd hc (nI_ge (by omega) hN)) (fun hc => ?_)
      refine Go.aload_n 0 11 rfl dJ7_fill_53178_10 rfl ?_
      refine Go.iload_n 2 12 rfl dJ7_fill_53178_11 rfl ?_
      refine Go.iload_n 1 13 rfl dJ7_fill_53178_12 rfl ?_
      refine Go.iast 14 rfl dJ7_fill_53178_13 hk hs1 (by rw [hs2]; exact inb_nI (by omega) hN) ?_
      have ef : stI (stRow S k (fil (S.1 k) 0 i v)) k (nI i).toNatClampNeg v = stRow S k (fil (S.1 k) 0 (i + 1) v) := by
        rw [nI_clamp (by omega), stI_stRow]
        have := fil_s (S.1 k) 0 i v
        rw [Nat.zero_add] at this
        rw [this]
      rw [ef]
      refine Go.iinc 2 17 (nI (i + 1)) [(2, .int (nI (i + 1))), (0, .ref k), (1, .int v), (3, .int (nI N))] rfl dJ7_fill_53178_14 rfl (by rw [ci_1, nI_1]) (by decide) rfl ?_
      refine Go.goto 5 dJ7_fill_53178_17 rfl ?_
      exact Go.sub [1, 2, 0, 3] [(0, .ref k), (1, .int v), (2, .int (nI (i + 1))), (3, .int (nI N))] rfl (ih (i + 1) (by omega))
  have k0 := key N 0 (by omega)
  rw [fil_0, stRow_id] at k0
  exact Go.sub [2, 3, 1, 0] [(0, .ref k), (1, .int v), (2, .int (0 : Int32)), (3, .int (nI N))] rfl k0
def begS (S : aSt) (k : Nat) : aSt := stRow (stRow (stI S k 6 0) (k + 3) (fil (S.1 (k + 3)) 0 7 (-9))) (k + 4) (fil (S.1 (k + 4)) 0 7 (-9))
theorem K_begin {n k : Nat} {S : aSt} (hk : k + 6 < n) (h0 : (SH k).1 = 4) (h3 : SH (k + 3) = (7, 7)) (h4 : SH (k + 4) = (7, 7)) (q3 : S.2.2 k 2 = some (k + 3)) (q4 : S.2.2 k 3 = some (k + 4)) : Ctr G l yX5_begin mX5_begin (rmM 2) n n S [.ref k] none (begS S k) := by
  refine Ctr.of (by decide) rfl rfl (Nat.le_of_ble_eq_true rfl) [(0, .ref k)] rfl ?_
  refine Go.aload_n 0 1 rfl dX5_begin_0 rfl ?_
  refine Go.iconst (0 : Int32) 2 rfl dX5_begin_1 ci_0 ?_
  refine Go.putI 5 rfl dX5_begin_2 fp_X5_30 rfl (by omega) h0 (fun h => by cases h) ?_
  refine Go.aload_n 0 6 rfl dX5_begin_5 rfl ?_
  refine Go.getR 9 rfl dX5_begin_6 fl_X5_18 rfl (by omega) h0 q3 ?_
  refine Go.bipush (-9 : Int32) 11 rfl dX5_begin_9 cb_m9 ?_
  refine Go.callS (rm := rmM 1) 14 [.ref (k + 3), .int (-9)] [] rfl dX5_begin_11 (K_fill (by omega) h3 (by decide)) cx_X5_34 (rmM_le (by decide) (by decide)) ⟨Nat.le_refl 0, Nat.le_refl 0⟩ rfl (by decide) ?_
  refine Go.aload_n 0 15 rfl dX5_begin_14 rfl ?_
  refine Go.getR (k' := k + 4) 18 rfl dX5_begin_15 fl_X5_21 rfl (by show k < n; omega) h0 q4 ?_
  refine Go.bipush (-9 : Int32) 20 rfl dX5_begin_18 cb_m9 ?_
  refine Go.callS (rm := rmM 1) 23 [.ref (k + 4), .int (-9)] [] rfl dX5_begin_20 (K_fill (by show k + 4 < n; omega) h4 (by decide)) cx_X5_34 (rmM_le (by decide) (by decide)) ⟨Nat.le_refl 0, Nat.le_refl 0⟩ rfl (by decide) ?_
  have e : stRow (stRow (stI S k 6 0) (k + 3) (fil ((stI S k 6 0).1 (k + 3)) 0 7 (-9))) (k + 4) (fil ((stRow (stI S k 6 0) (k + 3) (fil ((stI S k 6 0).1 (k + 3)) 0 7 (-9))).1 (k + 4)) 0 7 (-9)) = begS S k := by
    unfold begS
    rw [stRow_ne (show k + 4 ≠ k + 3 by omega), stI_ne (show k + 3 ≠ k by omega), stI_ne (show k + 4 ≠ k by omega)]
  rw [e]
  exact Go.vret rfl dX5_begin_23
end Fill
