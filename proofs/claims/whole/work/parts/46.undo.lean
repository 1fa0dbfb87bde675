/-! undo, right. -/
def ud (L : Nat → Nat → Nat) (m : Nat) : Nat → Nat → Nat := fun a b => if a = 9 then (if b < 7 then L 11 (7 * m + b) else L 9 b) else L a b
theorem ud_o {L : Nat → Nat → Nat} {m a b : Nat} (h : a ≠ 9) : ud L m a b = L a b := by unfold ud; rw [if_neg h]
theorem ud_9 {L : Nat → Nat → Nat} {m b : Nat} (h : b < 7) : ud L m 9 b = L 11 (7 * m + b) := by unfold ud; rw [if_pos rfl, if_pos h]
theorem WL.undo {C Q T : Nat} {L : Nat → Nat → Nat} (H : WL C Q T L) {m : Nat} (hm : m < T) : WL C Q m (ud L m) := by
  obtain ⟨h1, h2, h3, h4, h5, h6, h7, h8⟩ := H
  refine ⟨h1, h2, by omega, fun z => by have := h4 z; omega, h5, h6, ?_, fun t ht => ?_⟩
  · intro p hp
    have hh := (h8 m hm).2 p hp
    show ud L m 9 p = 99 ∨ (p < Q ∧ ud L m 9 p < C ∧ ∀ r, r < 7 → ud L m 9 r = ud L m 9 p → r = p)
    rw [ud_9 hp]
    rcases hh with hh | ⟨a1, a2, a3⟩
    · exact Or.inl hh
    · exact Or.inr ⟨a1, a2, fun r hr => by rw [ud_9 hr]; exact a3 r hr⟩
  · exact h8 t (by omega)
theorem WL.less {C Q T : Nat} {L : Nat → Nat → Nat} (H : WL C Q T L) {m : Nat} (hm : m ≤ T) : WL C Q m L := by
  obtain ⟨h1, h2, h3, h4, h5, h6, h7, h8⟩ := H
  exact ⟨h1, h2, by omega, fun z => by have := h4 z; omega, h5, h6, h7, fun t ht => h8 t (by omega)⟩
def xUd (S : aSt) (s m : Nat) : aSt := stI (stRow S (s + 4) (va_cpy (S.1 (s + 6)) (S.1 (s + 4)) (m * 7) 0 7)) s 6 (nI m)
def mUd (S : aSt) (m : Nat) : aSt := stRow S 87 (upd (va_cpy (S.1 87) (S.1 87) (113 + 7 * m) 66 7) 2 (nI m))
theorem PS.undo {S : aSt} {s C Q T : Nat} {L : Nat → Nat → Nat} (H : PS S s C Q T L) {m : Nat} (hm : m < T) : PS (xUd S s m) s C Q m (ud L m) := by
  obtain ⟨h1, h2, h3, h4, h5⟩ := H
  unfold xUd
  refine ⟨?_, fun b hb => ⟨?_, ?_⟩, fun b hb => ?_, fun b hb => ?_, fun t ht => ⟨?_, fun b hb => ?_⟩⟩
  · rw [stI_self, pk_us]
  · rw [stI_ne (by omega), stRow_ne (by omega), ud_o (by decide)]; exact (h2 b hb).1
  · rw [stI_ne (by omega), stRow_ne (by omega), ud_o (by decide)]; exact (h2 b hb).2
  · rw [stI_ne (by omega), stRow_ne (by omega), ud_o (by decide)]; exact h3 b hb
  · rw [stI_ne (by omega), stRow_self, ud_9 hb]
    unfold va_cpy
    rw [if_pos (by omega), ← (h5 m hm).2 b hb]
    exact congrArg (S.1 (s + 6)) (by omega)
  · rw [stI_ne (by omega), stRow_ne (by omega), ud_o (by decide)]; exact (h5 t (by omega)).1
  · rw [stI_ne (by omega), stRow_ne (by omega), ud_o (by decide)]; exact (h5 t (by omega)).2 b hb
theorem PM.undo {v : Nat → Int32} {C Q T : Nat} {L : Nat → Nat → Nat} (hC : C ≤ 7) (hQ : Q ≤ 7) (hT : T ≤ 40) (H : PM v C Q T L) {m : Nat} (hm : m < T) : PM (upd (va_cpy v v (113 + 7 * m) 66 7) 2 (nI m)) C Q m (ud L m) := by
  obtain ⟨h1, h2, h3, h4, h5, h6, h7⟩ := H
  have old : ∀ k, (k < 66 ∨ 73 ≤ k) → k ≠ 2 → upd (va_cpy v v (113 + 7 * m) 66 7) 2 (nI m) k = v k := by
    intro k hk hk2
    rw [pk_un hk2]
    unfold va_cpy
    rw [if_neg (by omega)]
  refine ⟨?_, ?_, ?_, fun b hb => ⟨?_, ?_, ?_, ?_⟩, fun b hb => ⟨?_, ?_, ?_, ?_, ?_⟩, fun b hb h0 => ?_, fun t ht => ⟨?_, fun b hb => ?_⟩⟩
  · rw [old _ (by omega) (by omega)]; exact h1
  · rw [old _ (by omega) (by omega)]; exact h2
  · rw [pk_us]
  · rw [old _ (by omega) (by omega), ud_o (by decide)]; exact (h4 b hb).1
  · rw [old _ (by omega) (by omega), ud_o (by decide)]; exact (h4 b hb).2.1
  · rw [old _ (by omega) (by omega), ud_o (by decide)]; exact (h4 b hb).2.2.1
  · rw [old _ (by omega) (by omega), ud_o (by decide)]; exact (h4 b hb).2.2.2
  · rw [old _ (by omega) (by omega), ud_o (by decide)]; exact (h5 b hb).1
  · rw [old _ (by omega) (by omega), ud_o (by decide)]; exact (h5 b hb).2.1
  · rw [old _ (by omega) (by omega), ud_o (by decide)]; exact (h5 b hb).2.2.1
  · rw [old _ (by omega) (by omega), ud_o (by decide)]; exact (h5 b hb).2.2.2.1
  · rw [old _ (by omega) (by omega), ud_o (by decide)]; exact (h5 b hb).2.2.2.2
  · rw [pk_un (by omega), ud_9 hb]
    unfold va_cpy
    rw [if_pos (by omega), ← (h7 m hm).2 b hb]
    exact congrArg v (by omega)
  · rw [old _ (by omega) (by omega), ud_o (by decide)]; exact (h7 t (by omega)).1
  · rw [old _ (by omega) (by omega), ud_o (by decide)]; exact (h7 t (by omega)).2 b hb
theorem X5_goBack_eq (n : Nat) {S : aSt} {h C Q T : Nat} {L : Nat → Nat → Nat} (H : CX S h C Q T L) {m : Nat} (hm : m < T) : F_X5_goBack n S (h + 7) (nI m) = some (nI (T - m), xUd S (h + 7) m) := by
  have eT : S.1 (h + 7) 6 = nI T := H.2.2.2.1.2.2.2.2.1
  have hT := H.2.2.2.2.2.2.1
  have e7 : nI m * (7 : Int32) = nI (m * 7) := pk_mul m 7
  have c7 : (nI (m * 7)).toNatClampNeg = m * 7 := nI_clamp (by omega)
  have hcp : cpok (nI (m * 7)) (0 : Int32) (7 : Int32) 280 7 = true := by
    simp only [cpok, c7, show (0 : Int32).toNatClampNeg = 0 from rfl, show (7 : Int32).toNatClampNeg = 7 from rfl, nI_pos (show m * 7 < 2 ^ 31 by omega), decide_false, Bool.not_false, Bool.true_and, Bool.and_true, show (decide ((0 : Int32) < 0)) = false by decide, show (decide ((7 : Int32) < 0)) = false by decide, Bool.and_eq_true, decide_eq_true_eq]
    omega
  unfold F_X5_goBack
  rw [if_neg (nI_pos (by omega)), eT, if_pos (nI_lt hm (by omega))]
  simp only [nmE, jnE, bn2S, bndS, grdT, stI_22, stL_22, stRow_22, H.s5, H.s3, rfdS (tgs6 H.1), rfdS (tgs4 H.1), sgs6 H.1, sgs4 H.1, e7, hcp, c7, show (0 : Int32).toNatClampNeg = 0 from rfl, show (7 : Int32).toNatClampNeg = 7 from rfl, pk_sub (show m ≤ T by omega)]
  rfl
theorem X7_undo_loop (n : Nat) (hn : 10 < n) {S : aSt} (hM : RfM S) {m : Nat} (hm : m < 40) (v : Int32) (hv : ¬ v ≤ 0) (K : aSt → Option (Int32 × aSt)) : F_X7_undo_L29 82 (nI m) v K n 0 S = K (stRow S 87 (va_cpy (S.1 87) (S.1 87) (113 + 7 * m) 66 7)) := by
  have hM1 : S.2.2 82 = HRm := hM
  have key := lp_eq (fun fu a i => F_X7_undo_L29 82 (nI m) v K fu i a) K (fun k => stRow S 87 (va_cpy (S.1 87) (S.1 87) (113 + 7 * m) 66 k)) 7
    (fun fu => by
      show F_X7_undo_L29 _ _ _ _ (fu + 1) _ _ = _
      rw [F_X7_undo_L29, if_pos (show (7 : Int32) ≤ nI 7 by decide)])
    (fun fu k hk => by
      show F_X7_undo_L29 _ _ _ _ (fu + 1) _ _ = F_X7_undo_L29 _ _ _ _ fu _ _
      have g66 : (66 : Int32) + nI k = nI (66 + k) := nI_add 66 k
      have g113 : (113 : Int32) + (7 : Int32) * nI m + nI k = nI (113 + 7 * m + k) := by rw [li_113, li_7, pk_mul, nI_add, nI_add]
      rw [F_X7_undo_L29, if_neg (li_9' k hk), if_neg hv]
      simp only [nmE, jnE, bn2S, bndS, grdT, stI_22, stL_22, stRow_22, HRm, rfdS T_83, rfdS T_84, rfdS T_85, rfdS T_86, rfdS T_87, rfdS T_88, rfdS T_89, rfdS T_90, rfdS T_91, rfdS T_92, rfdS T_93, rfdS T_94, rfdS T_95, rfdS T_96, SZ_83, SZ_84, SZ_85, SZ_86, SZ_87, SZ_88, SZ_89, SZ_90, SZ_91, SZ_92, SZ_93, SZ_94, SZ_95, SZ_96, hM1, g66, g113, inb_nI (show 66 + k < 393 by omega) (by decide), inb_nI (show 113 + 7 * m + k < 393 by omega) (by decide), nI_clamp (show 66 + k < 2 ^ 31 by omega), nI_clamp (show 113 + 7 * m + k < 2 ^ 31 by omega), stI_stRow, stRow_self, nI_1]
      congr 2
      funext x
      unfold upd va_cpy
      by_cases hx : x = 66 + k
      · subst hx
        rw [if_pos rfl, if_neg (by omega), if_pos (by omega)]
        exact congrArg (S.1 87) (by omega)
      · rw [if_neg hx]
        by_cases h2 : 66 ≤ x ∧ x < 66 + k
        · rw [if_pos h2, if_pos (by omega)]
        · rw [if_neg h2, if_neg (by omega)]) 7 0 n (by omega) (by omega)
  have z : va_cpy (S.1 87) (S.1 87) (113 + 7 * m) 66 0 = S.1 87 := by
    funext x
    unfold va_cpy
    rw [if_neg (by omega)]
  simp only [z, stRow_id] at key
  exact key
theorem op_undo (n : Nat) (hn : 100 < n) {S : aSt} (H : OK S) (m : Int32) : Both S (F_X6_undo n S 0 m) (fun S1 => F_X7_undo n S1 82 m) := by
  obtain ⟨h, d, C, Q, T, L, hX, hM, hCX, hCM, hk⟩ := H.get
  have hh := hCX.1
  have hC := hCM.2.2.1
  have hQ := hCM.2.2.2.1
  have hT := hCM.2.2.2.2.1
  have eT : S.1 (h + 7) 6 = nI T := hCX.2.2.2.1.2.2.2.2.1
  have e5 := fun S' => X7_in_i n S' m 0 (nI T)
  have z0 : (0 : Int32).toInt = 0 := rfl
  have zT := nI_toInt (n := T) (by omega)
  by_cases hm : 0 ≤ m.toInt ∧ m.toInt ≤ T
  rotate_left
  · refine Both.same H (-1) ?_ ?_
    · unfold F_X6_undo
      by_cases h0 : m < 0
      · rw [if_pos h0]
      · rw [if_neg h0]
        simp only [nmE, jnE, bn2S, bndS, grdT, stI_22, stL_22, stRow_22, X0_here hX, hCX.r6, rfdS (tg7 hh), eT]
        rw [if_neg]
        rw [Int32.le_iff_toInt_le, zT]
        rw [lt0] at h0
        omega
    · unfold F_X7_undo
      rw [show (0 : Int64) = (0 : Int32).toInt64 from rfl]
      simp only [nmE, jnE, bn2S, bndS, grdT, stI_22, stL_22, stRow_22, HRm, rfdS T_83, rfdS T_84, rfdS T_85, rfdS T_86, rfdS T_87, rfdS T_88, rfdS T_89, rfdS T_90, rfdS T_91, rfdS T_92, rfdS T_93, rfdS T_94, rfdS T_95, rfdS T_96, SZ_83, SZ_84, SZ_85, SZ_86, SZ_87, SZ_88, SZ_89, SZ_90, SZ_91, SZ_92, SZ_93, SZ_94, SZ_95, SZ_96, hCM.1, in2, hCM.v2, e5, z0, zT, if_neg hm, reduceIte, Bool.false_eq_true, one_ne0]
  obtain ⟨m, hm31, rfl, em⟩ := i32_of hm.1
  have hmT : m ≤ T := by omega
  have mle : nI m ≤ nI T := nI_le hmT (by omega)
  by_cases hmt : m < T
  · have hM1 : RfM (xUd S (h + 7) m) := hM
    have hCM0 : CM (xUd S (h + 7) m) C Q T L := hCM.congr rfl (by unfold xUd; rw [stI_ne (by omega), stRow_ne (by omega)])
    refine ⟨nI (T - m), xUd S (h + 7) m, mUd (xUd S (h + 7) m) m, ?_, ?_, ?_⟩
    · unfold F_X6_undo
      rw [if_neg (nI_pos hm31)]
      simp only [nmE, jnE, bn2S, bndS, grdT, stI_22, stL_22, stRow_22, X0_here hX, hCX.r6, rfdS (tg7 hh), eT, if_pos mle, X5_goBack_eq n hCX hmt]
    · show F_X7_undo n (xUd S (h + 7) m) 82 (nI m) = _
      unfold F_X7_undo
      rw [show (0 : Int64) = (0 : Int32).toInt64 from rfl]
      simp only [nmE, jnE, bn2S, bndS, grdT, stI_22, stL_22, stRow_22, HRm, rfdS T_83, rfdS T_84, rfdS T_85, rfdS T_86, rfdS T_87, rfdS T_88, rfdS T_89, rfdS T_90, rfdS T_91, rfdS T_92, rfdS T_93, rfdS T_94, rfdS T_95, rfdS T_96, SZ_83, SZ_84, SZ_85, SZ_86, SZ_87, SZ_88, SZ_89, SZ_90, SZ_91, SZ_92, SZ_93, SZ_94, SZ_95, SZ_96, hCM0.1, in2, hCM0.v2, e5, z0, zT, if_pos hm, reduceIte, Bool.false_eq_true, one_ne0, pk_sub hmT]
      rw [X7_undo_loop n (by omega) hM1 (by omega) _ (nI_nle (by omega) (by omega))]
      simp only [nmE, jnE, bn2S, bndS, grdT, stI_22, stL_22, stRow_22, HRm, rfdS T_83, rfdS T_84, rfdS T_85, rfdS T_86, rfdS T_87, rfdS T_88, rfdS T_89, rfdS T_90, rfdS T_91, rfdS T_92, rfdS T_93, rfdS T_94, rfdS T_95, rfdS T_96, SZ_83, SZ_84, SZ_85, SZ_86, SZ_87, SZ_88, SZ_89, SZ_90, SZ_91, SZ_92, SZ_93, SZ_94, SZ_95, SZ_96, hCM0.1, in2, show (2 : Int32).toNatClampNeg = 2 from rfl, stI_stRow]
      rfl
    · refine H.lib (T' := m) (L' := ud L m) hX hk rfl rfl (fun k a b => ?_) (hCM.2.2.undo hmt) ?_ ?_ (fun i => ⟨ud_o (by decide), ud_o (by decide), ud_o (by decide), ud_o (by decide), ud_o (by decide), ud_o (by decide)⟩)
      · unfold mUd xUd
        rw [stRow_ne b, stI_ne (by omega), stRow_ne (by omega)]
      · have oth : ∀ k, k < h + 7 → (mUd (xUd S (h + 7) m) m).1 k = S.1 k := fun k hk => by
          unfold mUd xUd
          rw [stRow_ne (by omega), stI_ne (by omega), stRow_ne (by omega)]
        obtain ⟨a1, a2, a3, a4, a5⟩ := hCX.2.2.2.1
        refine ⟨?_, ?_, fun b hb => ⟨?_, ?_⟩, fun b hb => ⟨?_, ?_, ?_, ?_⟩, (a5.undo hmt).congr (fun k a b => by unfold mUd; rw [stRow_ne (by omega)])⟩
        · rw [oth _ (by omega)]; exact a1
        · rw [oth _ (by omega)]; exact a2
        · rw [oth _ (by omega), ud_o (by decide)]; exact (a3 b hb).1
        · rw [oth _ (by omega), ud_o (by decide)]; exact (a3 b hb).2
        · rw [oth _ (by omega), ud_o (by decide)]; exact (a4 b hb).1
        · rw [oth _ (by omega), ud_o (by decide)]; exact (a4 b hb).2.1
        · rw [oth _ (by omega), ud_o (by decide)]; exact (a4 b hb).2.2.1
        · rw [oth _ (by omega), ud_o (by decide)]; exact (a4 b hb).2.2.2
      · unfold mUd
        rw [stRow_self, show (xUd S (h + 7) m).1 87 = S.1 87 by unfold xUd; rw [stI_ne (by omega), stRow_ne (by omega)]]
        exact PM.undo hC hQ hT hCM.2.1 hmt
  · have : m = T := by omega
    subst this
    refine ⟨0, S, stI S 87 2 (nI m), ?_, ?_, ?_⟩
    · unfold F_X6_undo F_X5_goBack
      rw [if_neg (nI_pos hm31)]
      simp only [nmE, jnE, bn2S, bndS, grdT, stI_22, stL_22, stRow_22, X0_here hX, hCX.r6, rfdS (tg7 hh), eT, if_pos mle, if_neg (nI_pos hm31), if_neg (nI_nlt (Nat.le_refl m) (show m < 2 ^ 31 by omega))]
    · show F_X7_undo n S 82 (nI m) = _
      unfold F_X7_undo
      rw [show (0 : Int64) = (0 : Int32).toInt64 from rfl]
      have e6 : F_X7_in n S (nI m).toInt64 (0 : Int32).toInt64 (nI m).toInt64 = some 1 := by rw [e5, if_pos ⟨by rw [z0, em]; omega, by omega⟩]
      simp only [nmE, jnE, bn2S, bndS, grdT, stI_22, stL_22, stRow_22, HRm, rfdS T_83, rfdS T_84, rfdS T_85, rfdS T_86, rfdS T_87, rfdS T_88, rfdS T_89, rfdS T_90, rfdS T_91, rfdS T_92, rfdS T_93, rfdS T_94, rfdS T_95, rfdS T_96, SZ_83, SZ_84, SZ_85, SZ_86, SZ_87, SZ_88, SZ_89, SZ_90, SZ_91, SZ_92, SZ_93, SZ_94, SZ_95, SZ_96, hCM.1, in2, hCM.v2, e6, reduceIte, Bool.false_eq_true, one_ne0, pk_sub (Nat.le_refl m), Nat.sub_self]
      obtain ⟨n', rfl⟩ : ∃ k, n = k + 1 := ⟨n - 1, by omega⟩
      rw [F_X7_undo_L29, if_neg (show ¬ (7 : Int32) ≤ 0 by decide), if_pos (show nI 0 ≤ (0 : Int32) by decide)]
      simp only [nmE, jnE, bn2S, bndS, grdT, stI_22, stL_22, stRow_22, HRm, rfdS T_83, rfdS T_84, rfdS T_85, rfdS T_86, rfdS T_87, rfdS T_88, rfdS T_89, rfdS T_90, rfdS T_91, rfdS T_92, rfdS T_93, rfdS T_94, rfdS T_95, rfdS T_96, SZ_83, SZ_84, SZ_85, SZ_86, SZ_87, SZ_88, SZ_89, SZ_90, SZ_91, SZ_92, SZ_93, SZ_94, SZ_95, SZ_96, hCM.1, in2, show (2 : Int32).toNatClampNeg = 2 from rfl]
      rfl
    · have : stI S 87 2 (nI m) = S := by
        rw [stI_row]
        have e : upd (S.1 87) 2 (nI m) = S.1 87 := fa_upd_same hCM.2.1.2.2.1
        rw [e, stRow_id]
      rw [this]
      exact H
theorem vd_lt (L : Nat → Nat → Nat) (q : Nat) : vd L q < 3 := by
  unfold vd
  by_cases h1 : L 8 q = 99
  · rw [if_pos h1]; omega
  · rw [if_neg h1]
    by_cases h2 : me L (L 9 q) = L 8 q
    · rw [if_pos h2]; omega
    · rw [if_neg h2]; omega
section Lib6
variable {S : aSt} {h C Q T : Nat} {L : Nat → Nat → Nat}
theorem X1_answeredWith_eq (n : Nat) (hn : 10 < n) (H : CX S h C Q T L) {w : Nat} (hw : w < 2) : F_X1_answeredWith n S h (nI w) = some (nI (fb_ct (fun q => decide (L 9 q ≠ 99 ∧ vd L q = w)) Q)) := by
  have hQ := H.2.2.2.2.2.1
  unfold F_X1_answeredWith
  simp only [jnE]
  refine lp_ct (fun fu a i => F_X1_answeredWith_L4 n S h (nI w) (fun x => some x) fu a i) (fun x => some x) _ Q n (by omega) (fun fu a => ?_) (fun fu q a hq => ?_)
  · show F_X1_answeredWith_L4 _ _ _ _ _ (fu + 1) _ _ = _
    rw [F_X1_answeredWith_L4, H.2.2.2.1.2.1, if_pos (Int32.le_refl _)]
  · show F_X1_answeredWith_L4 _ _ _ _ _ (fu + 1) _ _ = F_X1_answeredWith_L4 _ _ _ _ _ fu _ _
    rw [F_X1_answeredWith_L4, H.2.2.2.1.2.1, if_neg (nI_ge hq (by omega))]
    simp only [nmE, jnE, bn2S, bndS, grdT, stI_22, stL_22, stRow_22, X1_verdict_eq n H hq, nI_1, decide_eq_true_eq]
    have hv : vd L q < 3 := vd_lt L q
    by_cases k : L 9 q = 99
    · rw [if_pos k, if_neg (fun z => by have := (nI_eq (a := 2) (b := w) (by decide) (by omega)).mp z; omega), if_neg (fun z => z.1 k)]
    · rw [if_neg k]
      by_cases k2 : vd L q = w
      · rw [if_pos (by rw [k2]), if_pos ⟨k, k2⟩]
      · rw [if_neg (fun z => k2 ((nI_eq (by omega) (by omega)).mp z)), if_neg (fun z => k2 z.2)]
theorem X7_standing_eq (n : Nat) (hn : 10 < n) (H : CM S C Q T L) {w : Nat} (hw : w < 2) : F_X7_standing n S 82 (nI w) = some (nI (fb_ct (fun q => decide (L 9 q ≠ 99 ∧ vd L q = w)) Q)) := by
  have hQ := H.2.2.2.1
  unfold F_X7_standing
  simp only [jnE]
  refine lp_ct (fun fu a i => F_X7_standing_L4 n S 82 (nI w) (fun x => some x) fu a i) (fun x => some x) _ Q n (by omega) (fun fu a => ?_) (fun fu q a hq => ?_)
  · show F_X7_standing_L4 _ _ _ _ _ (fu + 1) _ _ = _
    rw [F_X7_standing_L4]
    simp only [nmE, jnE, bn2S, bndS, grdT, stI_22, stL_22, stRow_22, HRm, rfdS T_83, rfdS T_84, rfdS T_85, rfdS T_86, rfdS T_87, rfdS T_88, rfdS T_89, rfdS T_90, rfdS T_91, rfdS T_92, rfdS T_93, rfdS T_94, rfdS T_95, rfdS T_96, SZ_83, SZ_84, SZ_85, SZ_86, SZ_87, SZ_88, SZ_89, SZ_90, SZ_91, SZ_92, SZ_93, SZ_94, SZ_95, SZ_96, H.1, in1, H.v1]
    rw [if_pos (Int32.le_refl _)]
  · show F_X7_standing_L4 _ _ _ _ _ (fu + 1) _ _ = F_X7_standing_L4 _ _ _ _ _ fu _ _
    rw [F_X7_standing_L4]
    simp only [nmE, jnE, bn2S, bndS, grdT, stI_22, stL_22, stRow_22, HRm, rfdS T_83, rfdS T_84, rfdS T_85, rfdS T_86, rfdS T_87, rfdS T_88, rfdS T_89, rfdS T_90, rfdS T_91, rfdS T_92, rfdS T_93, rfdS T_94, rfdS T_95, rfdS T_96, SZ_83, SZ_84, SZ_85, SZ_86, SZ_87, SZ_88, SZ_89, SZ_90, SZ_91, SZ_92, SZ_93, SZ_94, SZ_95, SZ_96, H.1, in1, H.v1]
    rw [if_neg (nI_ge hq (by omega))]
    have hv : vd L q < 3 := vd_lt L q
    simp only [nmE, jnE, bn2S, bndS, grdT, stI_22, stL_22, stRow_22, X7_isFree_eq n H (show q < Q by omega), if10', nI_1, decide_eq_true_eq, show ∀ a : Int32, a + 0 = a by simp]
    by_cases k : L 9 q = 99
    · rw [if_pos k, if_neg (fun z => z.1 k)]
    · rw [if_neg k]
      simp only [nmE, jnE, bn2S, bndS, grdT, stI_22, stL_22, stRow_22, X7_stands_eq n H hq k]
      by_cases k2 : vd L q = w
      · rw [if_pos (by rw [k2]), if_pos ⟨k, k2⟩]
      · rw [if_neg (fun z => k2 ((nI_eq (by omega) (by omega)).mp z)), if_neg (fun z => k2 z.2)]
end Lib6
theorem op_right (n : Nat) (hn : 100 < n) {S : aSt} (H : OK S) : Both S (F_X6_right n S 0) (fun S1 => F_X7_right n S1 82) := by
  obtain ⟨h, d, C, Q, T, L, hX, hM, hCX, hCM, hk⟩ := H.get
  have hh := hCX.1
  refine Both.tell H (nI (fb_ct (fun q => decide (L 9 q ≠ 99 ∧ vd L q = 0)) Q)) (nI (fb_ct (fun q => decide (L 9 q ≠ 99 ∧ vd L q = 1)) Q)) ?_ ?_
  · generalize hv : nI (fb_ct (fun q => decide (L 9 q ≠ 99 ∧ vd L q = 0)) Q) = v
    have hX1 : RfX (xTell S v) h d := hX
    have hCX1 : CX (xTell S v) h C Q T L := hCX.congr rfl (fun k a b => xTell_m (by omega))
    have e0 : F_X1_answeredWith n S h 0 = some v := by rw [← hv]; exact X1_answeredWith_eq n (by omega) hCX (w := 0) (by decide)
    have e1 := X1_answeredWith_eq n (by omega) hCX1 (w := 1) (by decide)
    unfold F_X6_right
    simp only [nmE, jnE, bn2S, bndS, grdT, stI_22, stL_22, stRow_22, X0_here hX, e0]
    show (F_X1_answeredWith n (xTell S v) h (nI 1)).bind _ = _
    rw [e1]
    rfl
  · generalize hv : nI (fb_ct (fun q => decide (L 9 q ≠ 99 ∧ vd L q = 0)) Q) = v
    have hCM1 : CM (xTell S v) C Q T L := hCM.congr rfl (xTell_m (by decide))
    have hCM2 : CM (mTell (xTell S v) v) C Q T L := hCM1.congr rfl (by unfold mTell; rw [stI_ne (by omega)])
    have e0 : F_X7_standing n (xTell S v) 82 0 = some v := (X7_standing_eq n (by omega) hCM1 (w := 0) (by decide)).trans (by rw [hv])
    have e1 := X7_standing_eq n (by omega) hCM2 (w := 1) (by decide)
    show F_X7_right n (xTell S v) 82 = _
    unfold F_X7_right
    simp only [nmE, jnE, bn2S, bndS, grdT, stI_22, stL_22, stRow_22, e0, X7_tell_eq]
    show (F_X7_standing n (mTell (xTell S v) v) 82 (nI 1)).bind _ = _
    rw [e1]
    rfl
