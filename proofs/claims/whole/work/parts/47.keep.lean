/-! keep, on. -/
theorem cp0 {f g : Nat → Int32} {m j : Nat} (h : j < m) : va_cpy f g 0 0 m j = f j := sb_cpy0 h
def xBc (S : aSt) (a b : Nat) : aSt := stI (stRow (stRow (stRow (stRow (stRow (stRow S (a + 1) (va_cpy (S.1 (b + 1)) (S.1 (a + 1)) 0 0 7)) (a + 2) (va_cpy (S.1 (b + 2)) (S.1 (a + 2)) 0 0 7)) (a + 3) (va_cpy (S.1 (b + 3)) (S.1 (a + 3)) 0 0 7)) (a + 4) (va_cpy (S.1 (b + 4)) (S.1 (a + 4)) 0 0 7)) (a + 5) (va_cpy (S.1 (b + 5)) (S.1 (a + 5)) 0 0 40)) (a + 6) (va_cpy (S.1 (b + 6)) (S.1 (a + 6)) 0 0 280)) a 6 (S.1 b 6)
/-- a Standing: its cells -/
def isS (s : Nat) : Prop := s = 20 ∨ s = 34 ∨ s = 61 ∨ s = 68 ∨ s = 75
theorem isS_t {s : Nat} (H : isS s) : isT s 4 = true ∧ isT (s + 1) 7 = true ∧ isT (s + 2) 7 = true ∧ isT (s + 3) 7 = true ∧ isT (s + 4) 7 = true ∧ isT (s + 5) 7 = true ∧ isT (s + 6) 7 = true := by
  rcases H with rfl | rfl | rfl | rfl | rfl <;> decide +kernel
theorem isS_z {s : Nat} (H : isS s) : (SH (s + 1)).2 = 7 ∧ (SH (s + 2)).2 = 7 ∧ (SH (s + 3)).2 = 7 ∧ (SH (s + 4)).2 = 7 ∧ (SH (s + 5)).2 = 40 ∧ (SH (s + 6)).2 = 280 := by
  rcases H with rfl | rfl | rfl | rfl | rfl <;> decide +kernel
theorem HRn6 {S : aSt} {s : Nat} (hr : S.2.2 s = HRn s 6) : S.2.2 s 0 = some (s + 1) ∧ S.2.2 s 1 = some (s + 2) ∧ S.2.2 s 2 = some (s + 3) ∧ S.2.2 s 3 = some (s + 4) ∧ S.2.2 s 4 = some (s + 5) ∧ S.2.2 s 5 = some (s + 6) := by
  rw [hr]
  simp [HRn, Nat.add_assoc]
theorem X5_become_eq (n : Nat) {S : aSt} {a b : Nat} (ha : isS a) (hb : isS b) (hab : a + 7 ≤ b ∨ b + 7 ≤ a) (ra : S.2.2 a = HRn a 6) (rb : S.2.2 b = HRn b 6) : F_X5_become n S a b = some (xBc S a b) := by
  obtain ⟨p0, p1, p2, p3, p4, p5⟩ := HRn6 ra
  obtain ⟨q0, q1, q2, q3, q4, q5⟩ := HRn6 rb
  obtain ⟨-, t1, t2, t3, t4, t5, t6⟩ := isS_t ha
  obtain ⟨-, u1, u2, u3, u4, u5, u6⟩ := isS_t hb
  obtain ⟨z1, z2, z3, z4, z5, z6⟩ := isS_z ha
  obtain ⟨y1, y2, y3, y4, y5, y6⟩ := isS_z hb
  have c7 : cpok (0 : Int32) (0 : Int32) (7 : Int32) 7 7 = true := by decide
  have c40 : cpok (0 : Int32) (0 : Int32) (40 : Int32) 40 40 = true := by decide
  have c280 : cpok (0 : Int32) (0 : Int32) (280 : Int32) 280 280 = true := by decide
  unfold F_X5_become xBc
  simp only [nmE, jnE, bn2S, bndS, grdT, stI_22, stL_22, stRow_22, p0, p1, p2, p3, p4, p5, q0, q1, q2, q3, q4, q5, rfdS t1, rfdS t2, rfdS t3, rfdS t4, rfdS t5, rfdS t6, rfdS u1, rfdS u2, rfdS u3, rfdS u4, rfdS u5, rfdS u6, z1, z2, z3, z4, z5, z6, y1, y2, y3, y4, y5, y6, c7, c40, c280, show (0 : Int32).toNatClampNeg = 0 from rfl, show (7 : Int32).toNatClampNeg = 7 from rfl, show (40 : Int32).toNatClampNeg = 40 from rfl, show (280 : Int32).toNatClampNeg = 280 from rfl]
  simp only [stRow_ne (S := _) (show a + 2 ≠ a + 1 by omega), stRow_ne (show a + 3 ≠ a + 1 by omega), stRow_ne (show a + 3 ≠ a + 2 by omega), stRow_ne (show a + 4 ≠ a + 1 by omega), stRow_ne (show a + 4 ≠ a + 2 by omega), stRow_ne (show a + 4 ≠ a + 3 by omega), stRow_ne (show a + 5 ≠ a + 1 by omega), stRow_ne (show a + 5 ≠ a + 2 by omega), stRow_ne (show a + 5 ≠ a + 3 by omega), stRow_ne (show a + 5 ≠ a + 4 by omega), stRow_ne (show a + 6 ≠ a + 1 by omega), stRow_ne (show a + 6 ≠ a + 2 by omega), stRow_ne (show a + 6 ≠ a + 3 by omega), stRow_ne (show a + 6 ≠ a + 4 by omega), stRow_ne (show a + 6 ≠ a + 5 by omega),
    stRow_ne (show b + 2 ≠ a + 1 by omega), stRow_ne (show b + 3 ≠ a + 1 by omega), stRow_ne (show b + 3 ≠ a + 2 by omega), stRow_ne (show b + 4 ≠ a + 1 by omega), stRow_ne (show b + 4 ≠ a + 2 by omega), stRow_ne (show b + 4 ≠ a + 3 by omega), stRow_ne (show b + 5 ≠ a + 1 by omega), stRow_ne (show b + 5 ≠ a + 2 by omega), stRow_ne (show b + 5 ≠ a + 3 by omega), stRow_ne (show b + 5 ≠ a + 4 by omega), stRow_ne (show b + 6 ≠ a + 1 by omega), stRow_ne (show b + 6 ≠ a + 2 by omega), stRow_ne (show b + 6 ≠ a + 3 by omega), stRow_ne (show b + 6 ≠ a + 4 by omega), stRow_ne (show b + 6 ≠ a + 5 by omega), stRow_ne (show b ≠ a + 1 by omega), stRow_ne (show b ≠ a + 2 by omega), stRow_ne (show b ≠ a + 3 by omega), stRow_ne (show b ≠ a + 4 by omega), stRow_ne (show b ≠ a + 5 by omega), stRow_ne (show b ≠ a + 6 by omega)]
theorem xBc_o {S : aSt} {a b k : Nat} (h : k < a ∨ a + 6 < k) : (xBc S a b).1 k = S.1 k := by
  unfold xBc
  rw [stI_ne (by omega), stRow_ne (by omega), stRow_ne (by omega), stRow_ne (by omega), stRow_ne (by omega), stRow_ne (by omega), stRow_ne (by omega)]
theorem PS.bc {S : aSt} {a b C Q T : Nat} {L : Nat → Nat → Nat} (H : PS S b C Q T L) (hC : C ≤ 7) (hQ : Q ≤ 7) (hT : T ≤ 40) : PS (xBc S a b) a C Q T L := by
  obtain ⟨h1, h2, h3, h4, h5⟩ := H
  unfold xBc
  refine ⟨?_, fun i hi => ⟨?_, ?_⟩, fun i hi => ?_, fun i hi => ?_, fun t ht => ⟨?_, fun i hi => ?_⟩⟩
  · rw [stI_self, pk_us]; exact h1
  · rw [stI_ne (by omega), stRow_ne (by omega), stRow_ne (by omega), stRow_ne (by omega), stRow_ne (by omega), stRow_ne (by omega), stRow_self, cp0 (by omega)]; exact (h2 i hi).1
  · rw [stI_ne (by omega), stRow_ne (by omega), stRow_ne (by omega), stRow_ne (by omega), stRow_ne (by omega), stRow_self, cp0 (by omega)]; exact (h2 i hi).2
  · rw [stI_ne (by omega), stRow_ne (by omega), stRow_ne (by omega), stRow_ne (by omega), stRow_self, cp0 (by omega)]; exact h3 i hi
  · rw [stI_ne (by omega), stRow_ne (by omega), stRow_ne (by omega), stRow_self, cp0 (by omega)]; exact h4 i hi
  · rw [stI_ne (by omega), stRow_ne (by omega), stRow_self, cp0 (by omega)]; exact (h5 t ht).1
  · rw [stI_ne (by omega), stRow_self, cp0 (by omega)]; exact (h5 t ht).2 i hi
/-- the reference's copies: another row, 393 places -/
theorem X7_copies_eq (n : Nat) (hn : 400 < n) (S : aSt) {a b i j : Nat} {A B : Nat} (hA : (SH a).2 = A) (hB : (SH b).2 = B) (hi : i + 393 ≤ A) (hj : j + 393 ≤ B) (hA' : A < 2 ^ 31) (hB' : B < 2 ^ 31) (hab : a ≠ b) : F_X7_copies n S a (nI i) b (nI j) = some (stRow S b (va_cpy (S.1 a) (S.1 b) i j 393)) := by
  unfold F_X7_copies
  simp only [jnE]
  have key := lp_eq (fun fu s x => F_X7_copies_L3 a (nI i) b (nI j) (fun x => some x) fu x s) (fun x => some x) (fun k => stRow S b (va_cpy (S.1 a) (S.1 b) i j k)) 393
    (fun fu => by
      show F_X7_copies_L3 _ _ _ _ _ (fu + 1) _ _ = _
      rw [F_X7_copies_L3, if_pos (show (393 : Int32) ≤ nI 393 by decide)])
    (fun fu k hk => by
      show F_X7_copies_L3 _ _ _ _ _ (fu + 1) _ _ = F_X7_copies_L3 _ _ _ _ _ fu _ _
      rw [F_X7_copies_L3, if_neg (show ¬ (393 : Int32) ≤ nI k from nI_ge (b := 393) hk (by decide))]
      simp only [nmE, jnE, bn2S, bndS, grdT, stI_22, stL_22, stRow_22, hA, hB, nI_add, inb_nI (show i + k < A by omega) hA', inb_nI (show j + k < B by omega) hB', nI_clamp (show i + k < 2 ^ 31 by omega), nI_clamp (show j + k < 2 ^ 31 by omega), stI_stRow, stRow_ne hab, nI_1]
      congr 2
      funext x
      unfold upd va_cpy
      by_cases hx : x = j + k
      · subst hx
        rw [if_pos rfl, if_pos (by omega)]
        exact congrArg (S.1 a) (by omega)
      · rw [if_neg hx]
        by_cases h2 : j ≤ x ∧ x < j + k
        · rw [if_pos h2, if_pos (by omega)]
        · rw [if_neg h2, if_neg (by omega)]) 393 0 n (by omega) (by omega)
  have z : va_cpy (S.1 a) (S.1 b) i j 0 = S.1 b := by
    funext x
    unfold va_cpy
    rw [if_neg (by omega)]
  simp only [z, stRow_id] at key
  exact key
theorem PM.ext {v w : Nat → Int32} {C Q T : Nat} {L : Nat → Nat → Nat} (hC : C ≤ 7) (hQ : Q ≤ 7) (hT : T ≤ 40) (H : PM v C Q T L) (e : ∀ k, k < 393 → w k = v k) : PM w C Q T L := by
  obtain ⟨h1, h2, h3, h4, h5, h6, h7⟩ := H
  refine ⟨?_, ?_, ?_, fun b hb => ⟨?_, ?_, ?_, ?_⟩, fun b hb => ⟨?_, ?_, ?_, ?_, ?_⟩, fun b hb h0 => ?_, fun t ht => ⟨?_, fun b hb => ?_⟩⟩
  · rw [e _ (by omega)]; exact h1
  · rw [e _ (by omega)]; exact h2
  · rw [e _ (by omega)]; exact h3
  · rw [e _ (by omega)]; exact (h4 b hb).1
  · rw [e _ (by omega)]; exact (h4 b hb).2.1
  · rw [e _ (by omega)]; exact (h4 b hb).2.2.1
  · rw [e _ (by omega)]; exact (h4 b hb).2.2.2
  · rw [e _ (by omega)]; exact (h5 b hb).1
  · rw [e _ (by omega)]; exact (h5 b hb).2.1
  · rw [e _ (by omega)]; exact (h5 b hb).2.2.1
  · rw [e _ (by omega)]; exact (h5 b hb).2.2.2.1
  · rw [e _ (by omega)]; exact (h5 b hb).2.2.2.2
  · rw [e _ (by omega)]; exact h6 b hb h0
  · rw [e _ (by omega)]; exact (h7 t ht).1
  · rw [e _ (by omega)]; exact (h7 t ht).2 b hb
theorem xkept {S : aSt} {h d k : Nat} (H : RfX S h d) (hk : k < 3) : S.2.2 3 k = some (61 + 7 * k) ∧ S.2.2 (61 + 7 * k) = HRn (61 + 7 * k) 6 ∧ isS (61 + 7 * k) := by
  refine ⟨?_, H.2.2.2.2.2.2.2.2.2 k hk, ?_⟩
  · rw [H.2.2.2.2.1]; simp [HRs, hk]
  · obtain rfl | rfl | rfl : k = 0 ∨ k = 1 ∨ k = 2 := by omega
    · right; right; left; rfl
    · right; right; right; left; rfl
    · right; right; right; right; rfl
theorem isS_h {h : Nat} (H : h = 13 ∨ h = 27) : isS (h + 7) := by
  rcases H with rfl | rfl
  · left; rfl
  · right; left; rfl
set_option maxRecDepth 4000 in
theorem op_keep (n : Nat) (hn : 400 < n) {S : aSt} (H : OK S) (k : Int32) : Both S (F_X6_keep n S 0 k) (fun S1 => F_X7_keep n S1 82 k) := by
  obtain ⟨h, d, C, Q, T, L, hX, hM, hCX, hCM, hk⟩ := H.get
  have hh := hCX.1
  have hC := hCM.2.2.1
  have hQ := hCM.2.2.2.1
  have hT := hCM.2.2.2.2.1
  have eT : S.1 (h + 7) 6 = nI T := hCX.2.2.2.1.2.2.2.2.1
  have e5 := fun S' => X7_in_sz n S' k (m := 3) (by decide)
  by_cases hkk : inb k 3 = true
  rotate_left
  · refine Both.same H (-1) ?_ ?_
    · unfold F_X6_keep
      simp only [X6_isPlaceKept_eq, bndS, if10', reduceIte, Bool.false_eq_true, one_ne0, if_neg hkk]
    · unfold F_X7_keep
      rw [show (2 : Int64) = (nI 3 - 1).toInt64 from rfl]
      simp only [e5, bndS, if10', reduceIte, Bool.false_eq_true, one_ne0, if_neg hkk]
  obtain ⟨k, hk3, rfl⟩ := inb_ex hkk (by decide)
  have hck : (nI k).toNatClampNeg = k := nI_clamp (by omega)
  by_cases h0 : C = 0
  · refine Both.same H (-4) ?_ ?_
    · unfold F_X6_keep
      simp only [X6_isPlaceKept_eq, bndS, if10', reduceIte, Bool.false_eq_true, one_ne0, if_pos hkk, X0_here hX, hCX.2.2.2.1.1, h0, show nI 0 = 0 from rfl]
    · unfold F_X7_keep
      rw [show (2 : Int64) = (nI 3 - 1).toInt64 from rfl]
      simp only [nmE, jnE, bn2S, bndS, grdT, stI_22, stL_22, stRow_22, HRm, rfdS T_83, rfdS T_84, rfdS T_85, rfdS T_86, rfdS T_87, rfdS T_88, rfdS T_89, rfdS T_90, rfdS T_91, rfdS T_92, rfdS T_93, rfdS T_94, rfdS T_95, rfdS T_96, SZ_83, SZ_84, SZ_85, SZ_86, SZ_87, SZ_88, SZ_89, SZ_90, SZ_91, SZ_92, SZ_93, SZ_94, SZ_95, SZ_96, e5, if10', reduceIte, Bool.false_eq_true, one_ne0, if_pos hkk, hCM.1, in0, hCM.v0, h0, show nI 0 = 0 from rfl]
  obtain ⟨x1, x2, x3⟩ := xkept hX hk3
  have nC : ¬ nI C = 0 := nI_ne0 (by omega) (by omega)
  have e393 : (393 : Int32) * nI k = nI (393 * k) := pk_mul 393 k
  have nb : vp_nar .boolean (1 : Int32) = 1 := rfl
  have f87 : (xBc S (61 + 7 * k) (h + 7)).1 87 = S.1 87 := xBc_o (by omega)
  have f88 : (xBc S (61 + 7 * k) (h + 7)).1 88 = S.1 88 := xBc_o (by omega)
  refine ⟨nI T, xBc S (61 + 7 * k) (h + 7), stI (stRow (xBc S (61 + 7 * k) (h + 7)) 88 (va_cpy (S.1 87) (S.1 88) 0 (393 * k) 393)) 89 k 1, ?_, ?_, ?_⟩
  · unfold F_X6_keep
    have hX2 : RfX (xBc S (61 + 7 * k) (h + 7)) h d := hX
    have r6 : (xBc S (61 + 7 * k) (h + 7)).2.2 h 6 = some (h + 7) := hCX.r6
    have g6 : (xBc S (61 + 7 * k) (h + 7)).1 (h + 7) 6 = nI T := by rw [xBc_o (by omega)]; exact eT
    simp only [nmE, jnE, bn2S, bndS, grdT, stI_22, stL_22, stRow_22, HR0, rfdS T_1, rfdS T_2, rfdS T_3, rfdS T_4, rfdS T_5, rfdS T_9, SZ_1, SZ_2, SZ_3, SZ_4, X6_isPlaceKept_eq, if10', reduceIte, Bool.false_eq_true, one_ne0, if_pos hkk, rfdS (tg0 hh), hCX.2.2.2.1.1, nC, hX.2.1, hX2.2.1, hkk, hck, x1, rfdS (isS_t x3).1, hCX.r6, rfdS (tg7 hh), X5_become_eq n x3 (isS_h hh) (by omega) x2 hCX.2.2.1, r6, g6]
  · have hCM0 : CM (xBc S (61 + 7 * k) (h + 7)) C Q T L := hCM.congr rfl f87
    show F_X7_keep n (xBc S (61 + 7 * k) (h + 7)) 82 (nI k) = _
    generalize xBc S (61 + 7 * k) (h + 7) = S1 at *
    unfold F_X7_keep
    rw [show (2 : Int64) = (nI 3 - 1).toInt64 from rfl]
    have hcp : F_X7_copies n S1 87 (0 : Int32) 88 (nI (393 * k)) = some (stRow S1 88 (va_cpy (S1.1 87) (S1.1 88) 0 (393 * k) 393)) := X7_copies_eq n hn S1 (a := 87) (b := 88) (i := 0) (j := 393 * k) SZ_87 SZ_88 (by omega) (by omega) (by decide) (by decide) (by decide)
    simp only [nmE, jnE, bn2S, bndS, grdT, stI_22, stL_22, stRow_22, HRm, rfdS T_83, rfdS T_84, rfdS T_85, rfdS T_86, rfdS T_87, rfdS T_88, rfdS T_89, rfdS T_90, rfdS T_91, rfdS T_92, rfdS T_93, rfdS T_94, rfdS T_95, rfdS T_96, SZ_83, SZ_84, SZ_85, SZ_86, SZ_87, SZ_88, SZ_89, SZ_90, SZ_91, SZ_92, SZ_93, SZ_94, SZ_95, SZ_96, e5, if10', reduceIte, Bool.false_eq_true, one_ne0, if_pos hkk, hCM0.1, in0, hCM0.v0, nC, e393, hcp, hkk, hck, nb, in2, stI_ne (show 87 ≠ 89 by decide), stRow_ne (show 87 ≠ 88 by decide), hCM0.v2]
    rw [f87, f88]
  · have o : ∀ j, j ≠ 88 → j ≠ 89 → (j < 61 + 7 * k ∨ 61 + 7 * k + 6 < j) → (stI (stRow (xBc S (61 + 7 * k) (h + 7)) 88 (va_cpy (S.1 87) (S.1 88) 0 (393 * k) 393)) 89 k 1).1 j = S.1 j := fun j a b c => by
      rw [stI_ne b, stRow_ne a, xBc_o c]
    obtain ⟨h0', d0, hX0, hM0, hA, hR, hTt, -⟩ := H
    refine ⟨h, d, hX, hM, ?_, hR.congr (fun j q => o j (by omega) (by omega) (by omega)), hTt.congr (fun j q => o j (by omega) (by omega) (by omega)), C, Q, T, L, hCM.2.2, hCX.2.2.2.1.congr (fun j a b => o j (by omega) (by omega) (by omega)), ?_, ?_⟩
    · unfold PA at *
      rw [o 0 (by omega) (by omega) (by omega), o 82 (by omega) (by omega) (by omega), o 4 (by omega) (by omega) (by omega), o 90 (by omega) (by omega) (by omega)]
      exact hA
    · rw [o 87 (by omega) (by omega) (by omega)]; exact hCM.2.1
    · intro j hj
      rw [stI_self]
      by_cases e : j = k
      · subst e
        refine Or.inr ⟨pk_us, by omega, T, L, hCM.2.2, fun i => ⟨rfl, rfl, rfl, rfl, rfl, rfl⟩, ?_, ?_⟩
        · exact (hCX.2.2.2.1.2.2.2.2.bc hC hQ hT).congr (fun i a b => by rw [stI_ne (by omega), stRow_ne (by omega)])
        · refine PM.ext hC hQ hT hCM.2.1 (fun i hi => ?_)
          rw [stI_ne (by omega), stRow_self]
          unfold va_cpy
          rw [if_pos (by omega)]
          exact congrArg (S.1 87) (by omega)
      · rw [pk_un e, stRow_ne (show 89 ≠ 88 by decide), xBc_o (show 89 < 61 + 7 * k ∨ 61 + 7 * k + 6 < 89 by omega)]
        rw [o (61 + 7 * j) (by omega) (by omega) (by omega)]
        rcases hk j hj with hkj | ⟨b1, b2, T', L', b3, b4, b5, b6⟩
        · exact Or.inl hkj
        · refine Or.inr ⟨b1, b2, T', L', b3, b4, b5.congr (fun i a b => o i (by omega) (by omega) (by omega)), PM.ext hC hQ b3.2.2.1 b6 (fun i hi => ?_)⟩
          rw [stI_ne (by omega), stRow_self]
          unfold va_cpy
          rw [if_neg (by omega)]
set_option maxRecDepth 4000 in
theorem op_on (n : Nat) (hn : 400 < n) {S : aSt} (H : OK S) (k : Int32) : Both S (F_X6_on n S 0 k) (fun S1 => F_X7_on n S1 82 k) := by
  obtain ⟨h, d, C, Q, T, L, hX, hM, hCX, hCM, hk⟩ := H.get
  have hh := hCX.1
  have hC := hCM.2.2.1
  have hQ := hCM.2.2.2.1
  have e5 := fun S' => X7_in_sz n S' k (m := 3) (by decide)
  by_cases hkk : inb k 3 = true
  rotate_left
  · refine Both.same H (-1) ?_ ?_
    · unfold F_X6_on
      simp only [X6_isPlaceKept_eq, bndS, if10', reduceIte, Bool.false_eq_true, one_ne0, if_neg hkk]
    · unfold F_X7_on
      rw [show (2 : Int64) = (nI 3 - 1).toInt64 from rfl]
      simp only [e5, bndS, if10', reduceIte, Bool.false_eq_true, one_ne0, if_neg hkk]
  obtain ⟨k, hk3, rfl⟩ := inb_ex hkk (by decide)
  have hck : (nI k).toNatClampNeg = k := nI_clamp (by omega)
  obtain ⟨x1, x2, x3⟩ := xkept hX hk3
  rcases hk k hk3 with ⟨b1, b2⟩ | ⟨b1, b2, T', L', b3, b4, b5, b6⟩
  · refine Both.fnd H 1 (by decide) ?_ ?_
    · unfold F_X6_on
      simp only [nmE, jnE, bn2S, bndS, grdT, stI_22, stL_22, stRow_22, HR0, rfdS T_1, rfdS T_2, rfdS T_3, rfdS T_4, rfdS T_5, rfdS T_9, SZ_1, SZ_2, SZ_3, SZ_4, X6_isPlaceKept_eq, if10', reduceIte, Bool.false_eq_true, one_ne0, if_pos hkk, hX.2.1, hkk, hck, x1, rfdS (isS_t x3).1, b2, xf1 n hX]
    · have hM1 : (xFnd S 1).2.2 82 = HRm := hM
      show F_X7_on n (xFnd S 1) 82 (nI k) = _
      unfold F_X7_on
      rw [show (2 : Int64) = (nI 3 - 1).toInt64 from rfl]
      simp only [nmE, jnE, bn2S, bndS, grdT, stI_22, stL_22, stRow_22, HRm, rfdS T_83, rfdS T_84, rfdS T_85, rfdS T_86, rfdS T_87, rfdS T_88, rfdS T_89, rfdS T_90, rfdS T_91, rfdS T_92, rfdS T_93, rfdS T_94, rfdS T_95, rfdS T_96, SZ_83, SZ_84, SZ_85, SZ_86, SZ_87, SZ_88, SZ_89, SZ_90, SZ_91, SZ_92, SZ_93, SZ_94, SZ_95, SZ_96, rfdS T_89, e5, if10', reduceIte, Bool.false_eq_true, one_ne0, if_pos hkk, hM1, hkk, hck, xFnd_m (show 5 ≤ 89 by decide), b1, mf1 n (RfM_xFnd hM)]
  have hT' := b3.2.2.1
  have e393 : (393 : Int32) * nI k = nI (393 * k) := pk_mul 393 k
  have f87 : (xBc S (h + 7) (61 + 7 * k)).1 87 = S.1 87 := xBc_o (by omega)
  have f88 : (xBc S (h + 7) (61 + 7 * k)).1 88 = S.1 88 := xBc_o (by omega)
  have f89 : (xBc S (h + 7) (61 + 7 * k)).1 89 = S.1 89 := xBc_o (by omega)
  have n1 : ¬ nI T' = -1 := nI_nm1 (by omega)
  have one : ¬ (1 : Int32) = 0 := by decide
  have g1 : (xBc S (h + 7) (61 + 7 * k)).1 (h + 7) 6 = nI T' := by
    unfold xBc
    rw [stI_self, pk_us]; exact b5.1
  refine ⟨nI T', xBc S (h + 7) (61 + 7 * k), stRow (xBc S (h + 7) (61 + 7 * k)) 87 (va_cpy (S.1 88) (S.1 87) (393 * k) 0 393), ?_, ?_, ?_⟩
  · unfold F_X6_on
    have hX2 : RfX (xBc S (h + 7) (61 + 7 * k)) h d := hX
    have r6 : (xBc S (h + 7) (61 + 7 * k)).2.2 h 6 = some (h + 7) := hCX.r6
    simp only [nmE, jnE, bn2S, bndS, grdT, stI_22, stL_22, stRow_22, HR0, rfdS T_1, rfdS T_2, rfdS T_3, rfdS T_4, rfdS T_5, rfdS T_9, SZ_1, SZ_2, SZ_3, SZ_4, X6_isPlaceKept_eq, if10', reduceIte, Bool.false_eq_true, one_ne0, if_pos hkk, rfdS (tg0 hh), hX.2.1, hX2.2.1, hkk, hck, x1, rfdS (isS_t x3).1, b5.1, n1, hCX.r6, rfdS (tg7 hh), X5_become_eq n (isS_h hh) x3 (by omega) hCX.2.2.1 x2, r6, g1]
  · have hCM0 : CM (xBc S (h + 7) (61 + 7 * k)) C Q T L := hCM.congr rfl f87
    show F_X7_on n (xBc S (h + 7) (61 + 7 * k)) 82 (nI k) = _
    clear g1
    generalize xBc S (h + 7) (61 + 7 * k) = S1 at *
    unfold F_X7_on
    rw [show (2 : Int64) = (nI 3 - 1).toInt64 from rfl]
    have hcp : F_X7_copies n S1 88 (nI (393 * k)) 87 (0 : Int32) = some (stRow S1 87 (va_cpy (S1.1 88) (S1.1 87) (393 * k) 0 393)) := X7_copies_eq n hn S1 (a := 88) (b := 87) (i := 393 * k) (j := 0) SZ_88 SZ_87 (by omega) (by omega) (by decide) (by decide) (by decide)
    have v2 : va_cpy (S1.1 88) (S1.1 87) (393 * k) 0 393 2 = nI T' := by
      rw [f88]
      unfold va_cpy
      rw [if_pos (by omega)]
      exact b6.2.2.1
    simp only [nmE, jnE, bn2S, bndS, grdT, stI_22, stL_22, stRow_22, HRm, rfdS T_83, rfdS T_84, rfdS T_85, rfdS T_86, rfdS T_87, rfdS T_88, rfdS T_89, rfdS T_90, rfdS T_91, rfdS T_92, rfdS T_93, rfdS T_94, rfdS T_95, rfdS T_96, SZ_83, SZ_84, SZ_85, SZ_86, SZ_87, SZ_88, SZ_89, SZ_90, SZ_91, SZ_92, SZ_93, SZ_94, SZ_95, SZ_96, rfdS T_89, e5, if10', reduceIte, Bool.false_eq_true, one_ne0, if_pos hkk, hCM0.1, hkk, hck, f89, b1, one, e393, hcp, in2, show (2 : Int32).toNatClampNeg = 2 from rfl, stRow_self, v2]
    rw [f87, f88]
  · refine H.lib (T' := T') (L' := L') hX hk rfl rfl (fun j a b => ?_) b3 ?_ ?_ (fun i => b4 i)
    · rw [stRow_ne b, xBc_o (by omega)]
    · have oth : ∀ j, j < h + 7 → (stRow (xBc S (h + 7) (61 + 7 * k)) 87 (va_cpy (S.1 88) (S.1 87) (393 * k) 0 393)).1 j = S.1 j := fun j hj => by
        rw [stRow_ne (by omega), xBc_o (by omega)]
      obtain ⟨a1, a2, a3, a4, a5⟩ := hCX.2.2.2.1
      refine ⟨?_, ?_, fun b hb => ⟨?_, ?_⟩, fun b hb => ⟨?_, ?_, ?_, ?_⟩, (b5.bc hC hQ hT').congr (fun j a b => by rw [stRow_ne (by omega)])⟩
      · rw [oth _ (by omega)]; exact a1
      · rw [oth _ (by omega)]; exact a2
      · rw [oth _ (by omega), (b4 b).1]; exact (a3 b hb).1
      · rw [oth _ (by omega), (b4 b).2.1]; exact (a3 b hb).2
      · rw [oth _ (by omega), (b4 b).2.2.1]; exact (a4 b hb).1
      · rw [oth _ (by omega), (b4 b).2.2.2.1]; exact (a4 b hb).2.1
      · rw [oth _ (by omega), (b4 b).2.2.2.2.1]; exact (a4 b hb).2.2.1
      · rw [oth _ (by omega), (b4 b).2.2.2.2.2]; exact (a4 b hb).2.2.2
    · rw [stRow_self]
      refine PM.ext hC hQ hT' b6 (fun i hi => ?_)
      unfold va_cpy
      rw [if_pos (by omega)]
      exact congrArg (S.1 88) (by omega)
