/-! shelve, age, truth, fits; who is free. -/
theorem WL.set2 {C Q T : Nat} {L : Nat → Nat → Nat} (H : WL C Q T L) {c x : Nat} (hx : x ≤ 3) : WL C Q T (uL L 2 c x) := by
  obtain ⟨h1, h2, h3, h4, h5, h6, h7, h8⟩ := H
  refine ⟨h1, h2, h3, h4, fun b hb => ?_, fun b hb => ?_, ?_, fun t ht => ?_⟩
  · have := h5 b hb
    by_cases e : b = c
    · subst e
      have e1 : uL L 2 b x 2 b = x := uL_s
      rw [e1]
      simp only [uL_f (L := L) (f := 2) (show (0 : Nat) ≠ 2 by decide), uL_f (L := L) (f := 2) (show (1 : Nat) ≠ 2 by decide), uL_f (L := L) (f := 2) (show (3 : Nat) ≠ 2 by decide)]
      omega
    · simp only [uL_i e]; exact this
  · simp only [uL_f (L := L) (f := 2) (show (4 : Nat) ≠ 2 by decide), uL_f (L := L) (f := 2) (show (5 : Nat) ≠ 2 by decide), uL_f (L := L) (f := 2) (show (6 : Nat) ≠ 2 by decide), uL_f (L := L) (f := 2) (show (7 : Nat) ≠ 2 by decide), uL_f (L := L) (f := 2) (show (8 : Nat) ≠ 2 by decide)]
    exact h6 b hb
  · have e : uL L 2 c x 9 = L 9 := by funext b; exact uL_f (by decide)
    rw [e]; exact h7
  · simp only [uL_f (L := L) (f := 2) (show (10 : Nat) ≠ 2 by decide), uL_f (L := L) (f := 2) (show (11 : Nat) ≠ 2 by decide)]
    exact h8 t ht
theorem WL.set3 {C Q T : Nat} {L : Nat → Nat → Nat} (H : WL C Q T L) {c x : Nat} (hx : x ≤ 9) : WL C Q T (uL L 3 c x) := by
  obtain ⟨h1, h2, h3, h4, h5, h6, h7, h8⟩ := H
  refine ⟨h1, h2, h3, h4, fun b hb => ?_, fun b hb => ?_, ?_, fun t ht => ?_⟩
  · have := h5 b hb
    by_cases e : b = c
    · subst e
      have e1 : uL L 3 b x 3 b = x := uL_s
      rw [e1]
      simp only [uL_f (L := L) (f := 3) (show (0 : Nat) ≠ 3 by decide), uL_f (L := L) (f := 3) (show (1 : Nat) ≠ 3 by decide), uL_f (L := L) (f := 3) (show (2 : Nat) ≠ 3 by decide)]
      omega
    · simp only [uL_i e]; exact this
  · simp only [uL_f (L := L) (f := 3) (show (4 : Nat) ≠ 3 by decide), uL_f (L := L) (f := 3) (show (5 : Nat) ≠ 3 by decide), uL_f (L := L) (f := 3) (show (6 : Nat) ≠ 3 by decide), uL_f (L := L) (f := 3) (show (7 : Nat) ≠ 3 by decide), uL_f (L := L) (f := 3) (show (8 : Nat) ≠ 3 by decide)]
    exact h6 b hb
  · have e : uL L 3 c x 9 = L 9 := by funext b; exact uL_f (by decide)
    rw [e]; exact h7
  · simp only [uL_f (L := L) (f := 3) (show (10 : Nat) ≠ 3 by decide), uL_f (L := L) (f := 3) (show (11 : Nat) ≠ 3 by decide)]
    exact h8 t ht
theorem op_shelve (n : Nat) {S : aSt} (H : OK S) (c s : Int32) : Both S (F_X6_shelve n S 0 c s) (fun S1 => F_X7_shelve n S1 82 c s) := by
  obtain ⟨h, d, C, Q, T, L, hX, hM, hCX, hCM, hk⟩ := H.get
  have hh := hCX.1
  have hC := hCM.2.2.1
  have e5 := fun S => X7_in_sz n S s (m := 4) (by decide)
  by_cases hc : inb c C = true
  · by_cases hw : inb s 4 = true
    · obtain ⟨c, hc', rfl⟩ := inb_ex hc (by omega)
      obtain ⟨s, hs', rfl⟩ := inb_ex hw (by decide)
      have hi := inb_nI (show c < 7 by omega) (by decide)
      have hcl : (nI c).toNatClampNeg = c := nI_clamp (by omega)
      have a2 := (hCX.2.2.2.1.2.2.2.2.2.1 c hc').1
      refine ⟨nI (L 2 c), stI S (h + 7 + 1) c (nI s), stI (stI S (h + 7 + 1) c (nI s)) 87 (17 + c) (nI s), ?_, ?_, ?_⟩
      · unfold F_X6_shelve
        simp only [nmE, jnE, bn2S, bndS, grdT, stI_22, stL_22, stRow_22, reduceIte, Bool.false_eq_true, one_ne0, X0_here hX, X1_isCard_eq n hCX, if10', if_pos hc, if_pos hw, show (4 : Int32) = nI 4 from rfl, if2 (show 4 < 2 ^ 31 by decide), hCX.r6, hCX.s0, rfdS (tg7 hh), rfdS (tgs1 hh), sgs1 hh, hi, hcl, a2]
      · have hCM1 : CM (stI S (h + 7 + 1) c (nI s)) C Q T L := hCM.congr rfl (stI_ne (by omega))
        have hM1 : RfM (stI S (h + 7 + 1) c (nI s)) := hM
        have ei : (17 : Int32) + nI c = nI (17 + c) := nI_add 17 c
        show F_X7_shelve n (stI S (h + 7 + 1) c (nI s)) 82 (nI c) (nI s) = _
        unfold F_X7_shelve
        rw [show (3 : Int64) = (nI 4 - 1).toInt64 from rfl]
        simp only [X7_isCard_eq n hCM1, e5, bndS, if10', reduceIte, Bool.false_eq_true, one_ne0, if_pos hc, if_pos hw, ei, X7_puts_eq n hM1 (show 17 + c < 393 by omega), bn2S, stI_ne (show 87 ≠ h + 7 + 1 by omega), (hCM.2.1.2.2.2.1 c hc').2.2.1]
      · refine H.lib hX hk rfl rfl (fun k k1 k2 => ?_) (hCM.2.2.set2 (show s ≤ 3 by omega) (c := c)) ?_ ?_ (fun i => ⟨uL_f (by decide), uL_f (by decide), uL_f (by decide), uL_f (by decide), uL_f (by decide), uL_f (by decide)⟩)
        · rw [stI_ne (by omega), stI_ne (by omega)]
        · exact (hCX.2.2.2.1.set2 (c := c) (x := s)).congr (fun k a b => by rw [stI_ne (by omega)])
        · rw [stI_self, stI_ne (by omega)]
          exact hCM.2.1.set2 hC hCM.2.2.2.1 hc'
    · refine Both.same H (-1) ?_ ?_
      · unfold F_X6_shelve
        simp only [X0_here hX, X1_isCard_eq n hCX, bndS, if10', reduceIte, Bool.false_eq_true, one_ne0, if_pos hc, if_neg hw, show (4 : Int32) = nI 4 from rfl, if2 (show 4 < 2 ^ 31 by decide)]
      · unfold F_X7_shelve
        rw [show (3 : Int64) = (nI 4 - 1).toInt64 from rfl]
        simp only [X7_isCard_eq n hCM, e5, bndS, if10', reduceIte, Bool.false_eq_true, one_ne0, if_pos hc, if_neg hw]
  · refine Both.same H (-1) ?_ ?_
    · unfold F_X6_shelve
      simp only [X0_here hX, X1_isCard_eq n hCX, bndS, if10', reduceIte, Bool.false_eq_true, one_ne0, if_neg hc]
    · unfold F_X7_shelve
      simp only [X7_isCard_eq n hCM, bndS, if10', reduceIte, Bool.false_eq_true, one_ne0, if_neg hc]
theorem op_age (n : Nat) {S : aSt} (H : OK S) (c s : Int32) : Both S (F_X6_age n S 0 c s) (fun S1 => F_X7_age n S1 82 c s) := by
  obtain ⟨h, d, C, Q, T, L, hX, hM, hCX, hCM, hk⟩ := H.get
  have hh := hCX.1
  have hC := hCM.2.2.1
  have e5 := fun S => X7_in_sz n S s (m := 10) (by decide)
  by_cases hc : inb c C = true
  · by_cases hw : inb s 10 = true
    · obtain ⟨c, hc', rfl⟩ := inb_ex hc (by omega)
      obtain ⟨s, hs', rfl⟩ := inb_ex hw (by decide)
      have hi := inb_nI (show c < 7 by omega) (by decide)
      have hcl : (nI c).toNatClampNeg = c := nI_clamp (by omega)
      have a2 := (hCX.2.2.2.1.2.2.2.2.2.1 c hc').2
      refine ⟨nI (L 3 c), stI S (h + 7 + 2) c (nI s), stI (stI S (h + 7 + 2) c (nI s)) 87 (24 + c) (nI s), ?_, ?_, ?_⟩
      · unfold F_X6_age
        simp only [nmE, jnE, bn2S, bndS, grdT, stI_22, stL_22, stRow_22, reduceIte, Bool.false_eq_true, one_ne0, X0_here hX, X1_isCard_eq n hCX, if10', if_pos hc, if_pos hw, show (10 : Int32) = nI 10 from rfl, if2 (show 10 < 2 ^ 31 by decide), hCX.r6, hCX.s1, rfdS (tg7 hh), rfdS (tgs2 hh), sgs2 hh, hi, hcl, a2]
      · have hCM1 : CM (stI S (h + 7 + 2) c (nI s)) C Q T L := hCM.congr rfl (stI_ne (by omega))
        have hM1 : RfM (stI S (h + 7 + 2) c (nI s)) := hM
        have ei : (24 : Int32) + nI c = nI (24 + c) := nI_add 24 c
        show F_X7_age n (stI S (h + 7 + 2) c (nI s)) 82 (nI c) (nI s) = _
        unfold F_X7_age
        rw [show (9 : Int64) = (nI 10 - 1).toInt64 from rfl]
        simp only [X7_isCard_eq n hCM1, e5, bndS, if10', reduceIte, Bool.false_eq_true, one_ne0, if_pos hc, if_pos hw, ei, X7_puts_eq n hM1 (show 24 + c < 393 by omega), bn2S, stI_ne (show 87 ≠ h + 7 + 2 by omega), (hCM.2.1.2.2.2.1 c hc').2.2.2]
      · refine H.lib hX hk rfl rfl (fun k k1 k2 => ?_) (hCM.2.2.set3 (show s ≤ 9 by omega) (c := c)) ?_ ?_ (fun i => ⟨uL_f (by decide), uL_f (by decide), uL_f (by decide), uL_f (by decide), uL_f (by decide), uL_f (by decide)⟩)
        · rw [stI_ne (by omega), stI_ne (by omega)]
        · exact (hCX.2.2.2.1.set3 (c := c) (x := s)).congr (fun k a b => by rw [stI_ne (by omega)])
        · rw [stI_self, stI_ne (by omega)]
          exact hCM.2.1.set3 hC hCM.2.2.2.1 hc'
    · refine Both.same H (-1) ?_ ?_
      · unfold F_X6_age
        simp only [X0_here hX, X1_isCard_eq n hCX, bndS, if10', reduceIte, Bool.false_eq_true, one_ne0, if_pos hc, if_neg hw, show (10 : Int32) = nI 10 from rfl, if2 (show 10 < 2 ^ 31 by decide)]
      · unfold F_X7_age
        rw [show (9 : Int64) = (nI 10 - 1).toInt64 from rfl]
        simp only [X7_isCard_eq n hCM, e5, bndS, if10', reduceIte, Bool.false_eq_true, one_ne0, if_pos hc, if_neg hw]
  · refine Both.same H (-1) ?_ ?_
    · unfold F_X6_age
      simp only [X0_here hX, X1_isCard_eq n hCX, bndS, if10', reduceIte, Bool.false_eq_true, one_ne0, if_neg hc]
    · unfold F_X7_age
      simp only [X7_isCard_eq n hCM, bndS, if10', reduceIte, Bool.false_eq_true, one_ne0, if_neg hc]
theorem WL.set8 {C Q T : Nat} {L : Nat → Nat → Nat} (H : WL C Q T L) {c x : Nat} (hx : x = 99 ∨ x ≤ 9) : WL C Q T (uL L 8 c x) := by
  obtain ⟨h1, h2, h3, h4, h5, h6, h7, h8⟩ := H
  refine ⟨h1, h2, h3, h4, fun b hb => ?_, fun b hb => ?_, ?_, fun t ht => ?_⟩
  · simp only [uL_f (L := L) (f := 8) (show (0 : Nat) ≠ 8 by decide), uL_f (L := L) (f := 8) (show (1 : Nat) ≠ 8 by decide), uL_f (L := L) (f := 8) (show (2 : Nat) ≠ 8 by decide), uL_f (L := L) (f := 8) (show (3 : Nat) ≠ 8 by decide)]
    exact h5 b hb
  · have := h6 b hb
    simp only [uL_f (L := L) (f := 8) (show (4 : Nat) ≠ 8 by decide), uL_f (L := L) (f := 8) (show (5 : Nat) ≠ 8 by decide), uL_f (L := L) (f := 8) (show (6 : Nat) ≠ 8 by decide), uL_f (L := L) (f := 8) (show (7 : Nat) ≠ 8 by decide)]
    refine ⟨this.1, this.2.1, this.2.2.1, this.2.2.2.1, this.2.2.2.2.1, ?_⟩
    by_cases e : b = c
    · subst e; rw [uL_s]; exact hx
    · rw [uL_i e]; exact this.2.2.2.2.2
  · have e : uL L 8 c x 9 = L 9 := by funext b; exact uL_f (by decide)
    rw [e]; exact h7
  · simp only [uL_f (L := L) (f := 8) (show (10 : Nat) ≠ 8 by decide), uL_f (L := L) (f := 8) (show (11 : Nat) ≠ 8 by decide)]
    exact h8 t ht
theorem op_truth (n : Nat) {S : aSt} (H : OK S) (q v : Int32) : Both S (F_X6_truth n S 0 q v) (fun S1 => F_X7_truth n S1 82 q v) := by
  obtain ⟨h, d, C, Q, T, L, hX, hM, hCX, hCM, hk⟩ := H.get
  have hh := hCX.1
  have hC := hCM.2.2.1
  have hQ := hCM.2.2.2.1
  have e5 := fun S => X7_in_sz n S v (m := 10) (by decide)
  by_cases hc : inb q Q = true
  · by_cases hw : v = -9 ∨ inb v 10 = true
    · obtain ⟨q, hc', rfl⟩ := inb_ex hc (by omega)
      obtain ⟨x, hx, rfl⟩ : ∃ x, (x = 99 ∨ x ≤ 9) ∧ v = en x := by
        rcases hw with h1 | h1
        · exact ⟨99, Or.inl rfl, h1⟩
        · obtain ⟨x, hx, e⟩ := inb_ex h1 (by decide)
          exact ⟨x, Or.inr (by omega), by rw [en_nI (by omega)]; exact e⟩
      have hi := inb_nI (show q < 7 by omega) (by decide)
      have hcl : (nI q).toNatClampNeg = q := nI_clamp (by omega)
      have a2 := hCX.2.2.2.1.2.2.2.2.2.2.1 q hc'
      refine ⟨en (L 8 q), stI S (h + 7 + 3) q (en x), stI (stI S (h + 7 + 3) q (en x)) 87 (59 + q) (en x), ?_, ?_, ?_⟩
      · unfold F_X6_truth
        simp only [nmE, jnE, bn2S, bndS, grdT, stI_22, stL_22, stRow_22, reduceIte, Bool.false_eq_true, one_ne0, X0_here hX, X1_isQuestion_eq n hCX, if10', if_pos hc, show (10 : Int32) = nI 10 from rfl, if2 (show 10 < 2 ^ 31 by decide), hCX.r6, hCX.s2, rfdS (tg7 hh), rfdS (tgs3 hh), sgs3 hh, hi, hcl, a2]
        by_cases h9 : en x = -9
        · rw [if_pos h9]
        · rw [if_neg h9, if_pos (hw.resolve_left h9)]
      · have hCM1 : CM (stI S (h + 7 + 3) q (en x)) C Q T L := hCM.congr rfl (stI_ne (by omega))
        have hM1 : RfM (stI S (h + 7 + 3) q (en x)) := hM
        have ei : (59 : Int32) + nI q = nI (59 + q) := nI_add 59 q
        show F_X7_truth n (stI S (h + 7 + 3) q (en x)) 82 (nI q) (en x) = _
        unfold F_X7_truth
        rw [show (9 : Int64) = (nI 10 - 1).toInt64 from rfl]
        simp only [nmE, jnE, bn2S, bndS, grdT, stI_22, stL_22, stRow_22, X7_isQuestion_eq n hCM1, e5, if10', reduceIte, Bool.false_eq_true, one_ne0, if_pos hc, ei, X7_puts_eq n hM1 (show 59 + q < 393 by omega), stI_ne (show 87 ≠ h + 7 + 3 by omega), (hCM.2.1.2.2.2.2.1 q hc').2.2.2.2]
        by_cases h9 : en x = -9
        · rw [if_pos h9]
        · rw [if_neg h9, if_pos (hw.resolve_left h9)]
      · refine H.lib hX hk rfl rfl (fun k k1 k2 => ?_) (hCM.2.2.set8 hx (c := q)) ?_ ?_ (fun i => ⟨uL_f (by decide), uL_f (by decide), uL_f (by decide), uL_f (by decide), uL_f (by decide), uL_f (by decide)⟩)
        · rw [stI_ne (by omega), stI_ne (by omega)]
        · exact (hCX.2.2.2.1.set8 (c := q) (x := x)).congr (fun k a b => by rw [stI_ne (by omega)])
        · rw [stI_self, stI_ne (by omega)]
          exact hCM.2.1.set8 hC hCM.2.2.2.1 hc'
    · have hw1 : ¬ v = -9 := fun z => hw (Or.inl z)
      have hw2 : ¬ inb v 10 = true := fun z => hw (Or.inr z)
      refine Both.same H (-1) ?_ ?_
      · unfold F_X6_truth
        simp only [nmE, jnE, bn2S, bndS, grdT, stI_22, stL_22, stRow_22, X0_here hX, X1_isQuestion_eq n hCX, if10', reduceIte, Bool.false_eq_true, one_ne0, if_pos hc, if_neg hw1, if_neg hw2, show (10 : Int32) = nI 10 from rfl, if2 (show 10 < 2 ^ 31 by decide)]
      · unfold F_X7_truth
        rw [show (9 : Int64) = (nI 10 - 1).toInt64 from rfl]
        simp only [nmE, jnE, bn2S, bndS, grdT, stI_22, stL_22, stRow_22, X7_isQuestion_eq n hCM, e5, if10', reduceIte, Bool.false_eq_true, one_ne0, if_pos hc, if_neg hw1, if_neg hw2]
  · refine Both.same H (-1) ?_ ?_
    · unfold F_X6_truth
      simp only [X0_here hX, X1_isQuestion_eq n hCX, bndS, if10', reduceIte, Bool.false_eq_true, one_ne0, if_neg hc]
    · unfold F_X7_truth
      simp only [X7_isQuestion_eq n hCM, bndS, if10', reduceIte, Bool.false_eq_true, one_ne0, if_neg hc]
section Lib4
variable {S : aSt} {h C Q T : Nat} {L : Nat → Nat → Nat}
theorem CM.v0 (H : CM S C Q T L) : S.1 87 (0 : Int32).toNatClampNeg = nI C := H.2.1.1
theorem CM.v1 (H : CM S C Q T L) : S.1 87 (1 : Int32).toNatClampNeg = nI Q := H.2.1.2.1
theorem CM.v2 (H : CM S C Q T L) : S.1 87 (2 : Int32).toNatClampNeg = nI T := H.2.1.2.2.1
theorem in0 : inb (0 : Int32) 393 = true := by decide
theorem in1 : inb (1 : Int32) 393 = true := by decide
theorem in2 : inb (2 : Int32) 393 = true := by decide
theorem or_0 (a : Int32) : a ||| (0 : Int32) = a := by simp
theorem X1_fittingCards_eq (n : Nat) (hn : 10 < n) (H : CX S h C Q T L) {q : Nat} (hq : q < Q) : F_X1_fittingCards n S h (nI q) = some (nI (bs (fun c => ft L q c) C)) := by
  have h7 := H.2.2.2.2.1
  unfold F_X1_fittingCards
  simp only [jnE]
  refine lp_bs (fun fu a i => F_X1_fittingCards_L4 n S h (nI q) (fun x => some x) fu a i) (fun x => some x) (fun c => ft L q c) C n (by omega) (by omega) (fun fu a => ?_) (fun fu c a hc => ?_)
  · show F_X1_fittingCards_L4 n S h (nI q) _ (fu + 1) _ _ = _
    rw [F_X1_fittingCards_L4, H.2.2.2.1.1, if_pos (Int32.le_refl _)]
  · show F_X1_fittingCards_L4 n S h (nI q) _ (fu + 1) _ _ = F_X1_fittingCards_L4 n S h (nI q) _ fu _ _
    rw [F_X1_fittingCards_L4, H.2.2.2.1.1, if_neg (nI_ge hc (by omega))]
    simp only [nmE, jnE, bn2S, bndS, grdT, stI_22, stL_22, stRow_22, X1_isFitting_eq n H hc hq, if10', nI_1]
    by_cases k : ft L q c = true
    · rw [if_pos k, if_pos k]
    · rw [if_neg k, if_neg k]
theorem X7_fits_eq (n : Nat) (hn : 10 < n) (H : CM S C Q T L) {q : Nat} (hq : q < Q) : F_X7_fits n S 82 (nI q) = some (nI (bs (fun c => ft L q c) C)) := by
  have h7 := H.2.2.1
  have hQ := H.2.2.2.1
  unfold F_X7_fits
  simp only [jnE, X7_isQuestion_eq n H, bndS, if10', if_pos (inb_nI hq (by omega))]
  refine lp_bs (fun fu a i => F_X7_fits_L14 n S 82 (nI q) (fun x => some x) fu a i) (fun x => some x) (fun c => ft L q c) C n (by omega) (by omega) (fun fu a => ?_) (fun fu c a hc => ?_)
  · show F_X7_fits_L14 n S 82 (nI q) _ (fu + 1) _ _ = _
    rw [F_X7_fits_L14]
    simp only [nmE, jnE, bn2S, bndS, grdT, stI_22, stL_22, stRow_22, HRm, rfdS T_83, rfdS T_84, rfdS T_85, rfdS T_86, rfdS T_87, rfdS T_88, rfdS T_89, rfdS T_90, rfdS T_91, rfdS T_92, rfdS T_93, rfdS T_94, rfdS T_95, rfdS T_96, SZ_83, SZ_84, SZ_85, SZ_86, SZ_87, SZ_88, SZ_89, SZ_90, SZ_91, SZ_92, SZ_93, SZ_94, SZ_95, SZ_96, H.1, in0, H.v0]
    rw [if_pos (Int32.le_refl _)]
  · show F_X7_fits_L14 n S 82 (nI q) _ (fu + 1) _ _ = F_X7_fits_L14 n S 82 (nI q) _ fu _ _
    rw [F_X7_fits_L14]
    simp only [nmE, jnE, bn2S, bndS, grdT, stI_22, stL_22, stRow_22, HRm, rfdS T_83, rfdS T_84, rfdS T_85, rfdS T_86, rfdS T_87, rfdS T_88, rfdS T_89, rfdS T_90, rfdS T_91, rfdS T_92, rfdS T_93, rfdS T_94, rfdS T_95, rfdS T_96, SZ_83, SZ_84, SZ_85, SZ_86, SZ_87, SZ_88, SZ_89, SZ_90, SZ_91, SZ_92, SZ_93, SZ_94, SZ_95, SZ_96, H.1, in0, H.v0]
    rw [if_neg (nI_ge hc (by omega))]
    simp only [nmE, jnE, bn2S, bndS, grdT, stI_22, stL_22, stRow_22, X7_isFit_eq n H hc hq, if10', nI_1, or_0]
    by_cases k : ft L q c = true
    · rw [if_pos k, if_pos k]
    · rw [if_neg k, if_neg k]
theorem X1_isFreeQuestion_eq (n : Nat) (H : CX S h C Q T L) {q : Nat} (hq : q < 7) : F_X1_isFreeQuestion n S h (nI q) = some (if L 9 q = 99 then (1 : Int32) else 0) := by
  have hA := H.2.2.2.2.ans
  have a3 := H.2.2.2.1.2.2.2.2.2.2.2.1 q hq
  unfold F_X1_isFreeQuestion
  simp only [nmE, jnE, bn2S, bndS, grdT, stI_22, stL_22, stRow_22, H.r6, H.s3, rfdS (tg7 H.1), rfdS (tgs4 H.1), sgs4 H.1, inb_nI hq (by decide), nI_clamp (show q < 2 ^ 31 by omega), a3, en_m9 (hA.lt31 H.2.2.2.2.1 hq)]
  by_cases k : L 9 q = 99
  · rw [if_pos k, if_pos k]
  · rw [if_neg k, if_neg k]
theorem X7_isFree_eq (n : Nat) (H : CM S C Q T L) {q : Nat} (hqQ : q < Q) : F_X7_isFree n S 82 (nI q) = some (if L 9 q = 99 then (1 : Int32) else 0) := by
  have hq : q < 7 := by have := H.2.2.2.1; omega
  have hA := H.2.2.ans
  have a3 := H.2.1.2.2.2.2.2.1 q hq (H.2.2.pos hqQ)
  have ei : (66 : Int32) + nI q = nI (66 + q) := nI_add 66 q
  unfold F_X7_isFree
  simp only [nmE, jnE, bn2S, bndS, grdT, stI_22, stL_22, stRow_22, HRm, rfdS T_83, rfdS T_84, rfdS T_85, rfdS T_86, rfdS T_87, rfdS T_88, rfdS T_89, rfdS T_90, rfdS T_91, rfdS T_92, rfdS T_93, rfdS T_94, rfdS T_95, rfdS T_96, SZ_83, SZ_84, SZ_85, SZ_86, SZ_87, SZ_88, SZ_89, SZ_90, SZ_91, SZ_92, SZ_93, SZ_94, SZ_95, SZ_96, H.1, ei, inb_nI (show 66 + q < 393 by omega) (by decide), nI_clamp (show 66 + q < 2 ^ 31 by omega), a3, en_m9 (hA.lt31 H.2.2.1 hq)]
  by_cases k : L 9 q = 99
  · rw [if_pos k, if_pos k]
  · rw [if_neg k, if_neg k]
theorem X1_isFreeCard_eq (n : Nat) (hn : 10 < n) (H : CX S h C Q T L) {c : Nat} (hc : c < 99) : F_X1_isFreeCard n S h (nI c) = some (if aq L c = 99 then (1 : Int32) else 0) := by
  unfold F_X1_isFreeCard
  simp only [nmE, jnE, bn2S, bndS, grdT, stI_22, stL_22, stRow_22, H.r6, rfdS (tg7 H.1), X1_questionOf_eq n hn H hc]
  have := aq_lt L c
  by_cases k : aq L c = 99
  · rw [if_pos k, k, en_99, if_pos rfl]
  · rw [if_neg k, en_nI k, if_neg (nI_m9 (by omega))]
theorem X7_isFreeCard_eq (n : Nat) (hn : 10 < n) (H : CM S C Q T L) {c : Nat} (hc : c < 99) : F_X7_isFreeCard n S 82 (nI c) = some (if aq L c = 99 then (1 : Int32) else 0) := by
  unfold F_X7_isFreeCard
  simp only [nmE, jnE, bn2S, bndS, grdT, stI_22, stL_22, stRow_22, X7_answers_eq n hn H hc]
  have := aq_lt L c
  by_cases k : aq L c = 99
  · rw [if_pos k, k, en_99, if_pos rfl]
  · rw [if_neg k, en_nI k, if_neg (nI_m9 (by omega))]
end Lib4
/-- calls that change nothing -/
def BothR (fx fm : Option Int32) : Prop := ∃ r, fx = some r ∧ fm = some r
theorem op_fits (n : Nat) (hn : 100 < n) {S : aSt} (H : OK S) (q : Int32) : BothR (F_X6_fits n S 0 q) (F_X7_fits n S 82 q) := by
  obtain ⟨h, d, C, Q, T, L, hX, hM, hCX, hCM, hk⟩ := H.get
  by_cases hc : inb q Q = true
  · obtain ⟨q, hc', rfl⟩ := inb_ex hc (by have := hCM.2.2.2.1; omega)
    refine ⟨_, ?_, X7_fits_eq n (by omega) hCM hc'⟩
    unfold F_X6_fits
    simp only [nmE, jnE, bn2S, bndS, grdT, stI_22, stL_22, stRow_22, reduceIte, Bool.false_eq_true, one_ne0, X0_here hX, X1_isQuestion_eq n hCX, if10', if_pos hc, X1_fittingCards_eq n (show 10 < n by omega) hCX hc']
  · refine ⟨-1, ?_, ?_⟩
    · unfold F_X6_fits
      simp only [nmE, jnE, bn2S, bndS, grdT, stI_22, stL_22, stRow_22, reduceIte, Bool.false_eq_true, one_ne0, X0_here hX, X1_isQuestion_eq n hCX, if10', if_neg hc]
    · unfold F_X7_fits
      simp only [X7_isQuestion_eq n hCM, bndS, if10', reduceIte, Bool.false_eq_true, one_ne0, if_neg hc]
