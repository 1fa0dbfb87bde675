/-! mark. -/
def mkp (L : Nat → Nat → Nat) (c k i : Nat) : Bool := if k = 1 then isA (L 0 i) 1 && decide (me L i = me L c) else if k = 2 then !decide (i = c) && decide (L 2 i = L 2 c) else isA (L 0 i) 2 && decide (L 1 i = me L c)
theorem inb_d {i C : Nat} (hC : C < 2 ^ 31) (hi : i < 2 ^ 31) : inb (nI i) C = decide (i < C) := by
  by_cases h : i < C
  · rw [inb_nI h hC]; simp [h]
  · cases e : inb (nI i) C with
    | false => simp [h]
    | true =>
      obtain ⟨j, hj, e2⟩ := inb_ex e hC
      rw [nI_eq hi (by omega)] at e2
      omega
section Lib11
variable {S : aSt} {h C Q T : Nat} {L : Nat → Nat → Nat}
theorem X1_cardsOn_eq (n : Nat) (hn : 10 < n) (H : CX S h C Q T L) {s : Nat} (hs : s < 2 ^ 31) : F_X1_cardsOn n S h (nI s) = some (nI (fb_ct (fun c => decide (L 2 c = s)) C)) := by
  have hw := H.2.2.2.2
  have hC := hw.1
  unfold F_X1_cardsOn
  simp only [jnE]
  refine lp_ct (fun fu a i => F_X1_cardsOn_L4 S h (nI s) (fun x => some x) fu a i) (fun x => some x) _ C n (by omega) (fun fu a => ?_) (fun fu c a hc => ?_)
  · show F_X1_cardsOn_L4 _ _ _ _ (fu + 1) _ _ = _
    rw [F_X1_cardsOn_L4, H.2.2.2.1.1, if_pos (Int32.le_refl _)]
  · show F_X1_cardsOn_L4 _ _ _ _ (fu + 1) _ _ = F_X1_cardsOn_L4 _ _ _ _ fu _ _
    have w5 := hw.2.2.2.2.1 c hc
    rw [F_X1_cardsOn_L4, H.2.2.2.1.1, if_neg (nI_ge hc (by omega))]
    simp only [nmE, jnE, bn2S, bndS, grdT, stI_22, stL_22, stRow_22, H.r6, H.s0, rfdS (tg7 H.1), rfdS (tgs1 H.1), sgs1 H.1, inb_nI (show c < 7 by omega) (by decide), nI_clamp (show c < 2 ^ 31 by omega), (H.2.2.2.1.2.2.2.2.2.1 c hc).1, nI_eq (show L 2 c < 2 ^ 31 by omega) hs, nI_1, decide_eq_true_eq]
    by_cases k : L 2 c = s
    · rw [if_pos k, if_pos k]
    · rw [if_neg k, if_neg k]
theorem X1_placesSaying_eq (n : Nat) (hn : 10 < n) (H : CX S h C Q T L) {m : Nat} (hm : m < 2 ^ 31) : F_X1_placesSaying n S h (nI m) = some (nI (fb_ct (fun i => isA (L 0 i) 2 && decide (L 1 i = m)) C)) := by
  have hw := H.2.2.2.2
  have hC := hw.1
  unfold F_X1_placesSaying
  simp only [jnE]
  refine lp_ct (fun fu a i => F_X1_placesSaying_L4 n S h (nI m) (fun x => some x) fu a i) (fun x => some x) _ C n (by omega) (fun fu a => ?_) (fun fu c a hc => ?_)
  · show F_X1_placesSaying_L4 _ _ _ _ _ (fu + 1) _ _ = _
    rw [F_X1_placesSaying_L4, H.2.2.2.1.1, if_pos (Int32.le_refl _)]
  · show F_X1_placesSaying_L4 _ _ _ _ _ (fu + 1) _ _ = F_X1_placesSaying_L4 _ _ _ _ _ fu _ _
    have w5 := hw.2.2.2.2.1 c hc
    rw [F_X1_placesSaying_L4, H.2.2.2.1.1, if_neg (nI_ge hc (by omega))]
    simp only [nmE, jnE, bn2S, bndS, grdT, stI_22, stL_22, stRow_22, H.r0, H.r1, rfdS (tg1 H.1), rfdS (tg2 H.1), sg1 H.1, sg2 H.1, inb_nI (show c < 7 by omega) (by decide), nI_clamp (show c < 2 ^ 31 by omega), (H.2.2.2.1.2.2.1 c hc).1, (H.2.2.2.1.2.2.1 c hc).2, X0_isA_eq n S w5.1 (show 2 ≤ 5 by decide), show (2 : Int32) = nI 2 from rfl, if10', nI_eq (show L 1 c < 2 ^ 31 by omega) hm, nI_1]
    by_cases k1 : isA (L 0 c) 2 = true
    · by_cases k2 : L 1 c = m
      · simp [k1, k2]
      · simp [k1, k2]
    · simp [k1]
theorem X1_yesMeaning_eq (n : Nat) (hn : 10 < n) (H : CX S h C Q T L) {m : Nat} (hm : m < 2 ^ 31) : F_X1_yesMeaning n S h (nI m) = some (nI (fb_ct (fun i => isA (L 0 i) 1 && decide (me L i = m)) C)) := by
  have hw := H.2.2.2.2
  have hC := hw.1
  unfold F_X1_yesMeaning
  simp only [jnE]
  refine lp_ct (fun fu a i => F_X1_yesMeaning_L4 n S h (nI m) (fun x => some x) fu a i) (fun x => some x) _ C n (by omega) (fun fu a => ?_) (fun fu c a hc => ?_)
  · show F_X1_yesMeaning_L4 _ _ _ _ _ (fu + 1) _ _ = _
    rw [F_X1_yesMeaning_L4, H.2.2.2.1.1, if_pos (Int32.le_refl _)]
  · show F_X1_yesMeaning_L4 _ _ _ _ _ (fu + 1) _ _ = F_X1_yesMeaning_L4 _ _ _ _ _ fu _ _
    have w5 := hw.2.2.2.2.1 c hc
    have hme := hw.mle hc
    rw [F_X1_yesMeaning_L4, H.2.2.2.1.1, if_neg (nI_ge hc (by omega))]
    simp only [nmE, jnE, bn2S, bndS, grdT, stI_22, stL_22, stRow_22, H.r0, rfdS (tg1 H.1), sg1 H.1, inb_nI (show c < 7 by omega) (by decide), nI_clamp (show c < 2 ^ 31 by omega), (H.2.2.2.1.2.2.1 c hc).1, show F_X0_isA n S (nI (L 0 c)) 1 = _ from X0_isA_eq n S w5.1 (show 1 ≤ 5 by decide), nI_1, if10', X1_meaningOf_eq n H hc, nI_eq (show me L c < 2 ^ 31 by omega) hm]
    by_cases k1 : isA (L 0 c) 1 = true
    · by_cases k2 : me L c = m
      · simp [k1, k2]
      · simp [k1, k2]
    · simp [k1]
theorem ct_but (p : Nat → Bool) {c C : Nat} (hc : c < C) (hp : p c = true) : fb_ct (fun i => !decide (i = c) && p i) C + 1 = fb_ct p C := by
  have := fb_ct_upd p false hc
  rw [hp, fb_ct_cong (q := fun i => !decide (i = c) && p i) (fun k _ => by by_cases e : k = c <;> simp [e])] at this
  simpa using this
theorem X7_isOf_any (n : Nat) (S : aSt) (v w : Int32) : ∃ r, F_X7_isOf n S v w = some r := by
  unfold F_X7_isOf
  simp only [jnE]
  repeat' split
  all_goals exact ⟨_, rfl⟩
theorem ct_cut (p : Nat → Bool) {C m : Nat} (h : C ≤ m) : fb_ct (fun i => decide (i < C) && p i) m = fb_ct p C := by
  have e2 : fb_ct (fun i => decide (i < C) && p i) (C + (m - C)) = fb_ct p C := by
    rw [fb_ct_split, fb_ct_cong (n := C) (q := p) (fun k hk => by simp [hk]), (fb_ct_zero (p := fun k => decide (C + k < C) && p (C + k))).mpr (fun k hk => by simp; omega)]
    rfl
  rwa [show C + (m - C) = m by omega] at e2
theorem X7_mark_1 (n : Nat) (hn : 10 < n) (H : CM S C Q T L) {c : Nat} (hc : c < C) (K : Int32 → Option (Int32 × aSt)) : F_X7_mark_L72 n S 82 (nI c) 1 87 K n 0 0 = K (nI (fb_ct (fun i => decide (i < C) && (isA (L 0 i) 1 && decide (me L i = me L c))) 7)) := by
  have hw := H.2.2
  have hC := hw.1
  refine lp_ct (fun fu a i => F_X7_mark_L72 n S 82 (nI c) 1 87 K fu a i) K _ 7 n (by omega) (fun fu a => ?_) (fun fu i a hi => ?_)
  · show F_X7_mark_L72 _ _ _ _ _ _ _ (fu + 1) _ _ = _
    rw [F_X7_mark_L72, if_pos (by decide)]
  · show F_X7_mark_L72 _ _ _ _ _ _ _ (fu + 1) _ _ = F_X7_mark_L72 _ _ _ _ _ _ _ fu _ _
    have e3 : (3 : Int32) + nI i = nI (3 + i) := nI_add 3 i
    have hme := hw.mle hc
    rw [F_X7_mark_L72, if_neg (show ¬ (7 : Int32) ≤ nI i from nI_ge hi (by decide))]
    simp (decide := true) only [nmE, jnE, bn2S, bndS, grdT, stI_22, stL_22, stRow_22, HRm, rfdS T_83, rfdS T_84, rfdS T_85, rfdS T_86, rfdS T_87, rfdS T_88, rfdS T_89, rfdS T_90, rfdS T_91, rfdS T_92, rfdS T_93, rfdS T_94, rfdS T_95, rfdS T_96, SZ_83, SZ_84, SZ_85, SZ_86, SZ_87, SZ_88, SZ_89, SZ_90, SZ_91, SZ_92, SZ_93, SZ_94, SZ_95, SZ_96, reduceIte, Bool.false_eq_true, one_ne0, H.1, e3, inb_nI (show 3 + i < 393 by omega) (by decide), nI_clamp (show 3 + i < 2 ^ 31 by omega), X7_isCard_eq n H, if10', inb_d (show C < 2 ^ 31 by omega) (show i < 2 ^ 31 by omega), nI_1, X7_means_eq n H hc, decide_eq_true_eq]
    by_cases k : i < C
    · have w5 := hw.2.2.2.2.1 i k
      have hmi := hw.mle k
      simp only [if_pos k, (H.2.1.2.2.2.1 i k).1, show F_X7_isOf n S (nI (L 0 i)) 1 = _ from X7_isOf_eq n S w5.1 (show 1 ≤ 5 by decide), bndS, if10', X7_means_eq n H k, nI_eq (show me L i < 2 ^ 31 by omega) (show me L c < 2 ^ 31 by omega)]
      by_cases k1 : isA (L 0 i) 1 = true
      · by_cases k2 : me L i = me L c
        · simp [k, k1, k2]
        · simp [k, k1, k2]
      · simp [k, k1]
    · obtain ⟨r, er⟩ := X7_isOf_any n S (S.1 87 (3 + i)) 1
      simp only [if_neg k, er, bndS]
      by_cases k1 : r = 0
      · simp [k, k1]
      · simp [k, k1]
theorem X7_mark_2 (n : Nat) (hn : 10 < n) (H : CM S C Q T L) {c : Nat} (hc : c < C) (K : Int32 → Option (Int32 × aSt)) : F_X7_mark_L72 n S 82 (nI c) 2 87 K n 0 0 = K (nI (fb_ct (fun i => decide (i < C) && (!decide (i = c) && decide (L 2 i = L 2 c))) 7)) := by
  have hw := H.2.2
  have hC := hw.1
  have w6 := hw.2.2.2.2.1 c hc
  refine lp_ct (fun fu a i => F_X7_mark_L72 n S 82 (nI c) 2 87 K fu a i) K _ 7 n (by omega) (fun fu a => ?_) (fun fu i a hi => ?_)
  · show F_X7_mark_L72 _ _ _ _ _ _ _ (fu + 1) _ _ = _
    rw [F_X7_mark_L72, if_pos (by decide)]
  · show F_X7_mark_L72 _ _ _ _ _ _ _ (fu + 1) _ _ = F_X7_mark_L72 _ _ _ _ _ _ _ fu _ _
    have e3 : (17 : Int32) + nI i = nI (17 + i) := nI_add 17 i
    have e4 : (17 : Int32) + nI c = nI (17 + c) := nI_add 17 c
    rw [F_X7_mark_L72, if_neg (show ¬ (7 : Int32) ≤ nI i from nI_ge hi (by decide))]
    simp (decide := true) only [nmE, jnE, bn2S, bndS, grdT, stI_22, stL_22, stRow_22, HRm, rfdS T_83, rfdS T_84, rfdS T_85, rfdS T_86, rfdS T_87, rfdS T_88, rfdS T_89, rfdS T_90, rfdS T_91, rfdS T_92, rfdS T_93, rfdS T_94, rfdS T_95, rfdS T_96, SZ_83, SZ_84, SZ_85, SZ_86, SZ_87, SZ_88, SZ_89, SZ_90, SZ_91, SZ_92, SZ_93, SZ_94, SZ_95, SZ_96, reduceIte, Bool.false_eq_true, one_ne0, H.1, e3, e4, inb_nI (show 17 + i < 393 by omega) (by decide), nI_clamp (show 17 + i < 2 ^ 31 by omega), inb_nI (show 17 + c < 393 by omega) (by decide), nI_clamp (show 17 + c < 2 ^ 31 by omega), (H.2.1.2.2.2.1 c hc).2.2.1, X7_isCard_eq n H, if10', inb_d (show C < 2 ^ 31 by omega) (show i < 2 ^ 31 by omega), nI_1, nI_eq (show i < 2 ^ 31 by omega) (show c < 2 ^ 31 by omega), decide_eq_true_eq]
    by_cases k : i < C
    · have w5 := hw.2.2.2.2.1 i k
      simp only [if_pos k, (H.2.1.2.2.2.1 i k).2.2.1, nI_eq (show L 2 i < 2 ^ 31 by omega) (show L 2 c < 2 ^ 31 by omega)]
      by_cases k1 : i = c
      · simp [k, k1]
      · by_cases k2 : L 2 i = L 2 c
        · simp [k, k1, k2]
        · simp [k, k1, k2]
    · simp only [if_neg k]
      by_cases k1 : i = c
      · simp [k, k1]
      · by_cases k2 : S.1 87 (17 + i) = nI (L 2 c)
        · simp [k, k1, k2]
        · simp [k, k1, k2]
theorem X7_mark_3 (n : Nat) (hn : 10 < n) (H : CM S C Q T L) {c : Nat} (hc : c < C) (K : Int32 → Option (Int32 × aSt)) : F_X7_mark_L72 n S 82 (nI c) 3 87 K n 0 0 = K (nI (fb_ct (fun i => decide (i < Q) && ft L i c) 7)) := by
  have hw := H.2.2
  have hQ := hw.2.1
  refine lp_ct (fun fu a i => F_X7_mark_L72 n S 82 (nI c) 3 87 K fu a i) K _ 7 n (by omega) (fun fu a => ?_) (fun fu i a hi => ?_)
  · show F_X7_mark_L72 _ _ _ _ _ _ _ (fu + 1) _ _ = _
    rw [F_X7_mark_L72, if_pos (by decide)]
  · show F_X7_mark_L72 _ _ _ _ _ _ _ (fu + 1) _ _ = F_X7_mark_L72 _ _ _ _ _ _ _ fu _ _
    rw [F_X7_mark_L72, if_neg (show ¬ (7 : Int32) ≤ nI i from nI_ge hi (by decide))]
    simp (decide := true) only [nmE, jnE, bn2S, bndS, grdT, stI_22, stL_22, stRow_22, HRm, rfdS T_83, rfdS T_84, rfdS T_85, rfdS T_86, rfdS T_87, rfdS T_88, rfdS T_89, rfdS T_90, rfdS T_91, rfdS T_92, rfdS T_93, rfdS T_94, rfdS T_95, rfdS T_96, SZ_83, SZ_84, SZ_85, SZ_86, SZ_87, SZ_88, SZ_89, SZ_90, SZ_91, SZ_92, SZ_93, SZ_94, SZ_95, SZ_96, reduceIte, Bool.false_eq_true, one_ne0, X7_isQuestion_eq n H, if10', inb_d (show Q < 2 ^ 31 by omega) (show i < 2 ^ 31 by omega), nI_1, decide_eq_true_eq]
    by_cases k : i < Q
    · simp only [if_pos k, X7_isFit_eq n H hc k, bndS, if10']
      by_cases k1 : ft L i c = true
      · simp [k, k1]
      · simp [k, k1]
    · simp [k]
theorem X7_mark_5 (n : Nat) (hn : 10 < n) (H : CM S C Q T L) {c : Nat} (hc : c < C) (K : Int32 → Option (Int32 × aSt)) : F_X7_mark_L72 n S 82 (nI c) 5 87 K n 0 0 = K (nI (fb_ct (fun i => decide (i < C) && (isA (L 0 i) 2 && decide (L 1 i = me L c))) 7)) := by
  have hw := H.2.2
  have hC := hw.1
  refine lp_ct (fun fu a i => F_X7_mark_L72 n S 82 (nI c) 5 87 K fu a i) K _ 7 n (by omega) (fun fu a => ?_) (fun fu i a hi => ?_)
  · show F_X7_mark_L72 _ _ _ _ _ _ _ (fu + 1) _ _ = _
    rw [F_X7_mark_L72, if_pos (by decide)]
  · show F_X7_mark_L72 _ _ _ _ _ _ _ (fu + 1) _ _ = F_X7_mark_L72 _ _ _ _ _ _ _ fu _ _
    have e3 : (3 : Int32) + nI i = nI (3 + i) := nI_add 3 i
    have e4 : (10 : Int32) + nI i = nI (10 + i) := nI_add 10 i
    have hme := hw.mle hc
    rw [F_X7_mark_L72, if_neg (show ¬ (7 : Int32) ≤ nI i from nI_ge hi (by decide))]
    simp (decide := true) only [nmE, jnE, bn2S, bndS, grdT, stI_22, stL_22, stRow_22, HRm, rfdS T_83, rfdS T_84, rfdS T_85, rfdS T_86, rfdS T_87, rfdS T_88, rfdS T_89, rfdS T_90, rfdS T_91, rfdS T_92, rfdS T_93, rfdS T_94, rfdS T_95, rfdS T_96, SZ_83, SZ_84, SZ_85, SZ_86, SZ_87, SZ_88, SZ_89, SZ_90, SZ_91, SZ_92, SZ_93, SZ_94, SZ_95, SZ_96, reduceIte, Bool.false_eq_true, one_ne0, H.1, e3, e4, inb_nI (show 3 + i < 393 by omega) (by decide), nI_clamp (show 3 + i < 2 ^ 31 by omega), inb_nI (show 10 + i < 393 by omega) (by decide), nI_clamp (show 10 + i < 2 ^ 31 by omega), X7_isCard_eq n H, if10', inb_d (show C < 2 ^ 31 by omega) (show i < 2 ^ 31 by omega), nI_1, X7_means_eq n H hc, decide_eq_true_eq]
    by_cases k : i < C
    · have w5 := hw.2.2.2.2.1 i k
      simp only [if_pos k, (H.2.1.2.2.2.1 i k).1, (H.2.1.2.2.2.1 i k).2.1, show F_X7_isOf n S (nI (L 0 i)) 2 = _ from X7_isOf_eq n S w5.1 (show 2 ≤ 5 by decide), bndS, if10', nI_eq (show L 1 i < 2 ^ 31 by omega) (show me L c < 2 ^ 31 by omega)]
      by_cases k1 : isA (L 0 i) 2 = true
      · by_cases k2 : L 1 i = me L c
        · simp [k, k1, k2]
        · simp [k, k1, k2]
      · simp [k, k1]
    · obtain ⟨r, er⟩ := X7_isOf_any n S (S.1 87 (3 + i)) 2
      simp only [if_neg k, er, bndS]
      by_cases k1 : r = 0
      · simp [k, k1]
      · by_cases k2 : S.1 87 (10 + i) = nI (me L c)
        · simp [k, k1, k2]
        · simp [k, k1, k2]
end Lib11
theorem op_mark (n : Nat) (hn : 100 < n) {S : aSt} (H : OK S) (c k : Int32) : Both S (F_X6_mark n S 0 c k) (fun S1 => F_X7_mark n S1 82 c k) := by
  obtain ⟨h, d, C, Q, T, L, hX, hM, hCX, hCM, hk⟩ := H.get
  have hw := hCM.2.2
  have hC := hw.1
  have hQ := hw.2.1
  have e1 : (1 : Int32).toInt = 1 := rfl
  have e5 : (5 : Int32).toInt = 5 := rfl
  have e6 : (6 : Int32).toInt = 6 := rfl
  have e0 : (0 : Int32).toInt = 0 := rfl
  have ei := fun S => X7_in_i n S k 1 5
  simp only [e1, e5] at ei
  by_cases hc : inb c C = true
  · obtain ⟨c, hc', rfl⟩ := inb_ex hc (by omega)
    have w5 := hw.2.2.2.2.1 c hc'
    have hme := hw.mle hc'
    have hcl : (nI c).toNatClampNeg = c := nI_clamp (by omega)
    have f3 : (3 : Int32) + nI c = nI (3 + c) := nI_add 3 c
    have f10 : (10 : Int32) + nI c = nI (10 + c) := nI_add 10 c
    by_cases hk : 1 ≤ k.toInt ∧ k.toInt ≤ 5
    · have hi : inb k 6 = true := inb_iff.mpr ⟨by omega, by omega⟩
      have k0 : ¬ k ≤ 0 := by rw [Int32.le_iff_toInt_le, e0]; omega
      have k6 : k < 6 := by rw [Int32.lt_iff_toInt_lt, e6]; omega
      obtain ⟨k, hk', rfl⟩ := inb_ex hi (by decide)
      rw [nI_toInt (show k < 2 ^ 31 by omega)] at hk
      by_cases ha : isA (L 0 c) k = true
      · have key : ∃ r, F_X1_markOf n S h (nI c) (nI k) = some r ∧ F_X7_mark n S 82 (nI c) (nI k) = some (r, S) := by
          unfold F_X7_mark F_X1_markOf
          rw [show (1 : Int64) = (1 : Int32).toInt64 from rfl, show (5 : Int64) = (5 : Int32).toInt64 from rfl]
          simp only [nmE, jnE, bn2S, bndS, grdT, stI_22, stL_22, stRow_22, HRm, rfdS T_83, rfdS T_84, rfdS T_85, rfdS T_86, rfdS T_87, rfdS T_88, rfdS T_89, rfdS T_90, rfdS T_91, rfdS T_92, rfdS T_93, rfdS T_94, rfdS T_95, rfdS T_96, SZ_83, SZ_84, SZ_85, SZ_86, SZ_87, SZ_88, SZ_89, SZ_90, SZ_91, SZ_92, SZ_93, SZ_94, SZ_95, SZ_96, reduceIte, Bool.false_eq_true, one_ne0, hCM.1, X7_isCard_eq n hCM, if10', hc, ei, nI_toInt (show k < 2 ^ 31 by omega), hk, and_self, f3, f10, inb_nI (show 3 + c < 393 by omega) (by decide), nI_clamp (show 3 + c < 2 ^ 31 by omega), inb_nI (show 10 + c < 393 by omega) (by decide), nI_clamp (show 10 + c < 2 ^ 31 by omega), (hCM.2.1.2.2.2.1 c hc').1, (hCM.2.1.2.2.2.1 c hc').2.1, X7_isOf_eq n S w5.1 (show k ≤ 5 by omega), ha, X7_means_eq n hCM hc', X1_meaningOf_eq n hCX hc', X1_questionsFitted_eq n (show 10 < n by omega) hCX hc', X1_yesMeaning_eq n (show 10 < n by omega) hCX (show me L c < 2 ^ 31 by omega), X1_placesSaying_eq n (show 10 < n by omega) hCX (show me L c < 2 ^ 31 by omega), hCX.r1, hCX.r6, hCX.s0, rfdS (tg2 hCX.1), rfdS (tg7 hCX.1), rfdS (tgs1 hCX.1), sg2 hCX.1, sgs1 hCX.1, inb_nI (show c < 7 by omega) (by decide), hcl, (hCX.2.2.2.1.2.2.2.2.2.1 c hc').1, (hCX.2.2.2.1.2.2.1 c hc').2, X1_cardsOn_eq n (show 10 < n by omega) hCX (show L 2 c < 2 ^ 31 by omega)]
          rcases (show k = 1 ∨ k = 2 ∨ k = 3 ∨ k = 4 ∨ k = 5 by omega) with rfl | rfl | rfl | rfl | rfl
          · simp (decide := true) only [if_true, if_false]
            rw [show nI 1 = (1 : Int32) from rfl, X7_mark_1 n (by omega) hCM hc', ct_cut _ hC]
            exact ⟨_, rfl, rfl⟩
          · simp (decide := true) only [if_true, if_false]
            rw [show nI 2 = (2 : Int32) from rfl, X7_mark_2 n (by omega) hCM hc', ct_cut _ hC]
            have := ct_but (fun i => decide (L 2 i = L 2 c)) hc' (by simp)
            refine ⟨_, rfl, ?_⟩
            rw [← this, ← nI_1]
            simp
          · simp (decide := true) only [if_true, if_false]
            rw [show nI 3 = (3 : Int32) from rfl, X7_mark_3 n (by omega) hCM hc', ct_cut _ hQ]
            exact ⟨_, rfl, rfl⟩
          · simp (decide := true) only [if_true, if_false]
            exact ⟨_, rfl, rfl⟩
          · simp (decide := true) only [if_true, if_false]
            rw [show nI 5 = (5 : Int32) from rfl, X7_mark_5 n (by omega) hCM hc', ct_cut _ hC]
            exact ⟨_, rfl, rfl⟩
        obtain ⟨r, q1, q2⟩ := key
        refine Both.same H r ?_ q2
        unfold F_X6_mark
        simp only [X0_here hX, X1_isCard_eq n hCX, bndS, if10', nmE, jnE, bn2S, bndS, grdT, stI_22, stL_22, stRow_22, reduceIte, Bool.false_eq_true, one_ne0, hc, k0, k6, hCX.r0, rfdS (tg1 hCX.1), sg1 hCX.1, inb_nI (show c < 7 by omega) (by decide), hcl, (hCX.2.2.2.1.2.2.1 c hc').1, X0_isA_eq n S w5.1 (show k ≤ 5 by omega), ha, q1]
      · refine Both.fnd H 3 (by decide) ?_ ?_
        · unfold F_X6_mark
          simp only [X0_here hX, X1_isCard_eq n hCX, bndS, if10', nmE, jnE, bn2S, bndS, grdT, stI_22, stL_22, stRow_22, reduceIte, Bool.false_eq_true, one_ne0, hc, k0, k6, hCX.r0, rfdS (tg1 hCX.1), sg1 hCX.1, inb_nI (show c < 7 by omega) (by decide), hcl, (hCX.2.2.2.1.2.2.1 c hc').1, X0_isA_eq n S w5.1 (show k ≤ 5 by omega), ha]
          rw [show (3 : Int32) = nI 3 from rfl, X6_found_eq n hX (by decide)]
          rfl
        · have hCM1 : CM (xFnd S 3) C Q T L := hCM.congr rfl (xFnd_m (by decide))
          show F_X7_mark n (xFnd S 3) 82 _ _ = _
          unfold F_X7_mark
          rw [show (1 : Int64) = (1 : Int32).toInt64 from rfl, show (5 : Int64) = (5 : Int32).toInt64 from rfl]
          simp only [nmE, jnE, bn2S, bndS, grdT, stI_22, stL_22, stRow_22, HRm, rfdS T_83, rfdS T_84, rfdS T_85, rfdS T_86, rfdS T_87, rfdS T_88, rfdS T_89, rfdS T_90, rfdS T_91, rfdS T_92, rfdS T_93, rfdS T_94, rfdS T_95, rfdS T_96, SZ_83, SZ_84, SZ_85, SZ_86, SZ_87, SZ_88, SZ_89, SZ_90, SZ_91, SZ_92, SZ_93, SZ_94, SZ_95, SZ_96, reduceIte, Bool.false_eq_true, one_ne0, hCM1.1, X7_isCard_eq n hCM1, if10', hc, ei, nI_toInt (show k < 2 ^ 31 by omega), hk, and_self, f3, inb_nI (show 3 + c < 393 by omega) (by decide), nI_clamp (show 3 + c < 2 ^ 31 by omega), (hCM1.2.1.2.2.2.1 c hc').1, X7_isOf_eq n (xFnd S 3) w5.1 (show k ≤ 5 by omega), ha]
          rw [show (3 : Int32) = nI 3 from rfl, X7_found_eq n (RfM_xFnd hM) (by decide)]
          rfl
    · refine Both.same H (-1) ?_ ?_
      · unfold F_X6_mark
        simp only [X0_here hX, X1_isCard_eq n hCX, bndS, if10', reduceIte, Bool.false_eq_true, one_ne0, hc]
        by_cases k0 : k ≤ 0
        · rw [if_pos k0]
        · rw [if_neg k0, if_neg]
          rw [Int32.le_iff_toInt_le, e0] at k0
          rw [Int32.lt_iff_toInt_lt, e6]; omega
      · unfold F_X7_mark
        rw [show (1 : Int64) = (1 : Int32).toInt64 from rfl, show (5 : Int64) = (5 : Int32).toInt64 from rfl]
        simp only [nmE, jnE, bn2S, bndS, grdT, stI_22, stL_22, stRow_22, X7_isCard_eq n hCM, bndS, if10', reduceIte, Bool.false_eq_true, one_ne0, hc, ei, hk]
  · refine Both.same H (-1) ?_ ?_
    · unfold F_X6_mark
      simp only [X0_here hX, X1_isCard_eq n hCX, bndS, if10', reduceIte, Bool.false_eq_true, one_ne0, hc]
    · unfold F_X7_mark
      simp only [X7_isCard_eq n hCM, bndS, if10', reduceIte, Bool.false_eq_true, one_ne0, hc]
