/-! parts: the class. -/
theorem pst_skip (L : Nat → Nat → Nat) (C : Nat) (t : Int32 × Int32 × Int32) {k a : Nat} (ha : a < 10) : ∀ j, j ≤ a → itr (pst L C) t (100 * k + 10 * a + j) = itr (pst L C) t (100 * k + 10 * a)
  | 0, _ => rfl
  | j + 1, h => by
    have e : pst L C (100 * k + 10 * a + j) (itr (pst L C) t (100 * k + 10 * a + j)) = itr (pst L C) t (100 * k + 10 * a + j) := if_neg (by omega)
    exact e.trans (pst_skip L C t ha j (by omega))
theorem Both.tellW {S S' : aSt} (H : OK S) (k : Sm S S') {fx : Option (Int32 × aSt)} {fm : aSt → Option (Int32 × aSt)} (v r : Int32) (h1 : fx = some (r, xTell S' v)) (h2 : fm (xTell S' v) = some (r, mTell (xTell S' v) v)) : Both S fx fm := ⟨_, _, _, h1, h2, (H.sm k).tell v⟩
theorem nI_n0 {C : Nat} (k : ¬ C = 0) (h : C < 2 ^ 31) : ¬ nI C = 0 := fun z => k ((nI_eq (b := 0) h (by decide)).mp z)
section Lib13
variable {S : aSt} {h C Q T : Nat} {L : Nat → Nat → Nat}
theorem X3_countMeanings_eq (n : Nat) (hn : 20 < n) (H : CX S h C Q T L) (hr : S.2.2 9 = HRn 9 3) {k : Nat} (hk : k ≤ 5) : ∃ S', F_X3_countMeanings n S 9 h (nI k) = some S' ∧ Sm S S' ∧ S'.1 9 = S.1 9 ∧ ∀ m, m < 10 → S'.1 10 m = nI (mc L k m C) := by
  have hw := H.2.2.2.2
  have hC := hw.1
  have r0 : HRn 9 3 0 = some 10 := rfl
  unfold F_X3_countMeanings
  simp only [nmE, jnE, bn2S, bndS, grdT, stI_22, stL_22, stRow_22, hr, r0, rfdS T_10, J7_fill_eq n S SZ_10 (show 10 < 2 ^ 31 by decide) (show 10 < n by omega)]
  have key := lp_ex (fun fu i s => F_X3_countMeanings_L10 n 9 h (nI k) (fun x => some x) fu i s) (fun x => some x) (fun c S' => Sm S S' ∧ S'.1 9 = S.1 9 ∧ ∀ m, m < 10 → S'.1 10 m = nI (mc L k m c)) C (fun fu S' hP => ?_) (fun fu c S' hc hP => ?_) C 0 n (stRow S 10 (fil (S.1 10) 0 10 0)) (by omega) (by omega) ?_
  · obtain ⟨z, hz, e⟩ := key
    exact ⟨z, e, hz⟩
  · show F_X3_countMeanings_L10 _ _ _ _ _ (fu + 1) _ _ = _
    rw [F_X3_countMeanings_L10, (H.sm hP.1).2.2.2.1.1, if_pos (Int32.le_refl _)]
  · show ∃ z, _ ∧ F_X3_countMeanings_L10 _ _ _ _ _ (fu + 1) _ _ = F_X3_countMeanings_L10 _ _ _ _ _ fu _ z
    have H' := H.sm hP.1
    have w5 := hw.2.2.2.2.1 c hc
    have hme := hw.mle hc
    have hr' : S'.2.2 9 = HRn 9 3 := by rw [hP.1.2.2.2]; exact hr
    rw [F_X3_countMeanings_L10, H'.2.2.2.1.1, if_neg (nI_ge hc (by omega))]
    simp only [nmE, jnE, bn2S, bndS, grdT, stI_22, stL_22, stRow_22, H'.r0, rfdS (tg1 H.1), sg1 H.1, inb_nI (show c < 7 by omega) (by decide), nI_clamp (show c < 2 ^ 31 by omega), (H'.2.2.2.1.2.2.1 c hc).1, X0_isA_eq n S' w5.1 hk, if10', hr', r0, rfdS T_10, SZ_10, X1_meaningOf_eq n H' hc, inb_nI (show me L c < 10 by omega) (by decide), nI_clamp (show me L c < 2 ^ 31 by omega), nI_1]
    by_cases q : isA (L 0 c) k = true
    · refine ⟨stI S' 10 (me L c) (S'.1 10 (me L c) + 1), ⟨hP.1.stI (by decide) _ _, ?_, fun m hm => ?_⟩, by rw [if_pos q]⟩
      · rw [stI_ne (by decide)]; exact hP.2.1
      · rw [stI_at, if_pos rfl]
        have e : mc L k m (c + 1) = mc L k m c + (if me L c = m then 1 else 0) := by
          unfold mc
          rw [fb_ct_succ]
          simp only [q, Bool.true_and, decide_eq_true_eq]
        rw [e]
        by_cases z : m = me L c
        · rw [if_pos z, if_pos z.symm, ← z, hP.2.2 m hm, nI_1]
        · rw [if_neg z, if_neg (fun y => z y.symm), hP.2.2 m hm, Nat.add_zero]
    · refine ⟨S', ⟨hP.1, hP.2.1, fun m hm => ?_⟩, by rw [if_neg q]⟩
      have e : mc L k m (c + 1) = mc L k m c := by
        unfold mc
        rw [fb_ct_succ, if_neg (by simp [q]), Nat.add_zero]
      rw [e]
      exact hP.2.2 m hm
  · refine ⟨⟨fun i q => ?_, ?_, ?_, rfl⟩, ?_, fun m hm => ?_⟩
    · rw [stRow_ne (by omega)]
    · rw [stRow_ne (by omega)]
    · rw [stRow_ne (by omega)]
    · rw [stRow_ne (by omega)]
    · rw [stRow_at, if_pos rfl]
      unfold fil
      rw [if_pos (by omega)]
      rfl
def Pt (S : aSt) (t : Int32 × Int32 × Int32) (S' : aSt) : Prop := Sm S S' ∧ S'.1 9 3 = t.1 ∧ S'.1 9 6 = t.2.1 ∧ S'.1 9 4 = t.2.2
theorem X3_partFrom_eq (n : Nat) (hn : 20 < n) (hC : C ≤ 7) {t : Int32 × Int32 × Int32} (hr : S.2.2 9 = HRn 9 3) {k a : Nat} (hk : k < 6) (ha : a < 10) {S1 : aSt} (hP : Pt S (itr (pst L C) t (100 * k + 10 * a)) S1) (hc : ∀ m, m < 10 → S1.1 10 m = nI (mc L k m C)) : ∃ S', F_X3_partFrom n S1 9 (nI k) (nI a) (nI C) = some S' ∧ Pt S (itr (pst L C) t (100 * k + 10 * (a + 1))) S' ∧ ∀ m, m < 10 → S'.1 10 m = nI (mc L k m C) := by
  have r0 : HRn 9 3 0 = some 10 := rfl
  unfold F_X3_partFrom
  simp only [jnE]
  have key := lp_ex (fun fu i (s : Int32 × aSt) => F_X3_partFrom_L6 9 (nI k) (nI a) (nI C) (fun x => some x) fu s.1 i s.2) (fun x => some x.2) (fun b s => s.1 = nI (ms L C k a b) ∧ a ≤ b ∧ Pt S (itr (pst L C) t (100 * k + 10 * a + b)) s.2 ∧ ∀ m, m < 10 → s.2.1 10 m = nI (mc L k m C)) 10 (fun fu s hP => ?_) (fun fu b s hb hP => ?_) (10 - a) a n (0, S1) (by omega) (by omega) ?_
  · obtain ⟨z, hz, e⟩ := key
    exact ⟨z.2, e, hz.2.2⟩
  · show F_X3_partFrom_L6 _ _ _ _ _ (fu + 1) _ _ _ = _
    rw [F_X3_partFrom_L6, if_pos (by decide)]
  · show ∃ z : Int32 × aSt, _ ∧ F_X3_partFrom_L6 _ _ _ _ _ (fu + 1) _ _ _ = F_X3_partFrom_L6 _ _ _ _ _ fu z.1 _ z.2
    obtain ⟨h1, h2, h3, h4⟩ := hP
    obtain ⟨v, S'⟩ := s
    dsimp only at h1 h3 h4 ⊢
    have hr' : S'.2.2 9 = HRn 9 3 := by rw [h3.1.2.2.2]; exact hr
    rw [F_X3_partFrom_L6, if_neg (show ¬ (10 : Int32) ≤ nI b from nI_ge hb (by decide))]
    have hx : (100 * k + 10 * a + b) / 100 = k ∧ (100 * k + 10 * a + b) / 10 % 10 = a ∧ (100 * k + 10 * a + b) % 10 = b := by omega
    have hm := mf_le L C k a b
    have e1 := ab_dec (mf L C k a b) (by omega) C (by omega)
    have e2 := s2_dec (if 2 * mf L C k a b ≤ C then C - 2 * mf L C k a b else 2 * mf L C k a b - C) (by split <;> omega) a ha b hb h2
    have e3 : scr L C (100 * k + 10 * a + b) = 10 * (if 2 * mf L C k a b ≤ C then C - 2 * mf L C k a b else 2 * mf L C k a b - C) + (b - a) := by
      unfold scr; rw [hx.1, hx.2.1, hx.2.2]
    rw [← e3, ← e1] at e2
    have ep : itr (pst L C) t (100 * k + 10 * a + (b + 1)) = if (itr (pst L C) t (100 * k + 10 * a + b)).2.1 ≤ nI (scr L C (100 * k + 10 * a + b)) then itr (pst L C) t (100 * k + 10 * a + b) else (nI (100 * k + 10 * a + b), nI (scr L C (100 * k + 10 * a + b)), nI (mf L C k a b)) := by
      have e : pst L C (100 * k + 10 * a + b) (itr (pst L C) t (100 * k + 10 * a + b)) = _ := if_pos (by rw [hx.2.1, hx.2.2]; exact h2)
      rw [hx.1, hx.2.1, hx.2.2] at e
      exact e
    have es : nI (ms L C k a b) + nI (mc L k b C) = nI (mf L C k a b) := by rw [nI_add, ← ms_s L C k a b h2, mf_ms]
    simp only [nmE, jnE, bn2S, bndS, grdT, stI_22, stL_22, stRow_22, hr', r0, rfdS T_10, SZ_10, inb_nI (show b < 10 from hb) (by decide), nI_clamp (show b < 2 ^ 31 by omega), h1, h4 b hb, es, e2, nI_1, cd_dec k hk a ha b hb, h3.2.2.1]
    by_cases c : (itr (pst L C) t (100 * k + 10 * a + b)).2.1 ≤ nI (scr L C (100 * k + 10 * a + b))
    · rw [if_pos c] at ep
      refine ⟨(nI (mf L C k a b), S'), ⟨by rw [mf_ms], by omega, by rw [ep]; exact h3, h4⟩, by rw [if_pos c]⟩
    · rw [if_neg c] at ep
      refine ⟨(nI (mf L C k a b), stI (stI (stI S' 9 6 (nI (scr L C (100 * k + 10 * a + b)))) 9 3 (nI (100 * k + 10 * a + b))) 9 4 (nI (mf L C k a b))), ⟨by rw [mf_ms], by omega, ?_, fun m hm => ?_⟩, by rw [if_neg c]⟩
      · rw [ep]
        refine ⟨((h3.1.stI (by decide) _ _).stI (by decide) _ _).stI (by decide) _ _, ?_, ?_, ?_⟩ <;> simp [stI_at]
      · rw [stI_ne (by decide), stI_ne (by decide), stI_ne (by decide)]
        exact h4 m hm
  · refine ⟨by rw [ms_0]; rfl, Nat.le_refl _, ?_, hc⟩
    rw [pst_skip L C t ha a (Nat.le_refl _)]
    exact hP
theorem X3_partBest_eq (n : Nat) (hn : 20 < n) (H : CX S h C Q T L) (hr : S.2.2 9 = HRn 9 3) : ∃ S', F_X3_partBest n S 9 h = some S' ∧ Pt S (itr (pst L C) (S.1 9 3, 2147483647, S.1 9 4) 600) S' := by
  have hC := H.2.2.2.2.1
  unfold F_X3_partBest
  simp only [nmE, jnE, bn2S, bndS, grdT, stI_22, stL_22, stRow_22]
  have key := lp_ex (fun fu i s => F_X3_partBest_L8 n 9 h (fun x => some x) fu i s) (fun x => some x) (fun k s => Pt S (itr (pst L C) (S.1 9 3, 2147483647, S.1 9 4) (100 * k)) s) 6 (fun fu s hP => ?_) (fun fu k s hk hP => ?_) 6 0 n (stI S 9 6 2147483647) (by omega) (by omega) ?_
  · obtain ⟨z, hz, e⟩ := key
    exact ⟨z, e, hz⟩
  · show F_X3_partBest_L8 _ _ _ _ (fu + 1) _ _ = _
    rw [F_X3_partBest_L8, if_pos (by decide)]
  · show ∃ z, _ ∧ F_X3_partBest_L8 _ _ _ _ (fu + 1) _ _ = F_X3_partBest_L8 _ _ _ _ fu _ z
    have hr1 : s.2.2 9 = HRn 9 3 := by rw [hP.1.2.2.2]; exact hr
    obtain ⟨S1, f1, f2, f3, f4⟩ := X3_countMeanings_eq n hn (H.sm hP.1) hr1 (show k ≤ 5 by omega)
    rw [F_X3_partBest_L8, if_neg (show ¬ (6 : Int32) ≤ nI k from nI_ge hk (by decide)), f1]
    simp only [nmE, jnE, bn2S, bndS, grdT, stI_22, stL_22, stRow_22, nI_1]
    have P1 : Pt S (itr (pst L C) (S.1 9 3, 2147483647, S.1 9 4) (100 * k)) S1 := ⟨hP.1.trans f2, by rw [f3]; exact hP.2.1, by rw [f3]; exact hP.2.2.1, by rw [f3]; exact hP.2.2.2⟩
    have key2 := lp_ex (fun fu2 i s => F_X3_partBest_L22 n 9 h (nI k) (fun x44S => F_X3_partBest_L8 n 9 h (fun x => some x) fu (nI (k + 1)) x44S) fu2 i s) (fun x44S => F_X3_partBest_L8 n 9 h (fun x => some x) fu (nI (k + 1)) x44S) (fun a s => Pt S (itr (pst L C) (S.1 9 3, 2147483647, S.1 9 4) (100 * k + 10 * a)) s ∧ ∀ m, m < 10 → s.1 10 m = nI (mc L k m C)) 10 (fun fu2 s hP => ?_) (fun fu2 a s ha hP => ?_) 10 0 n S1 (by omega) (by omega) ⟨P1, f4⟩
    · obtain ⟨z, hz, e⟩ := key2
      exact ⟨z, hz.1, e⟩
    · show F_X3_partBest_L22 _ _ _ _ _ (fu2 + 1) _ _ = _
      rw [F_X3_partBest_L22, if_pos (by decide)]
    · show ∃ z, _ ∧ F_X3_partBest_L22 _ _ _ _ _ (fu2 + 1) _ _ = F_X3_partBest_L22 _ _ _ _ _ fu2 _ z
      obtain ⟨S2, g1, g2, g3⟩ := X3_partFrom_eq n hn hC hr hk ha hP.1 hP.2
      refine ⟨S2, ⟨g2, g3⟩, ?_⟩
      rw [F_X3_partBest_L22, if_neg (show ¬ (10 : Int32) ≤ nI a from nI_ge ha (by decide)), (H.sm hP.1.1).2.2.2.1.1, g1]
      simp only [nmE, jnE, bn2S, bndS, grdT, stI_22, stL_22, stRow_22, nI_1]
  · refine ⟨(Sm.refl S).stI (by decide) _ _, ?_, ?_, ?_⟩ <;> simp [stI_at, itr]
end Lib13
theorem op_parts (n : Nat) (hn : 1000 < n) {S : aSt} (H : OK S) : Both S (F_X6_parts n S 0) (fun S1 => F_X7_parts n S1 82) := by
  obtain ⟨h, d, C, Q, T, L, hX, hM, hCX, hCM, hk⟩ := H.get
  have hC := hCM.2.2.1
  by_cases k : C = 0
  · refine Both.same H (-4) ?_ ?_
    · unfold F_X6_parts
      rw [X0_here hX, hCX.2.2.2.1.1, if_pos (show nI C = 0 by rw [k]; rfl)]
    · unfold F_X7_parts
      simp only [nmE, jnE, bn2S, bndS, grdT, stI_22, stL_22, stRow_22, HRm, rfdS T_83, rfdS T_84, rfdS T_85, rfdS T_86, rfdS T_87, rfdS T_88, rfdS T_89, rfdS T_90, rfdS T_91, rfdS T_92, rfdS T_93, rfdS T_94, rfdS T_95, rfdS T_96, SZ_83, SZ_84, SZ_85, SZ_86, SZ_87, SZ_88, SZ_89, SZ_90, SZ_91, SZ_92, SZ_93, SZ_94, SZ_95, SZ_96, hCM.1, in0, hCM.v0]
      rw [if_pos (show nI C = 0 by rw [k]; rfl)]
  · have r5 : HR0 h d 5 = some 9 := rfl
    obtain ⟨S1, f1, f2⟩ := X3_partBest_eq n (by omega) hCX hX.2.2.2.2.2.2.2.1
    have e6 : itr (pst L C) (S.1 9 3, 2147483647, S.1 9 4) 600 = itr (pst L C) (0, 99, 0) 600 := pst_all L hC _ (by show (70 : Int) < (2147483647 : Int32).toInt; decide) 599
    rw [e6] at f2
    generalize hz : itr (pst L C) (0, 99, 0) 600 = z at f2
    refine Both.tellW H f2.1 z.2.2 z.1 ?_ ?_
    · have hr : S1.2.2 0 = HR0 h d := by rw [f2.1.2.2.2]; exact hX.2.1
      unfold F_X6_parts
      rw [X0_here hX, hCX.2.2.2.1.1, if_neg (nI_n0 k (by omega))]
      simp only [nmE, jnE, bn2S, bndS, grdT, stI_22, stL_22, stRow_22, hX.2.1, r5, rfdS T_9, f1, hr, f2.2.2.2]
      rw [stI_ne (by decide), f2.2.1]
      rfl
    · have hCM1 : CM (xTell S1 z.2.2) C Q T L := (hCM.sm f2.1).congr rfl (xTell_m (by decide))
      show F_X7_parts n (xTell S1 z.2.2) 82 = _
      unfold F_X7_parts
      simp only [nmE, jnE, bn2S, bndS, grdT, stI_22, stL_22, stRow_22, HRm, rfdS T_83, rfdS T_84, rfdS T_85, rfdS T_86, rfdS T_87, rfdS T_88, rfdS T_89, rfdS T_90, rfdS T_91, rfdS T_92, rfdS T_93, rfdS T_94, rfdS T_95, rfdS T_96, SZ_83, SZ_84, SZ_85, SZ_86, SZ_87, SZ_88, SZ_89, SZ_90, SZ_91, SZ_92, SZ_93, SZ_94, SZ_95, SZ_96, hCM1.1, in0, hCM1.v0]
      rw [if_neg (nI_n0 k (by omega)), X7_parts_loop n (by omega) hCM1, hz]
      simp only [X7_tell_eq, bn2S]
