/-! matchings: what the reference counts at each way. -/
theorem nI_mulN (a b : Nat) : nI a * nI b = nI (a * b) := (Int32.ofNat_mul a b).symm
theorem nI_subN (a b : Nat) : nI (a + b) - nI b = nI a := by
  rw [← nI_add]
  exact Int32.add_sub_cancel _ _
def hit (C Q : Nat) (x : Nat → Nat) (i : Nat) : Bool := decide (i / 7 < Q) && (decide (x (i / 7) < C) && decide (x (i / 7) = i % 7))
def hn1 (C Q : Nat) (x : Nat → Nat) (i : Nat) : Nat := if hit C Q x i = true then 1 else 0
def CS (C Q : Nat) (l : List lf) (S : aSt) : Prop := (l = [] ∧ S.1 82 18 = -1) ∨ ∃ (mo : Nat) (be : Nat → Nat) (V : Nat), mo ≤ 63 ∧ S.1 82 18 = nI mo ∧ (∀ y, y ∈ l → y.2.1 ≤ mo) ∧ l.find? (fun y => decide (y.2.1 = mo)) = some (V, mo, be) ∧ S.1 82 17 = nI (l.countP (fun y => decide (y.2.1 = mo))) ∧ (∀ i, i < 49 → S.1 94 i = nI (l.countP (fun y => decide (y.2.1 = mo) && hit C Q y.2.2 i))) ∧ ∀ q, q < Q → S.1 93 q = if be q < C then nI (be q) else -9
theorem CS.congr {C Q : Nat} {l : List lf} {S S' : aSt} (H : CS C Q l S) (e1 : S'.1 82 18 = S.1 82 18) (e2 : S'.1 82 17 = S.1 82 17) (e3 : S'.1 94 = S.1 94) (e4 : S'.1 93 = S.1 93) : CS C Q l S' := by
  unfold CS at *
  rw [e1, e2, e3, e4]
  exact H
theorem hit_s {C c : Nat} {x : Nat → Nat} (hC : C ≤ 7) (i : Nat) : hn1 C (c + 1) x i = hn1 C c x i + (if x c < C ∧ i = 7 * c + x c then 1 else 0) := by
  unfold hn1 hit
  by_cases h1 : i / 7 < c
  · have : ¬ i / 7 = c := by omega
    rw [if_neg (show ¬ (x c < C ∧ i = 7 * c + x c) by omega)]
    simp [h1, show i / 7 < c + 1 by omega]
  · by_cases h2 : i / 7 = c
    · rw [if_neg (show ¬ (decide (i / 7 < c) && (decide (x (i / 7) < C) && decide (x (i / 7) = i % 7))) = true by simp [h1]), Nat.zero_add, h2]
      by_cases h3 : x c < C
      · by_cases h4 : x c = i % 7
        · rw [if_pos (by simp [h3, h4] ; omega), if_pos ⟨h3, by omega⟩]
        · rw [if_neg (by simp [h4]), if_neg (by omega)]
      · rw [if_neg (by simp [h3]), if_neg (by omega)]
    · rw [if_neg (by simp; omega), if_neg (by simp [h1]), if_neg (by omega)]
section Walk
variable {S : aSt} {C Q T : Nat} {L : Nat → Nat → Nat}
theorem X7_cts_hits (n : Nat) (hn : 10 < n) (H : CM S C Q T L) {x : Nat → Nat} (hx : ∀ q, q < Q → S.1 92 q = nI (x q) ∧ x q ≤ C) (K : aSt → Option aSt) : F_X7_counts_L111 82 (nI C) K n 0 S = K (stRow S 94 (fun i => S.1 94 i + nI (hn1 C Q x i))) := by
  have hC := H.2.2.1
  have hQ := H.2.2.2.1
  have key := lp_eq (fun fu (s : aSt) i => F_X7_counts_L111 82 (nI C) K fu i s) K (fun c => stRow S 94 (fun i => S.1 94 i + nI (hn1 C c x i))) Q (fun fu => ?_) (fun fu c hc => ?_) Q 0 n (by omega) (by omega)
  · have z : stRow S 94 (fun i => S.1 94 i + nI (hn1 C 0 x i)) = S := by
      have e : (fun i => S.1 94 i + nI (hn1 C 0 x i)) = S.1 94 := by
        funext i
        simp [hn1, hit, nI_0]
      rw [e]
      exact stRow_id S 94
    rw [z] at key
    exact key
  · show F_X7_counts_L111 _ _ _ (fu + 1) _ _ = _
    rw [F_X7_counts_L111]
    simp only [nmE, jnE, bn2S, bndS, grdT, stI_22, stL_22, stRow_22, HRm, rfdS T_83, rfdS T_84, rfdS T_85, rfdS T_86, rfdS T_87, rfdS T_88, rfdS T_89, rfdS T_90, rfdS T_91, rfdS T_92, rfdS T_93, rfdS T_94, rfdS T_95, rfdS T_96, SZ_83, SZ_84, SZ_85, SZ_86, SZ_87, SZ_88, SZ_89, SZ_90, SZ_91, SZ_92, SZ_93, SZ_94, SZ_95, SZ_96, H.1, in1, stRow_ne (show (87 : Nat) ≠ 94 by decide), H.v1]
    rw [if_pos (Int32.le_refl _)]
  · show F_X7_counts_L111 _ _ _ (fu + 1) _ _ = F_X7_counts_L111 _ _ _ fu _ _
    obtain ⟨x1, x2⟩ := hx c hc
    rw [F_X7_counts_L111]
    simp only [nmE, jnE, bn2S, bndS, grdT, stI_22, stL_22, stRow_22, HRm, rfdS T_83, rfdS T_84, rfdS T_85, rfdS T_86, rfdS T_87, rfdS T_88, rfdS T_89, rfdS T_90, rfdS T_91, rfdS T_92, rfdS T_93, rfdS T_94, rfdS T_95, rfdS T_96, SZ_83, SZ_84, SZ_85, SZ_86, SZ_87, SZ_88, SZ_89, SZ_90, SZ_91, SZ_92, SZ_93, SZ_94, SZ_95, SZ_96, H.1, in1, stRow_ne (show (87 : Nat) ≠ 94 by decide), stRow_ne (show (92 : Nat) ≠ 94 by decide), H.v1]
    rw [if_neg (nI_ge hc (by omega))]
    simp only [nmE, jnE, bn2S, bndS, grdT, stI_22, stL_22, stRow_22, HRm, rfdS T_83, rfdS T_84, rfdS T_85, rfdS T_86, rfdS T_87, rfdS T_88, rfdS T_89, rfdS T_90, rfdS T_91, rfdS T_92, rfdS T_93, rfdS T_94, rfdS T_95, rfdS T_96, SZ_83, SZ_84, SZ_85, SZ_86, SZ_87, SZ_88, SZ_89, SZ_90, SZ_91, SZ_92, SZ_93, SZ_94, SZ_95, SZ_96, inb_nI (show c < 7 by omega) (by decide), nI_clamp (show c < 2 ^ 31 by omega), x1, stRow_self, li_7, nI_mulN, nI_add, stI_stRow, nI_1]
    by_cases k : x c < C
    · rw [if_neg (nI_ge k (by omega))]
      simp only [nmE, jnE, bn2S, bndS, grdT, stI_22, stL_22, stRow_22, inb_nI (show 7 * c + x c < 49 by omega) (by decide), nI_clamp (show 7 * c + x c < 2 ^ 31 by omega)]
      congr 2
      funext i
      rw [hit_s hC]
      unfold upd
      by_cases e : i = 7 * c + x c
      · subst e
        rw [if_pos rfl, if_pos ⟨k, rfl⟩, ← nI_add, Int32.add_assoc]
        rfl
      · rw [if_neg e, if_neg (fun z => e z.2), Nat.add_zero]
    · rw [if_pos (nI_le (by omega) (by omega))]
      congr 2
      funext i
      rw [hit_s hC, if_neg (fun z => k z.1), Nat.add_zero]
theorem X7_cts_zero (n : Nat) (hn : 60 < n) (hM : S.2.2 82 = HRm) (K : aSt → Option aSt) : F_X7_counts_L27 82 K n 0 S = K (stRow S 94 (fil (S.1 94) 0 49 0)) := by
  have key := lp_eq (fun fu (s : aSt) i => F_X7_counts_L27 82 K fu i s) K (fun c => stRow S 94 (fil (S.1 94) 0 c 0)) 49 (fun fu => ?_) (fun fu c hc => ?_) 49 0 n (by omega) (by omega)
  · (try dsimp only at key)
    rw [fil_0, stRow_id] at key
    exact key
  · show F_X7_counts_L27 _ _ (fu + 1) _ _ = _
    rw [F_X7_counts_L27, if_pos (by decide)]
  · show F_X7_counts_L27 _ _ (fu + 1) _ _ = F_X7_counts_L27 _ _ fu _ _
    rw [F_X7_counts_L27, if_neg (show ¬ (49 : Int32) ≤ nI c from nI_ge hc (by decide))]
    simp only [nmE, jnE, bn2S, bndS, grdT, stI_22, stL_22, stRow_22, HRm, rfdS T_83, rfdS T_84, rfdS T_85, rfdS T_86, rfdS T_87, rfdS T_88, rfdS T_89, rfdS T_90, rfdS T_91, rfdS T_92, rfdS T_93, rfdS T_94, rfdS T_95, rfdS T_96, SZ_83, SZ_84, SZ_85, SZ_86, SZ_87, SZ_88, SZ_89, SZ_90, SZ_91, SZ_92, SZ_93, SZ_94, SZ_95, SZ_96, hM, inb_nI hc (by decide), nI_clamp (show c < 2 ^ 31 by omega), stI_stRow, nI_1]
    rw [show upd (fil (S.1 94) 0 c 0) c 0 = fil (S.1 94) 0 (c + 1) 0 by have := fil_s (S.1 94) 0 c 0; rw [Nat.zero_add] at this; exact this]
def bst (C : Nat) (x : Nat → Nat) (q : Nat) : Int32 := if x q < C then nI (x q) else -9
theorem X7_cts_best (n : Nat) (hn : 10 < n) (H : CM S C Q T L) {x : Nat → Nat} (hx : ∀ q, q < Q → S.1 92 q = nI (x q) ∧ x q ≤ C) (K : aSt → Option aSt) : F_X7_counts_L48 82 (nI C) K n 0 S = K (stRow S 93 (fa_fill (bst C x) (S.1 93) Q)) := by
  have hC := H.2.2.1
  have hQ := H.2.2.2.1
  have key := lp_eq (fun fu (s : aSt) i => F_X7_counts_L48 82 (nI C) K fu i s) K (fun c => stRow S 93 (fa_fill (bst C x) (S.1 93) c)) Q (fun fu => ?_) (fun fu c hc => ?_) Q 0 n (by omega) (by omega)
  · (try dsimp only at key)
    rw [fa_fill_0, stRow_id] at key
    exact key
  · show F_X7_counts_L48 _ _ _ (fu + 1) _ _ = _
    rw [F_X7_counts_L48]
    simp only [nmE, jnE, bn2S, bndS, grdT, stI_22, stL_22, stRow_22, HRm, rfdS T_83, rfdS T_84, rfdS T_85, rfdS T_86, rfdS T_87, rfdS T_88, rfdS T_89, rfdS T_90, rfdS T_91, rfdS T_92, rfdS T_93, rfdS T_94, rfdS T_95, rfdS T_96, SZ_83, SZ_84, SZ_85, SZ_86, SZ_87, SZ_88, SZ_89, SZ_90, SZ_91, SZ_92, SZ_93, SZ_94, SZ_95, SZ_96, H.1, in1, stRow_ne (show (87 : Nat) ≠ 93 by decide), H.v1]
    rw [if_pos (Int32.le_refl _)]
  · show F_X7_counts_L48 _ _ _ (fu + 1) _ _ = F_X7_counts_L48 _ _ _ fu _ _
    obtain ⟨x1, x2⟩ := hx c hc
    rw [F_X7_counts_L48]
    simp only [nmE, jnE, bn2S, bndS, grdT, stI_22, stL_22, stRow_22, HRm, rfdS T_83, rfdS T_84, rfdS T_85, rfdS T_86, rfdS T_87, rfdS T_88, rfdS T_89, rfdS T_90, rfdS T_91, rfdS T_92, rfdS T_93, rfdS T_94, rfdS T_95, rfdS T_96, SZ_83, SZ_84, SZ_85, SZ_86, SZ_87, SZ_88, SZ_89, SZ_90, SZ_91, SZ_92, SZ_93, SZ_94, SZ_95, SZ_96, H.1, in1, stRow_ne (show (87 : Nat) ≠ 93 by decide), stRow_ne (show (92 : Nat) ≠ 93 by decide), H.v1]
    rw [if_neg (nI_ge hc (by omega))]
    simp only [nmE, jnE, bn2S, bndS, grdT, stI_22, stL_22, stRow_22, HRm, rfdS T_83, rfdS T_84, rfdS T_85, rfdS T_86, rfdS T_87, rfdS T_88, rfdS T_89, rfdS T_90, rfdS T_91, rfdS T_92, rfdS T_93, rfdS T_94, rfdS T_95, rfdS T_96, SZ_83, SZ_84, SZ_85, SZ_86, SZ_87, SZ_88, SZ_89, SZ_90, SZ_91, SZ_92, SZ_93, SZ_94, SZ_95, SZ_96, inb_nI (show c < 7 by omega) (by decide), nI_clamp (show c < 2 ^ 31 by omega), x1, stI_stRow, nI_1]
    rw [← fa_fill_succ]
    by_cases k : x c < C
    · rw [if_neg (nI_ge k (by omega)), show bst C x c = nI (x c) by unfold bst; rw [if_pos k]]
    · rw [if_pos (nI_le (by omega) (by omega)), show bst C x c = -9 by unfold bst; rw [if_neg k]]
theorem X7_counts_eq (n : Nat) (hn : 60 < n) (H : CM S C Q T L) {l : List lf} (hl : CS C Q l S) {x : Nat → Nat} (hx : ∀ q, q < Q → S.1 92 q = nI (x q) ∧ x q ≤ C) {w : Nat} (hw : w ≤ 63) (V : Nat) : ∃ S', F_X7_counts n S 82 (nI w) = some S' ∧ CS C Q (l ++ [(V, w, x)]) S' ∧ Sm S S' ∧ S'.1 92 = S.1 92 := by
  have hC := H.2.2.1
  have hQ := H.2.2.2.1
  have hnew : (∀ y, y ∈ l → y.2.1 < w) → S.1 82 18 < nI w → ∃ S', F_X7_counts n S 82 (nI w) = some S' ∧ CS C Q (l ++ [(V, w, x)]) S' ∧ Sm S S' ∧ S'.1 92 = S.1 92 := by
    intro hlt hgt
    generalize hS2 : stI (stI S 82 18 (nI w)) 82 17 0 = S2
    have m2 : Sm S S2 := by
      rw [← hS2]
      refine ⟨fun k q => ?_, ?_, ?_, rfl⟩
      · rw [stI_ne (by omega), stI_ne (by omega)]
      · simp [stI_at]
      · simp [stI_at]
    have H2 := H.sm m2
    have e92 : S2.1 92 = S.1 92 := by rw [← hS2, stI_ne (by decide), stI_ne (by decide)]
    have e18 : S2.1 82 18 = nI w := by rw [← hS2]; simp [stI_at]
    have e17 : S2.1 82 17 = 0 := by rw [← hS2]; simp [stI_at]
    generalize hS3 : stRow S2 94 (fil (S2.1 94) 0 49 0) = S3
    have m3 : Sm S2 S3 := by
      rw [← hS3]
      refine ⟨fun k q => ?_, ?_, ?_, rfl⟩
      · rw [stRow_ne (by omega)]
      · rw [stRow_ne (by omega)]
      · rw [stRow_ne (by omega)]
    have H3 := H2.sm m3
    have f92 : S3.1 92 = S.1 92 := by rw [← hS3, stRow_ne (by decide), e92]
    have f82 : S3.1 82 = S2.1 82 := by rw [← hS3, stRow_ne (by decide)]
    generalize hS4 : stRow S3 93 (fa_fill (bst C x) (S3.1 93) Q) = S4
    have m4 : Sm S3 S4 := by
      rw [← hS4]
      refine ⟨fun k q => ?_, ?_, ?_, rfl⟩
      · rw [stRow_ne (by omega)]
      · rw [stRow_ne (by omega)]
      · rw [stRow_ne (by omega)]
    have g92 : S4.1 92 = S.1 92 := by rw [← hS4, stRow_ne (by decide), f92]
    have g82 : S4.1 82 = S2.1 82 := by rw [← hS4, stRow_ne (by decide), f82]
    generalize hS5 : stI S4 82 17 1 = S5
    have m5 : Sm S4 S5 := by
      rw [← hS5]
      refine ⟨fun k q => ?_, ?_, ?_, rfl⟩
      · rw [stI_ne (by omega)]
      · simp [stI_at]
      · simp [stI_at]
    have H5 := (H3.sm m4).sm m5
    have h92 : S5.1 92 = S.1 92 := by rw [← hS5, stI_ne (by decide), g92]
    have m6 : Sm S5 (stRow S5 94 (fun i => S5.1 94 i + nI (hn1 C Q x i))) := by
      refine ⟨fun k q => ?_, ?_, ?_, rfl⟩
      · rw [stRow_ne (by omega)]
      · rw [stRow_ne (by omega)]
      · rw [stRow_ne (by omega)]
    refine ⟨stRow S5 94 (fun i => S5.1 94 i + nI (hn1 C Q x i)), ?_, ?_, (((m2.trans m3).trans m4).trans m5).trans m6, by rw [stRow_ne (by decide), h92]⟩
    · unfold F_X7_counts
      simp only [nmE, jnE, bn2S, bndS, grdT, stI_22, stL_22, stRow_22, HRm, rfdS T_83, rfdS T_84, rfdS T_85, rfdS T_86, rfdS T_87, rfdS T_88, rfdS T_89, rfdS T_90, rfdS T_91, rfdS T_92, rfdS T_93, rfdS T_94, rfdS T_95, rfdS T_96, SZ_83, SZ_84, SZ_85, SZ_86, SZ_87, SZ_88, SZ_89, SZ_90, SZ_91, SZ_92, SZ_93, SZ_94, SZ_95, SZ_96, H.1, in0, H.v0]
      rw [if_neg (by rw [Int32.not_le]; exact hgt), hS2, X7_cts_zero n hn H2.1, hS3, X7_cts_best n (by omega) H3 (by rw [f92]; exact hx), hS4, g82, e18, if_pos rfl, e17]
      rw [show (0 : Int32) + 1 = 1 from rfl, hS5, X7_cts_hits n (by omega) H5 (by rw [h92]; exact hx)]
    · refine Or.inr ⟨w, x, V, hw, ?_, fun y hy => ?_, ?_, ?_, fun i hi => ?_, fun q hq => ?_⟩
      · rw [stRow_ne (by decide), ← hS5]
        simp [stI_at, g82, e18]
      · rcases List.mem_append.mp hy with q | q
        · exact Nat.le_of_lt (hlt y q)
        · rw [List.mem_singleton.mp q]; exact Nat.le_refl _
      · rw [List.find?_append, List.find?_eq_none.mpr (fun y hy => by have := hlt y hy; simp only [decide_eq_true_eq]; omega)]
        simp
      · rw [List.countP_append, List.countP_eq_zero.mpr (fun y hy => by have := hlt y hy; simp only [decide_eq_true_eq]; omega), stRow_ne (by decide), ← hS5]
        simp [stI_at, List.countP_singleton]
        rfl
      · rw [List.countP_append, List.countP_eq_zero.mpr (fun y hy => by have := hlt y hy; simp only [Bool.and_eq_true, decide_eq_true_eq]; omega), stRow_self]
        have e : S5.1 94 i = 0 := by
          rw [← hS5, stI_ne (by decide), ← hS4, stRow_ne (by decide), ← hS3, stRow_self]
          unfold fil
          rw [if_pos (by omega)]
        rw [e, List.countP_singleton]
        simp [hn1]
      · rw [stRow_ne (by decide), ← hS5, stI_ne (by decide), ← hS4, stRow_self, fa_fill_in hq]
        rfl
  rcases hl with ⟨h1, h2⟩ | ⟨mo, be, V0, h1, h2, h3, h4, h5, h6, h7⟩
  · refine hnew (by rw [h1]; intro y hy; cases hy) ?_
    rw [h2]
    have := nI_pos' (n := w) (by omega)
    exact Int32.lt_of_lt_of_le (by decide) this
  · by_cases k : mo < w
    · exact hnew (fun y hy => Nat.lt_of_le_of_lt (h3 y hy) k) (by rw [h2]; exact nI_lt k (by omega))
    · by_cases k2 : w = mo
      · generalize hS5 : stI S 82 17 (S.1 82 17 + 1) = S5
        have m5 : Sm S S5 := by
          rw [← hS5]
          refine ⟨fun k q => ?_, ?_, ?_, rfl⟩
          · rw [stI_ne (by omega)]
          · simp [stI_at]
          · simp [stI_at]
        have H5 := H.sm m5
        have h92 : S5.1 92 = S.1 92 := by rw [← hS5, stI_ne (by decide)]
        have m6 : Sm S5 (stRow S5 94 (fun i => S5.1 94 i + nI (hn1 C Q x i))) := by
          refine ⟨fun k q => ?_, ?_, ?_, rfl⟩
          · rw [stRow_ne (by omega)]
          · rw [stRow_ne (by omega)]
          · rw [stRow_ne (by omega)]
        refine ⟨stRow S5 94 (fun i => S5.1 94 i + nI (hn1 C Q x i)), ?_, ?_, m5.trans m6, by rw [stRow_ne (by decide), h92]⟩
        · unfold F_X7_counts
          simp only [nmE, jnE, bn2S, bndS, grdT, stI_22, stL_22, stRow_22, HRm, rfdS T_83, rfdS T_84, rfdS T_85, rfdS T_86, rfdS T_87, rfdS T_88, rfdS T_89, rfdS T_90, rfdS T_91, rfdS T_92, rfdS T_93, rfdS T_94, rfdS T_95, rfdS T_96, SZ_83, SZ_84, SZ_85, SZ_86, SZ_87, SZ_88, SZ_89, SZ_90, SZ_91, SZ_92, SZ_93, SZ_94, SZ_95, SZ_96, H.1, in0, H.v0]
          rw [if_pos (by rw [h2]; exact nI_le (by omega) (by omega)), if_pos (by rw [h2, k2]), hS5, X7_cts_hits n (by omega) H5 (by rw [h92]; exact hx)]
        · refine Or.inr ⟨mo, be, V0, h1, ?_, fun y hy => ?_, ?_, ?_, fun i hi => ?_, fun q hq => ?_⟩
          · rw [stRow_ne (by decide), ← hS5]
            simp [stI_at, h2]
          · rcases List.mem_append.mp hy with q | q
            · exact h3 y q
            · rw [List.mem_singleton.mp q]; exact Nat.le_of_eq k2
          · rw [List.find?_append, h4]
            rfl
          · rw [List.countP_append, stRow_ne (by decide), ← hS5, ← nI_add, ← h5]
            simp [stI_at, List.countP_singleton, k2]
            rfl
          · rw [List.countP_append, stRow_self, ← nI_add, ← h6 i hi, ← hS5, stI_ne (by decide), List.countP_singleton]
            simp [hn1, k2]
          · rw [stRow_ne (by decide), ← hS5, stI_ne (by decide)]
            exact h7 q hq
      · refine ⟨S, ?_, ?_, Sm.refl S, rfl⟩
        · unfold F_X7_counts
          simp only [nmE, jnE, bn2S, bndS, grdT, stI_22, stL_22, stRow_22, HRm, rfdS T_83, rfdS T_84, rfdS T_85, rfdS T_86, rfdS T_87, rfdS T_88, rfdS T_89, rfdS T_90, rfdS T_91, rfdS T_92, rfdS T_93, rfdS T_94, rfdS T_95, rfdS T_96, SZ_83, SZ_84, SZ_85, SZ_86, SZ_87, SZ_88, SZ_89, SZ_90, SZ_91, SZ_92, SZ_93, SZ_94, SZ_95, SZ_96, H.1, in0, H.v0]
          rw [if_pos (by rw [h2]; exact nI_le (by omega) (by omega)), if_neg (by rw [h2, nI_eq (by omega) (by omega)]; exact k2)]
        · refine Or.inr ⟨mo, be, V0, h1, h2, fun y hy => ?_, ?_, ?_, fun i hi => ?_, h7⟩
          · rcases List.mem_append.mp hy with q | q
            · exact h3 y q
            · rw [List.mem_singleton.mp q]; (try dsimp only); omega
          · rw [List.find?_append, h4]
            rfl
          · rw [List.countP_append, h5]
            simp [List.countP_singleton, k2]
          · rw [List.countP_append, h6 i hi]
            simp [List.countP_singleton, k2]
end Walk
