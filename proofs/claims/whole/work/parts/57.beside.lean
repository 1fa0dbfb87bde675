/-! beside: how many pair off. -/
theorem d10 : ∀ x, x < 60 → nI x / 10 = nI (x / 10) ∧ nI x - nI x / 10 * 10 = nI (x % 10) := by decide +kernel
theorem sm_one (b : Bool) (y : Nat) : ∀ N, fb_sm (fun x => if (b && decide (y = x)) = true then 1 else 0) N = if (b && decide (y < N)) = true then 1 else 0
  | 0 => by simp [fb_sm]
  | N + 1 => by
    rw [fb_sm_succ, sm_one b y N]
    cases b
    · simp
    · simp only [Bool.true_and, decide_eq_true_eq]
      by_cases h1 : y < N
      · rw [if_pos h1, if_neg (by omega), if_pos (by omega)]
      · by_cases h2 : y = N
        · rw [if_neg h1, if_pos h2, if_pos (by omega)]
        · rw [if_neg h1, if_neg h2, if_neg (by omega)]
/-- a count, class by class -/
theorem ct_cls (p : Nat → Bool) (l : Nat → Nat) (N : Nat) : ∀ C, (∀ c, c < C → l c < N) → fb_ct p C = fb_sm (fun x => fb_ct (fun c => p c && decide (l c = x)) C) N
  | 0, _ => by
    show 0 = fb_sm (fun _ => 0) N
    rw [fb_sm_const]; simp
  | C + 1, h => by
    rw [fb_ct_succ, ct_cls p l N C (fun c hc => h c (by omega))]
    have e : fb_sm (fun x => fb_ct (fun c => p c && decide (l c = x)) (C + 1)) N = fb_sm (fun x => fb_ct (fun c => p c && decide (l c = x)) C + (if (p C && decide (l C = x)) = true then 1 else 0)) N := fb_sm_cong fun x _ => rfl
    rw [e, fb_sm_add, sm_one, decide_eq_true (h C (by omega)), Bool.and_true]
/-- taken so far, class by class -/
def Gr (l : Nat → Nat) (C N : Nat) (k : Nat → Nat) (i U : Nat) : Prop := U < 2 ^ C ∧ ∀ x, x < N → fb_ct (fun c => U.testBit c && decide (l c = x)) C = min (fb_ct (fun j => decide (k j = x)) i) (fb_ct (fun c => decide (l c = x)) C)
theorem Gr.zero (l : Nat → Nat) (C N : Nat) (k : Nat → Nat) : Gr l C N k 0 0 := by
  refine ⟨Nat.two_pow_pos C, fun x _ => ?_⟩
  rw [fb_ct_zero.mpr (fun c _ => by simp)]
  show 0 = min 0 _
  omega
theorem Gr.none {l : Nat → Nat} {C N : Nat} {k : Nat → Nat} {i U : Nat} (H : Gr l C N k i U) (h : ∀ c, c < C → l c = k i → U.testBit c = true) : Gr l C N k (i + 1) U := by
  refine ⟨H.1, fun x hx => ?_⟩
  have h1 := H.2 x hx
  rw [fb_ct_succ]
  by_cases e : k i = x
  · have h2 : fb_ct (fun c => U.testBit c && decide (l c = x)) C = fb_ct (fun c => decide (l c = x)) C := fb_ct_cong fun c hc => by
      by_cases q : l c = x
      · simp [q, h c hc (by omega)]
      · simp [q]
    rw [if_pos (by simp [e])]
    omega
  · rw [if_neg (by simp [e])]
    exact h1
theorem tb_or (U c i : Nat) : (U ||| 2 ^ c).testBit i = if i = c then true else U.testBit i := by
  rw [fb_bit_set]
  by_cases h : i = c <;> simp [h]
theorem Gr.some {l : Nat → Nat} {C N : Nat} {k : Nat → Nat} {i U c : Nat} (H : Gr l C N k i U) (hc : c < C) (hl : l c = k i) (hu : U.testBit c = false) : Gr l C N k (i + 1) (U ||| 2 ^ c) := by
  refine ⟨Nat.or_lt_two_pow H.1 (Nat.pow_lt_pow_right (by decide) hc), fun x hx => ?_⟩
  have h1 := H.2 x hx
  rw [fb_ct_succ]
  have e1 : fb_ct (fun j => (U ||| 2 ^ c).testBit j && decide (l j = x)) C = fb_ct (fun j => if j = c then decide (l c = x) else (U.testBit j && decide (l j = x))) C := fb_ct_cong fun j _ => by
    rw [tb_or]
    by_cases q : j = c
    · simp [q]
    · simp [q]
  have e2 := fb_ct_upd (fun j => U.testBit j && decide (l j = x)) (decide (l c = x)) hc
  rw [e1]
  rw [hu] at e2
  simp only [Bool.false_and, Bool.false_eq_true, if_false, decide_eq_true_eq] at e2
  by_cases e : k i = x
  · rw [if_pos (by omega)] at e2
    rw [if_pos (by simp [e])]
    have e3 : fb_ct (fun j => U.testBit j && decide (l j = x)) C < fb_ct (fun c => decide (l c = x)) C := by
      have := fb_ct_sub (n := C) (p := fun j => if j = c then true else (U.testBit j && decide (l j = x))) (q := fun c => decide (l c = x)) (fun j _ q => by
        by_cases z : j = c
        · subst z; simp; omega
        · simp [z] at q; simp [q.2])
      have e4 := fb_ct_upd (fun j => U.testBit j && decide (l j = x)) true hc
      rw [hu] at e4
      simp only [Bool.false_and, Bool.false_eq_true, if_false, if_true] at e4
      omega
    omega
  · rw [if_neg (by omega)] at e2
    rw [if_neg (by simp [e])]
    omega
theorem Gr.pc {l : Nat → Nat} {C N : Nat} {k : Nat → Nat} {i U : Nat} (H : Gr l C N k i U) (hC : C ≤ 7) (hl : ∀ c, c < C → l c < N) : pcn U = fb_sm (fun x => min (fb_ct (fun j => decide (k j = x)) i) (fb_ct (fun c => decide (l c = x)) C)) N := by
  have e1 : pcn U = fb_ct (fun c => U.testBit c) C := by
    unfold pcn
    rw [fb_ct_cong (q := fun i => decide (i < C) && U.testBit i) (fun j _ => ?_), ct_cut _ hC]
    by_cases q : j < C
    · simp [q]
    · simp [q]
      exact Nat.testBit_lt_two_pow (Nat.lt_of_lt_of_le H.1 (Nat.pow_le_pow_right (by decide) (by omega)))
  rw [e1, ct_cls _ l N C hl]
  exact fb_sm_cong fun x hx => H.2 x hx
def lc (L : Nat → Nat → Nat) (e c : Nat) : Nat := if e = 0 then me L c else 6 * me L c + L 0 c
def ku (e u : Nat) : Nat := if e = 0 then u % 10 else 6 * (u % 10) + u / 10
def ne_ (e : Nat) : Nat := if e = 0 then 10 else 60
section Lib18
variable {S : aSt} {h C Q T : Nat} {L : Nat → Nat → Nat}
theorem X1_firstAlike_st (n : Nat) (H : CX S h C Q T L) {u U e c : Nat} (hu : u < 60) (he : e < 2) (hc : c < C) (fu : Nat) : F_X1_firstAlike_L3 n S h (nI u) (nI U) (nI e) (some 0) (fu + 1) (nI c) = if lc L e c = ku e u ∧ U.testBit c = false then some (nI (2 ^ c)) else F_X1_firstAlike_L3 n S h (nI u) (nI U) (nI e) (some 0) fu (nI (c + 1)) := by
  have hw := H.2.2.2.2
  have hC := hw.1
  have w5 := hw.2.2.2.2.1 c hc
  have hme := hw.mle hc
  obtain ⟨d1, d2⟩ := d10 u hu
  rw [d1] at d2
  have hb : (nI U &&& nI (2 ^ c) = 0) = (U.testBit c = false) := propext (fa_bit (by omega))
  rw [F_X1_firstAlike_L3, H.2.2.2.1.1, if_neg (nI_ge hc (by omega))]
  simp only [nmE, jnE, bn2S, bndS, grdT, stI_22, stL_22, stRow_22, reduceIte, Bool.false_eq_true, one_ne0, X1_meaningOf_eq n H hc, d2, d1, H.r0, rfdS (tg1 H.1), sg1 H.1, inb_nI (show c < 7 by omega) (by decide), nI_clamp (show c < 2 ^ 31 by omega), (H.2.2.2.1.2.2.1 c hc).1, nI_eq (show me L c < 2 ^ 31 by omega) (show u % 10 < 2 ^ 31 by omega), nI_eq (show L 0 c < 2 ^ 31 by omega) (show u / 10 < 2 ^ 31 by omega), shl1 c (by omega), fa_bit (show c < 31 by omega), nI_1]
  by_cases k1 : me L c = u % 10
  · rw [if_pos k1]
    by_cases k2 : e = 0
    · subst k2
      have q : lc L 0 c = ku 0 u := by unfold lc ku; simp [k1]
      rw [if_pos (show nI 0 = 0 from rfl)]
      by_cases k3 : U.testBit c = false
      · rw [if_pos k3, if_pos ⟨q, k3⟩]
      · rw [if_neg k3, if_neg (fun z => k3 z.2)]
    · have k2' : e = 1 := by omega
      subst k2'
      rw [if_neg (show ¬ nI 1 = 0 by decide)]
      by_cases k4 : L 0 c = u / 10
      · have q : lc L 1 c = ku 1 u := by unfold lc ku; simp [k1, k4]
        rw [if_pos k4]
        by_cases k3 : U.testBit c = false
        · rw [if_pos k3, if_pos ⟨q, k3⟩]
        · rw [if_neg k3, if_neg (fun z => k3 z.2)]
      · have q : ¬ lc L 1 c = ku 1 u := by
          unfold lc ku
          rw [if_neg (by decide), if_neg (by decide)]
          omega
        rw [if_neg k4, if_neg (fun z => q z.1)]
  · have q : ¬ lc L e c = ku e u := by
      unfold lc ku
      by_cases k2 : e = 0
      · rw [if_pos k2, if_pos k2]; exact k1
      · rw [if_neg k2, if_neg k2]; omega
    rw [if_neg k1, if_neg (fun z => q z.1)]
theorem X1_firstAlike_eq (n : Nat) (hn : 10 < n) (H : CX S h C Q T L) {k : Nat → Nat} {N i u U e : Nat} (hu : u < 60) (he : e < 2) (hk : k i = ku e u) (hG : Gr (lc L e) C N k i U) : ∃ r U', F_X1_firstAlike n S h (nI u) (nI U) (nI e) = some r ∧ nI U ||| r = nI U' ∧ Gr (lc L e) C N k (i + 1) U' := by
  have hC := H.2.2.2.2.1
  unfold F_X1_firstAlike
  simp only [jnE]
  by_cases hx : ∃ c, c < C ∧ (lc L e c = ku e u ∧ U.testBit c = false)
  · obtain ⟨c, hc, hc2, hc3⟩ := fb_first hx
    refine ⟨nI (2 ^ c), U ||| 2 ^ c, ?_, fa_or _ _, hG.some hc (hc2.1.trans hk.symm) hc2.2⟩
    refine lp_ix nI (fun fu (_ : Unit) i => F_X1_firstAlike_L3 n S h (nI u) (nI U) (nI e) (some 0) fu i) (fun _ => some (nI (2 ^ c))) (fun _ => ()) c (fun fu => ?_) (fun fu j hj => ?_) c 0 n (by omega) (by omega)
    · exact (X1_firstAlike_st n H hu he hc fu).trans (if_pos hc2)
    · exact (X1_firstAlike_st n H hu he (by omega) fu).trans (if_neg (hc3 j hj))
  · refine ⟨0, U, ?_, by simp, hG.none (fun c hc hl => ?_)⟩
    · refine lp_ix nI (fun fu (_ : Unit) i => F_X1_firstAlike_L3 n S h (nI u) (nI U) (nI e) (some 0) fu i) (fun _ => some 0) (fun _ => ()) C (fun fu => ?_) (fun fu j hj => ?_) C 0 n (by omega) (by omega)
      · show F_X1_firstAlike_L3 _ _ _ _ _ _ _ (fu + 1) _ = _
        rw [F_X1_firstAlike_L3, H.2.2.2.1.1, if_pos (Int32.le_refl _)]
      · exact (X1_firstAlike_st n H hu he hj fu).trans (if_neg (fun z => hx ⟨j, hj, z⟩))
    · cases q : U.testBit c
      · exact absurd ⟨c, hc, hl.trans hk, q⟩ hx
      · rfl
def bsn (L : Nat → Nat → Nat) (C m e : Nat) (u : Nat → Nat) : Nat := fb_sm (fun x => min (fb_ct (fun j => decide (ku e (u j) = x)) m) (fb_ct (fun c => decide (lc L e c = x)) C)) (ne_ e)
theorem X1_pairsWith_eq (n : Nat) (hn : 10 < n) (H : CX S h C Q T L) {d r m e : Nat} (hX : RfX S h d) (hr : r < 6) (hm : m ≤ 7) (he : e < 2) (e1 : S.1 (41 + 2 * r) 1 = nI m) {u : Nat → Nat} (hv : ∀ i, i < m → S.1 (41 + 2 * r + 1) i = nI (u i) ∧ u i < 60) : F_X1_pairsWith n S h (41 + 2 * r) (nI e) = some (nI (bsn L C m e u)) := by
  obtain ⟨x1, x2⟩ := xrow hX hr
  obtain ⟨t1, t2, t3⟩ := rowT hr
  have hw := H.2.2.2.2
  have hC := hw.1
  unfold F_X1_pairsWith
  simp only [jnE]
  have hl : ∀ c, c < C → lc L e c < ne_ e := fun c hc => by
    have w5 := hw.2.2.2.2.1 c hc
    have hme := hw.mle hc
    unfold lc ne_
    by_cases k : e = 0
    · rw [if_pos k, if_pos k]; omega
    · rw [if_neg k, if_neg k]; omega
  have key := lp_ex (fun fu i (a : Int32) => F_X1_pairsWith_L5 n S h (41 + 2 * r) (nI e) (fun x36_3 => (F_J6_bitCount_0f7a4 n S x36_3).bind fun r37 => some r37) fu a i) (fun x36_3 => (F_J6_bitCount_0f7a4 n S x36_3).bind fun r37 => some r37) (fun i a => ∃ U, a = nI U ∧ Gr (lc L e) C (ne_ e) (fun j => ku e (u j)) i U) m (fun fu a hP => ?_) (fun fu i a hi hP => ?_) m 0 n 0 (by omega) (by omega) ⟨0, rfl, Gr.zero _ _ _ _⟩
  · obtain ⟨a, ⟨U, rfl, hG⟩, e2⟩ := key
    refine e2.trans ?_
    have hU : U < 128 := Nat.lt_of_lt_of_le hG.1 (Nat.pow_le_pow_right (n := 2) (by decide) hC)
    rw [J6_bitCount_eq n S hU, hG.pc hC hl]
    rfl
  · show F_X1_pairsWith_L5 _ _ _ _ _ _ (fu + 1) _ _ = _
    rw [F_X1_pairsWith_L5, e1, if_pos (Int32.le_refl _)]
  · show ∃ z, _ ∧ F_X1_pairsWith_L5 _ _ _ _ _ _ (fu + 1) _ _ = F_X1_pairsWith_L5 _ _ _ _ _ _ fu z _
    obtain ⟨U, rfl, hG⟩ := hP
    obtain ⟨v1, v2⟩ := hv i hi
    obtain ⟨q, U', f1, f2, f3⟩ := X1_firstAlike_eq n hn H (k := fun j => ku e (u j)) v2 he rfl hG
    rw [F_X1_pairsWith_L5, e1, if_neg (nI_ge hi (by omega))]
    simp only [nmE, jnE, bn2S, bndS, grdT, stI_22, stL_22, stRow_22, x2, rfdS t2, t3, inb_nI (show i < 40 by omega) (by decide), nI_clamp (show i < 2 ^ 31 by omega), v1, f1, f2, nI_1]
    exact ⟨_, ⟨U', rfl, f3⟩, rfl⟩
end Lib18
def mth (u : Nat → Nat) (k : Option Nat) (x j : Nat) : Bool := decide (u j % 10 = x) && (match k with | none => true | some k => decide (u j / 10 = k))
def mhr (L : Nat → Nat → Nat) (k : Option Nat) (x c : Nat) : Bool := decide (me L c = x) && (match k with | none => true | some k => decide (L 0 c = k))
def kI (k : Option Nat) : Int32 := match k with | none => -1 | some k => nI k
section Lib19
variable {S : aSt} {h C Q T : Nat} {L : Nat → Nat → Nat}
theorem X7_manyThere_eq (n : Nat) (hn : 10 < n) (hM : RfM S) {r m : Nat} (hr : r < 6) (hm : m ≤ 7) (e : S.1 83 r = nI m) {u : Nat → Nat} (hv : ∀ i, i < m → S.1 84 (40 * r + i) = nI (u i) ∧ u i < 60) (k : Option Nat) (hk : ∀ j, k = some j → j < 6) {x : Nat} (hx : x < 10) : F_X7_manyThere n S 82 (nI r) (kI k) (nI x) = some (nI (fb_ct (mth u k x) m)) := by
  have hM1 : S.2.2 82 = HRm := hM
  unfold F_X7_manyThere
  simp only [jnE]
  refine lp_ct (fun fu a i => F_X7_manyThere_L6 S 82 (nI r) (kI k) (nI x) (fun x => some x) fu a i) (fun x => some x) _ m n (by omega) (fun fu a => ?_) (fun fu i a hi => ?_)
  · show F_X7_manyThere_L6 _ _ _ _ _ _ (fu + 1) _ _ = _
    rw [F_X7_manyThere_L6]
    simp only [nmE, jnE, bn2S, bndS, grdT, stI_22, stL_22, stRow_22, HRm, rfdS T_83, rfdS T_84, rfdS T_85, rfdS T_86, rfdS T_87, rfdS T_88, rfdS T_89, rfdS T_90, rfdS T_91, rfdS T_92, rfdS T_93, rfdS T_94, rfdS T_95, rfdS T_96, SZ_83, SZ_84, SZ_85, SZ_86, SZ_87, SZ_88, SZ_89, SZ_90, SZ_91, SZ_92, SZ_93, SZ_94, SZ_95, SZ_96, hM1, inb_nI (show r < 6 from hr) (by decide), nI_clamp (show r < 2 ^ 31 by omega), e]
    rw [if_pos (Int32.le_refl _)]
  · show F_X7_manyThere_L6 _ _ _ _ _ _ (fu + 1) _ _ = F_X7_manyThere_L6 _ _ _ _ _ _ fu _ _
    obtain ⟨v1, v2⟩ := hv i hi
    obtain ⟨d1, d2⟩ := d10 (u i) v2
    rw [F_X7_manyThere_L6]
    simp only [nmE, jnE, bn2S, bndS, grdT, stI_22, stL_22, stRow_22, HRm, rfdS T_83, rfdS T_84, rfdS T_85, rfdS T_86, rfdS T_87, rfdS T_88, rfdS T_89, rfdS T_90, rfdS T_91, rfdS T_92, rfdS T_93, rfdS T_94, rfdS T_95, rfdS T_96, SZ_83, SZ_84, SZ_85, SZ_86, SZ_87, SZ_88, SZ_89, SZ_90, SZ_91, SZ_92, SZ_93, SZ_94, SZ_95, SZ_96, hM1, inb_nI (show r < 6 from hr) (by decide), nI_clamp (show r < 2 ^ 31 by omega), e]
    rw [if_neg (nI_ge hi (by omega))]
    simp only [nmE, jnE, bn2S, bndS, grdT, stI_22, stL_22, stRow_22, HRm, rfdS T_83, rfdS T_84, rfdS T_85, rfdS T_86, rfdS T_87, rfdS T_88, rfdS T_89, rfdS T_90, rfdS T_91, rfdS T_92, rfdS T_93, rfdS T_94, rfdS T_95, rfdS T_96, SZ_83, SZ_84, SZ_85, SZ_86, SZ_87, SZ_88, SZ_89, SZ_90, SZ_91, SZ_92, SZ_93, SZ_94, SZ_95, SZ_96, li_40, pk_mul, nI_add, nI_1, inb_nI (show 40 * r + i < 240 by omega) (by decide), nI_clamp (show 40 * r + i < 2 ^ 31 by omega), v1]
    rw [d2, d1]
    simp only [nI_eq (show u i % 10 < 2 ^ 31 by omega) (show x < 2 ^ 31 by omega), show ∀ a : Int32, a + 0 = a by simp]
    by_cases q : u i % 10 = x
    · rw [if_pos q]
      cases k with
      | none =>
        rw [if_pos (show kI none < 0 by decide), if_pos (by simp [mth, q])]
      | some k =>
        have hk' := hk k rfl
        rw [if_neg (show ¬ kI (some k) < 0 from nI_nlt (Nat.zero_le _) (by omega))]
        show (if nI (u i / 10) = nI k then _ else _) = _
        simp only [nI_eq (show u i / 10 < 2 ^ 31 by omega) (show k < 2 ^ 31 by omega)]
        by_cases q2 : u i / 10 = k
        · rw [if_pos q2, if_pos (by simp [mth, q, q2])]
        · rw [if_neg q2, if_neg (by simp [mth, q2])]
    · rw [if_neg q, if_neg (by simp [mth, q])]
theorem X7_manyHere_eq (n : Nat) (hn : 10 < n) (H : CM S C Q T L) (k : Option Nat) (hk : ∀ j, k = some j → j < 6) {x : Nat} (hx : x < 10) : F_X7_manyHere n S 82 (kI k) (nI x) = some (nI (fb_ct (mhr L k x) C)) := by
  have hw := H.2.2
  have hC := hw.1
  unfold F_X7_manyHere
  simp only [jnE]
  refine lp_ct (fun fu a i => F_X7_manyHere_L5 n S 82 (kI k) (nI x) (fun x => some x) fu a i) (fun x => some x) _ C n (by omega) (fun fu a => ?_) (fun fu c a hc => ?_)
  · show F_X7_manyHere_L5 _ _ _ _ _ _ (fu + 1) _ _ = _
    rw [F_X7_manyHere_L5]
    simp only [nmE, jnE, bn2S, bndS, grdT, stI_22, stL_22, stRow_22, HRm, rfdS T_83, rfdS T_84, rfdS T_85, rfdS T_86, rfdS T_87, rfdS T_88, rfdS T_89, rfdS T_90, rfdS T_91, rfdS T_92, rfdS T_93, rfdS T_94, rfdS T_95, rfdS T_96, SZ_83, SZ_84, SZ_85, SZ_86, SZ_87, SZ_88, SZ_89, SZ_90, SZ_91, SZ_92, SZ_93, SZ_94, SZ_95, SZ_96, H.1, in0, H.v0]
    rw [if_pos (Int32.le_refl _)]
  · show F_X7_manyHere_L5 _ _ _ _ _ _ (fu + 1) _ _ = F_X7_manyHere_L5 _ _ _ _ _ _ fu _ _
    have w5 := hw.2.2.2.2.1 c hc
    have hme := hw.mle hc
    have e3 : (3 : Int32) + nI c = nI (3 + c) := nI_add 3 c
    rw [F_X7_manyHere_L5]
    simp only [nmE, jnE, bn2S, bndS, grdT, stI_22, stL_22, stRow_22, HRm, rfdS T_83, rfdS T_84, rfdS T_85, rfdS T_86, rfdS T_87, rfdS T_88, rfdS T_89, rfdS T_90, rfdS T_91, rfdS T_92, rfdS T_93, rfdS T_94, rfdS T_95, rfdS T_96, SZ_83, SZ_84, SZ_85, SZ_86, SZ_87, SZ_88, SZ_89, SZ_90, SZ_91, SZ_92, SZ_93, SZ_94, SZ_95, SZ_96, H.1, in0, H.v0]
    rw [if_neg (nI_ge hc (by omega))]
    simp only [nmE, jnE, bn2S, bndS, grdT, stI_22, stL_22, stRow_22, HRm, rfdS T_83, rfdS T_84, rfdS T_85, rfdS T_86, rfdS T_87, rfdS T_88, rfdS T_89, rfdS T_90, rfdS T_91, rfdS T_92, rfdS T_93, rfdS T_94, rfdS T_95, rfdS T_96, SZ_83, SZ_84, SZ_85, SZ_86, SZ_87, SZ_88, SZ_89, SZ_90, SZ_91, SZ_92, SZ_93, SZ_94, SZ_95, SZ_96, X7_means_eq n H hc, e3, inb_nI (show 3 + c < 393 by omega) (by decide), nI_clamp (show 3 + c < 2 ^ 31 by omega), (H.2.1.2.2.2.1 c hc).1, nI_eq (show me L c < 2 ^ 31 by omega) (show x < 2 ^ 31 by omega), show ∀ a : Int32, a + 0 = a by simp, nI_1]
    by_cases q : me L c = x
    · rw [if_pos q]
      cases k with
      | none =>
        rw [if_pos (show kI none < 0 by decide), if_pos (by simp [mhr, q])]
      | some k =>
        have hk' := hk k rfl
        rw [if_neg (show ¬ kI (some k) < 0 from nI_nlt (Nat.zero_le _) (by omega))]
        show (if nI (L 0 c) = nI k then _ else _) = _
        simp only [nI_eq (show L 0 c < 2 ^ 31 by omega) (show k < 2 ^ 31 by omega)]
        by_cases q2 : L 0 c = k
        · rw [if_pos q2, if_pos (by simp [mhr, q, q2])]
        · rw [if_neg q2, if_neg (by simp [mhr, q2])]
    · rw [if_neg q, if_neg (by simp [mhr, q])]
theorem X7_lesser_eq (n : Nat) (S : aSt) {a b : Nat} (ha : a < 2 ^ 31) (hb : b < 2 ^ 31) : F_X7_lesser n S (nI a) (nI b) = some (nI (min a b)) := by
  unfold F_X7_lesser
  by_cases k : b ≤ a
  · rw [if_pos (nI_le k ha), Nat.min_eq_right k]
  · rw [if_neg (nI_ge (by omega) hb), Nat.min_eq_left (by omega)]
def bsf (L : Nat → Nat → Nat) (C m e : Nat) (u : Nat → Nat) (x : Nat) : Nat := min (fb_ct (fun j => decide (ku e (u j) = x)) m) (fb_ct (fun c => decide (lc L e c = x)) C)
theorem bsf_0 {m : Nat} {u : Nat → Nat} {x : Nat} : min (fb_ct (mth u none x) m) (fb_ct (mhr L none x) C) = bsf L C m 0 u x := by
  unfold bsf
  rw [fb_ct_cong (p := mth u none x) (q := fun j => decide (ku 0 (u j) = x)) (fun j _ => by simp [mth, ku]), fb_ct_cong (p := mhr L none x) (q := fun c => decide (lc L 0 c = x)) (fun c _ => by simp [mhr, lc])]
theorem bsf_1 {m : Nat} {u : Nat → Nat} {x k : Nat} (hk : k < 6) (hu : ∀ i, i < m → u i < 60) (hw : ∀ c, c < C → L 0 c ≤ 5) : min (fb_ct (mth u (some k) x) m) (fb_ct (mhr L (some k) x) C) = bsf L C m 1 u (6 * x + k) := by
  unfold bsf
  rw [fb_ct_cong (p := mth u (some k) x) (q := fun j => decide (ku 1 (u j) = 6 * x + k)) (fun j hj => ?_), fb_ct_cong (p := mhr L (some k) x) (q := fun c => decide (lc L 1 c = 6 * x + k)) (fun c hc => ?_)]
  · have := hw c hc
    unfold mhr lc
    rw [if_neg (by decide)]
    by_cases a : me L c = x
    · by_cases b : L 0 c = k
      · simp [a, b]
      · simp [a, b]
    · have : ¬ 6 * me L c + L 0 c = 6 * x + k := by omega
      simp [a, this]
  · have := hu j hj
    unfold mth ku
    rw [if_neg (by decide)]
    by_cases a : u j % 10 = x
    · by_cases b : u j / 10 = k
      · simp [a, b]
      · simp [a, b]
    · have : ¬ 6 * (u j % 10) + u j / 10 = 6 * x + k := by omega
      simp [a, this]
theorem bsf_le {m e : Nat} {u : Nat → Nat} {x : Nat} : bsf L C m e u x ≤ m := Nat.le_trans (Nat.min_le_left _ _) (fb_ct_le _ _)
theorem X7_beside_loop (n : Nat) (hn : 20 < n) (hM : RfM S) (H : CM S C Q T L) {r m : Nat} (hr : r < 6) (hm : m ≤ 7) (e : S.1 83 r = nI m) {u : Nat → Nat} (hv : ∀ i, i < m → S.1 84 (40 * r + i) = nI (u i) ∧ u i < 60) (K : Int32 → Int32 → Option (Int32 × aSt)) : F_X7_beside_L94 n 82 (nI r) S K n 0 0 0 = K (nI (bsn L C m 1 u)) (nI (bsn L C m 0 u)) := by
  have hw := H.2.2
  have hC := hw.1
  have lt : ∀ (p : Nat → Bool) (c : Nat), c ≤ 7 → fb_ct p c < 2 ^ 31 := fun p c hc => by have := fb_ct_le p c; omega
  refine lp_eq (fun fu (s : Int32 × Int32) i => F_X7_beside_L94 n 82 (nI r) S K fu s.1 s.2 i) (fun s => K s.1 s.2) (fun x => (nI (fb_sm (bsf L C m 1 u) (6 * x)), nI (fb_sm (bsf L C m 0 u) x))) 10 (fun fu => ?_) (fun fu x hx => ?_) 10 0 n (by omega) (by omega)
  · show F_X7_beside_L94 _ _ _ _ _ (fu + 1) _ _ _ = _
    rw [F_X7_beside_L94, if_pos (by decide)]
  · show F_X7_beside_L94 _ _ _ _ _ (fu + 1) _ _ _ = F_X7_beside_L94 _ _ _ _ _ fu _ _ _
    rw [F_X7_beside_L94, if_neg (show ¬ (10 : Int32) ≤ nI x from nI_ge hx (by decide)), show (-1 : Int32) = kI none from rfl, X7_manyThere_eq n (by omega) hM hr hm e hv none (fun _ q => by cases q) hx, X7_manyHere_eq n (by omega) H none (fun _ q => by cases q) hx]
    simp only [nmE, jnE, bn2S, bndS, grdT, stI_22, stL_22, stRow_22, X7_lesser_eq n S (lt (mth u none x) m hm) (lt (mhr L none x) C hC), bsf_0, nI_add, nI_1]
    have key := lp_eq (fun fu2 (s : Int32) i => F_X7_beside_L125 n 82 (nI r) S (nI x) (fun x161_2 => F_X7_beside_L94 n 82 (nI r) S K fu x161_2 (nI (fb_sm (bsf L C m 0 u) x + bsf L C m 0 u x)) (nI (x + 1))) fu2 s i) (fun x161_2 => F_X7_beside_L94 n 82 (nI r) S K fu x161_2 (nI (fb_sm (bsf L C m 0 u) x + bsf L C m 0 u x)) (nI (x + 1))) (fun k => nI (fb_sm (bsf L C m 1 u) (6 * x + k))) 6 (fun fu2 => ?_) (fun fu2 k hk => ?_) 6 0 n (by omega) (by omega)
    · exact key
    · show F_X7_beside_L125 _ _ _ _ _ _ (fu2 + 1) _ _ = _
      rw [F_X7_beside_L125, if_pos (by decide)]
    · show F_X7_beside_L125 _ _ _ _ _ _ (fu2 + 1) _ _ = F_X7_beside_L125 _ _ _ _ _ _ fu2 _ _
      have hk1 : ∀ j, some k = some j → j < 6 := fun j q => by cases q; exact hk
      rw [F_X7_beside_L125, if_neg (show ¬ (6 : Int32) ≤ nI k from nI_ge hk (by decide)), show F_X7_manyThere n S 82 (nI r) (nI k) (nI x) = _ from X7_manyThere_eq n (by omega) hM hr hm e hv (some k) hk1 hx, show F_X7_manyHere n S 82 (nI k) (nI x) = _ from X7_manyHere_eq n (by omega) H (some k) hk1 hx]
      simp only [nmE, jnE, bn2S, bndS, grdT, stI_22, stL_22, stRow_22, X7_lesser_eq n S (lt (mth u (some k) x) m hm) (lt (mhr L (some k) x) C hC), bsf_1 hk (fun i hi => (hv i hi).2) (fun c hc => (hw.2.2.2.2.1 c hc).1), nI_add, nI_1]
      rfl
end Lib19
theorem v60 {x : Int32} : (¬ x < 0 ∧ x < 60) ↔ inb x 60 = true := by
  rw [inb_iff, lt0, Int32.lt_iff_toInt_lt, show (60 : Int32).toInt = 60 from rfl]
  omega
theorem RfM_xTell {S : aSt} {w : Int32} (H : RfM S) : RfM (xTell S w) := H
theorem X7_beside_st (n : Nat) {S : aSt} (hM : S.2.2 82 = HRm) {r m : Nat} (hr : r < 6) (hm : m ≤ 40) (e : S.1 83 r = nI m) {j : Nat} (hj : j < m) {fu : Nat} {K : aSt → Option (Int32 × aSt)} : F_X7_beside_L43 n 82 (nI r) K (fu + 1) (nI j) S = if inb (S.1 84 (40 * r + j)) 60 = true then F_X7_beside_L43 n 82 (nI r) K fu (nI (j + 1)) S else some (-3, mFnd S 3) := by
  have ei := fun S x => X7_in_sz n S x (m := 60) (by decide)
  rw [F_X7_beside_L43]
  simp only [nmE, jnE, bn2S, bndS, grdT, stI_22, stL_22, stRow_22, HRm, rfdS T_83, rfdS T_84, rfdS T_85, rfdS T_86, rfdS T_87, rfdS T_88, rfdS T_89, rfdS T_90, rfdS T_91, rfdS T_92, rfdS T_93, rfdS T_94, rfdS T_95, rfdS T_96, SZ_83, SZ_84, SZ_85, SZ_86, SZ_87, SZ_88, SZ_89, SZ_90, SZ_91, SZ_92, SZ_93, SZ_94, SZ_95, SZ_96, hM, inb_nI (show r < 6 from hr) (by decide), nI_clamp (show r < 2 ^ 31 by omega), e]
  rw [if_neg (nI_ge hj (by omega)), show (59 : Int64) = (nI 60 - 1).toInt64 from rfl]
  simp only [nmE, jnE, bn2S, bndS, grdT, stI_22, stL_22, stRow_22, HRm, rfdS T_83, rfdS T_84, rfdS T_85, rfdS T_86, rfdS T_87, rfdS T_88, rfdS T_89, rfdS T_90, rfdS T_91, rfdS T_92, rfdS T_93, rfdS T_94, rfdS T_95, rfdS T_96, SZ_83, SZ_84, SZ_85, SZ_86, SZ_87, SZ_88, SZ_89, SZ_90, SZ_91, SZ_92, SZ_93, SZ_94, SZ_95, SZ_96, li_40, pk_mul, nI_add, nI_1, inb_nI (show 40 * r + j < 240 by omega) (by decide), nI_clamp (show 40 * r + j < 2 ^ 31 by omega), ei, if10', mf3 n hM]
set_option maxRecDepth 4000 in
theorem op_beside (n : Nat) (hn : 100 < n) {S : aSt} (H : OK S) (r : Int32) : Both S (F_X6_beside n S 0 r) (fun S1 => F_X7_beside n S1 82 r) := by
  by_cases hr : inb r 6 = true
  · obtain ⟨r, hr', rfl⟩ := inb_ex hr (by decide)
    obtain ⟨h, d, C, Q, T, L, hX, hM, hCX, hCM, hk⟩ := H.get
    have hR : PR S := by obtain ⟨h, d, hX, hM, hA, hR, hT, -⟩ := H; exact hR
    have hC := hCM.2.2.1
    obtain ⟨x1, x2⟩ := xrow hX hr'
    obtain ⟨t1, t2, t3⟩ := rowT hr'
    have hc : (nI r).toNatClampNeg = r := nI_clamp (by omega)
    obtain ⟨e1, e2⟩ := hR r hr'
    rcases e2 with e2 | ⟨m, hm, e2, e3⟩
    · refine Both.fnd H 1 (by decide) ?_ ?_
      · unfold F_X6_beside
        simp only [nmE, jnE, bn2S, bndS, grdT, stI_22, stL_22, stRow_22, HR0, rfdS T_1, rfdS T_2, rfdS T_3, rfdS T_4, rfdS T_5, rfdS T_9, SZ_1, SZ_2, SZ_3, SZ_4, reduceIte, Bool.false_eq_true, one_ne0, X6_isRow_eq, hr, hX.2.1, hc, x1, x2, rfdS t1, rfdS t2, t3, X4_isThere_eq, e1, e2, xf1 n hX]
      · have hM1 : (xFnd S 1).2.2 82 = HRm := hM
        unfold F_X7_beside
        simp only [nmE, jnE, bn2S, bndS, grdT, stI_22, stL_22, stRow_22, HRm, rfdS T_83, rfdS T_84, rfdS T_85, rfdS T_86, rfdS T_87, rfdS T_88, rfdS T_89, rfdS T_90, rfdS T_91, rfdS T_92, rfdS T_93, rfdS T_94, rfdS T_95, rfdS T_96, SZ_83, SZ_84, SZ_85, SZ_86, SZ_87, SZ_88, SZ_89, SZ_90, SZ_91, SZ_92, SZ_93, SZ_94, SZ_95, SZ_96, reduceIte, Bool.false_eq_true, one_ne0, X7_isRow_eq, hr, hM1, hc, xFnd_m (show 5 ≤ 83 by decide), e2, m1_lt, mf1 n (RfM_xFnd hM)]
    · have e1' := e1.trans e2
      by_cases h7 : m ≤ 7
      · have g7 : nI m ≤ 7 := nI_le (b := 7) h7 (by decide)
        by_cases hv : ∀ j, j < m → inb (S.1 84 (40 * r + j)) 60 = true
        · have hu : ∀ i, i < m → S.1 84 (40 * r + i) = nI (S.1 84 (40 * r + i)).toNatClampNeg ∧ (S.1 84 (40 * r + i)).toNatClampNeg < 60 := fun i hi => ⟨(inb_self (hv i hi)).symm, inb_lt (hv i hi)⟩
          generalize hud : (fun i => (S.1 84 (40 * r + i)).toNatClampNeg) = u
          have hu' : ∀ i, i < m → S.1 84 (40 * r + i) = nI (u i) ∧ u i < 60 := fun i hi => by rw [← hud]; exact hu i hi
          have hux : ∀ i, i < m → S.1 (41 + 2 * r + 1) i = nI (u i) ∧ u i < 60 := fun i hi => ⟨(e3 i hi).trans (hu' i hi).1, (hu' i hi).2⟩
          refine Both.tell H (nI (bsn L C m 0 u) - nI (bsn L C m 1 u)) (nI (bsn L C m 1 u)) ?_ ?_
          · unfold F_X6_beside
            simp only [nmE, jnE, bn2S, bndS, grdT, stI_22, stL_22, stRow_22, HR0, rfdS T_1, rfdS T_2, rfdS T_3, rfdS T_4, rfdS T_5, rfdS T_9, SZ_1, SZ_2, SZ_3, SZ_4, reduceIte, Bool.false_eq_true, one_ne0, X6_isRow_eq, hr, hX.2.1, hc, x1, x2, rfdS t1, rfdS t2, t3, X4_isThere_eq, e1', nI_nm1 (show m < 2 ^ 31 by omega)]
            rw [if_pos g7]
            refine (lp_ix nI (fun fu (a : aSt) i => F_X6_beside_L46 n 0 (41 + 2 * r) (fun x86S => rfd (x86S.2.2 0 6) 0 fun k87 => (F_X1_pairsWith n x86S k87 (41 + 2 * r) 1).bind fun r92 => (F_X1_pairsWith n x86S k87 (41 + 2 * r) 0).bind fun r103 => some (r92, stI x86S 0 8 (r103 - r92))) fu i a) (fun x86S => rfd (x86S.2.2 0 6) 0 fun k87 => (F_X1_pairsWith n x86S k87 (41 + 2 * r) 1).bind fun r92 => (F_X1_pairsWith n x86S k87 (41 + 2 * r) 0).bind fun r103 => some (r92, stI x86S 0 8 (r103 - r92))) (fun _ => S) m (fun fu => ?_) (fun fu j hj => ?_) m 0 n (by omega) (by omega)).trans ?_
            · show F_X6_beside_L46 _ _ _ _ (fu + 1) _ _ = _
              rw [F_X6_beside_L46, e1', if_pos (Int32.le_refl _)]
            · show F_X6_beside_L46 _ _ _ _ (fu + 1) _ _ = F_X6_beside_L46 _ _ _ _ fu _ _
              have q := v60.mpr (hv j hj)
              rw [← e3 j hj] at q
              rw [F_X6_beside_L46, e1', if_neg (nI_ge hj (by omega))]
              simp only [nmE, jnE, bn2S, bndS, grdT, stI_22, stL_22, stRow_22, x2, rfdS t2, t3, inb_nI (show j < 40 by omega) (by decide), nI_clamp (show j < 2 ^ 31 by omega), nI_1]
              rw [if_neg q.1, if_pos q.2]
            · rw [X0_here hX, show F_X1_pairsWith n S h (41 + 2 * r) 1 = _ from X1_pairsWith_eq n (by omega) hCX hX hr' h7 (show 1 < 2 by decide) e1' hux, show F_X1_pairsWith n S h (41 + 2 * r) 0 = _ from X1_pairsWith_eq n (by omega) hCX hX hr' h7 (show 0 < 2 by decide) e1' hux]
              rfl
          · generalize hw : nI (bsn L C m 0 u) - nI (bsn L C m 1 u) = w
            have hM1 : (xTell S w).2.2 82 = HRm := hM
            have hCM1 : CM (xTell S w) C Q T L := hCM.congr rfl (xTell_m (by decide))
            have e2' : (xTell S w).1 83 r = nI m := by rw [xTell_m (by decide)]; exact e2
            have hu2 : ∀ i, i < m → (xTell S w).1 84 (40 * r + i) = nI (u i) ∧ u i < 60 := fun i hi => by rw [xTell_m (by decide)]; exact hu' i hi
            show F_X7_beside n (xTell S w) 82 (nI r) = _
            unfold F_X7_beside
            simp only [nmE, jnE, bn2S, bndS, grdT, stI_22, stL_22, stRow_22, HRm, rfdS T_83, rfdS T_84, rfdS T_85, rfdS T_86, rfdS T_87, rfdS T_88, rfdS T_89, rfdS T_90, rfdS T_91, rfdS T_92, rfdS T_93, rfdS T_94, rfdS T_95, rfdS T_96, SZ_83, SZ_84, SZ_85, SZ_86, SZ_87, SZ_88, SZ_89, SZ_90, SZ_91, SZ_92, SZ_93, SZ_94, SZ_95, SZ_96, reduceIte, Bool.false_eq_true, one_ne0, X7_isRow_eq, hr, hM1, hc, e2', nI_ge0 (show m < 2 ^ 31 by omega)]
            rw [if_pos g7]
            refine (lp_ix nI (fun fu (a : aSt) i => F_X7_beside_L43 n 82 (nI r) (fun x87S => F_X7_beside_L94 n 82 (nI r) x87S (fun x167_2 x167_3 => bn2 (F_X7_tell n x87S 82 (x167_3 - x167_2)) fun r171 S171 => some (x167_2, S171)) n 0 0 0) fu i a) (fun x87S => F_X7_beside_L94 n 82 (nI r) x87S (fun x167_2 x167_3 => bn2 (F_X7_tell n x87S 82 (x167_3 - x167_2)) fun r171 S171 => some (x167_2, S171)) n 0 0 0) (fun _ => xTell S w) m (fun fu => ?_) (fun fu j hj => ?_) m 0 n (by omega) (by omega)).trans ?_
            · show F_X7_beside_L43 _ _ _ _ (fu + 1) _ _ = _
              rw [F_X7_beside_L43]
              simp only [nmE, jnE, bn2S, bndS, grdT, stI_22, stL_22, stRow_22, HRm, rfdS T_83, rfdS T_84, rfdS T_85, rfdS T_86, rfdS T_87, rfdS T_88, rfdS T_89, rfdS T_90, rfdS T_91, rfdS T_92, rfdS T_93, rfdS T_94, rfdS T_95, rfdS T_96, SZ_83, SZ_84, SZ_85, SZ_86, SZ_87, SZ_88, SZ_89, SZ_90, SZ_91, SZ_92, SZ_93, SZ_94, SZ_95, SZ_96, hM1, hr, hc, e2']
              rw [if_pos (Int32.le_refl _)]
            · show F_X7_beside_L43 _ _ _ _ (fu + 1) _ _ = F_X7_beside_L43 _ _ _ _ fu _ _
              rw [X7_beside_st n hM1 hr' hm e2' hj]
              rw [if_pos]
              rw [(hu2 j hj).1]
              exact inb_nI (hu2 j hj).2 (by decide)
            · rw [X7_beside_loop n (by omega) (RfM_xTell hM) hCM1 hr' h7 e2' hu2]
              simp only [X7_tell_eq, bn2S, hw]
        · obtain ⟨j, hj, hjn, hjf⟩ : ∃ j, j < m ∧ ¬ inb (S.1 84 (40 * r + j)) 60 = true ∧ ∀ i, i < j → ¬ ¬ inb (S.1 84 (40 * r + i)) 60 = true := fb_first (p := fun j => ¬ inb (S.1 84 (40 * r + j)) 60 = true) (Classical.byContradiction fun z => hv fun j hj => Classical.byContradiction fun y => z ⟨j, hj, y⟩)
          refine Both.fnd H 3 (by decide) ?_ ?_
          · unfold F_X6_beside
            simp only [nmE, jnE, bn2S, bndS, grdT, stI_22, stL_22, stRow_22, HR0, rfdS T_1, rfdS T_2, rfdS T_3, rfdS T_4, rfdS T_5, rfdS T_9, SZ_1, SZ_2, SZ_3, SZ_4, reduceIte, Bool.false_eq_true, one_ne0, X6_isRow_eq, hr, hX.2.1, hc, x1, x2, rfdS t1, rfdS t2, t3, X4_isThere_eq, e1', nI_nm1 (show m < 2 ^ 31 by omega)]
            rw [if_pos g7]
            refine lp_ix nI (fun fu (a : aSt) i => F_X6_beside_L46 n 0 (41 + 2 * r) (fun x86S => rfd (x86S.2.2 0 6) 0 fun k87 => (F_X1_pairsWith n x86S k87 (41 + 2 * r) 1).bind fun r92 => (F_X1_pairsWith n x86S k87 (41 + 2 * r) 0).bind fun r103 => some (r92, stI x86S 0 8 (r103 - r92))) fu i a) (fun _ => some (-3, xFnd S 3)) (fun _ => S) j (fun fu => ?_) (fun fu i hi => ?_) j 0 n (by omega) (by omega)
            · show F_X6_beside_L46 _ _ _ _ (fu + 1) _ _ = _
              rw [← v60, ← e3 j hj] at hjn
              rw [F_X6_beside_L46, e1', if_neg (nI_ge hj (by omega))]
              simp only [nmE, jnE, bn2S, bndS, grdT, stI_22, stL_22, stRow_22, x2, rfdS t2, t3, inb_nI (show j < 40 by omega) (by decide), nI_clamp (show j < 2 ^ 31 by omega), nI_1, xf3 n hX]
              by_cases q : S.1 (41 + 2 * r + 1) j < 0
              · rw [if_pos q]
              · rw [if_neg q, if_neg (fun z => hjn ⟨q, z⟩)]
            · show F_X6_beside_L46 _ _ _ _ (fu + 1) _ _ = F_X6_beside_L46 _ _ _ _ fu _ _
              have q := v60.mpr (Classical.not_not.mp (hjf i hi))
              rw [← e3 i (by omega)] at q
              rw [F_X6_beside_L46, e1', if_neg (nI_ge (show i < m by omega) (by omega))]
              simp only [nmE, jnE, bn2S, bndS, grdT, stI_22, stL_22, stRow_22, x2, rfdS t2, t3, inb_nI (show i < 40 by omega) (by decide), nI_clamp (show i < 2 ^ 31 by omega), nI_1]
              rw [if_neg q.1, if_pos q.2]
          · have hM1 : (xFnd S 3).2.2 82 = HRm := hM
            have e2' : (xFnd S 3).1 83 r = nI m := by rw [xFnd_m (by decide)]; exact e2
            have hv' : ∀ i, (xFnd S 3).1 84 (40 * r + i) = S.1 84 (40 * r + i) := fun i => by rw [xFnd_m (by decide)]
            show F_X7_beside n (xFnd S 3) 82 (nI r) = _
            unfold F_X7_beside
            simp only [nmE, jnE, bn2S, bndS, grdT, stI_22, stL_22, stRow_22, HRm, rfdS T_83, rfdS T_84, rfdS T_85, rfdS T_86, rfdS T_87, rfdS T_88, rfdS T_89, rfdS T_90, rfdS T_91, rfdS T_92, rfdS T_93, rfdS T_94, rfdS T_95, rfdS T_96, SZ_83, SZ_84, SZ_85, SZ_86, SZ_87, SZ_88, SZ_89, SZ_90, SZ_91, SZ_92, SZ_93, SZ_94, SZ_95, SZ_96, reduceIte, Bool.false_eq_true, one_ne0, X7_isRow_eq, hr, hM1, hc, e2', nI_ge0 (show m < 2 ^ 31 by omega)]
            rw [if_pos g7]
            refine lp_ix nI (fun fu (a : aSt) i => F_X7_beside_L43 n 82 (nI r) (fun x87S => F_X7_beside_L94 n 82 (nI r) x87S (fun x167_2 x167_3 => bn2 (F_X7_tell n x87S 82 (x167_3 - x167_2)) fun r171 S171 => some (x167_2, S171)) n 0 0 0) fu i a) (fun _ => some (-3, mFnd (xFnd S 3) 3)) (fun _ => xFnd S 3) j (fun fu => ?_) (fun fu i hi => ?_) j 0 n (by omega) (by omega)
            · show F_X7_beside_L43 _ _ _ _ (fu + 1) _ _ = _
              rw [X7_beside_st n hM1 hr' hm e2' hj, hv', if_neg hjn]
            · show F_X7_beside_L43 _ _ _ _ (fu + 1) _ _ = F_X7_beside_L43 _ _ _ _ fu _ _
              rw [X7_beside_st n hM1 hr' hm e2' (show i < m by omega), hv', if_pos (Classical.not_not.mp (hjf i hi))]
      · have g7 : ¬ nI m ≤ 7 := nI_ge (a := 7) (by omega) (by omega)
        refine Both.fnd H 5 (by decide) ?_ ?_
        · unfold F_X6_beside
          simp only [nmE, jnE, bn2S, bndS, grdT, stI_22, stL_22, stRow_22, HR0, rfdS T_1, rfdS T_2, rfdS T_3, rfdS T_4, rfdS T_5, rfdS T_9, SZ_1, SZ_2, SZ_3, SZ_4, reduceIte, Bool.false_eq_true, one_ne0, X6_isRow_eq, hr, hX.2.1, hc, x1, x2, rfdS t1, rfdS t2, t3, X4_isThere_eq, e1', nI_nm1 (show m < 2 ^ 31 by omega), xf5 n hX]
          rw [if_neg g7]
        · have hM1 : (xFnd S 5).2.2 82 = HRm := hM
          unfold F_X7_beside
          simp only [nmE, jnE, bn2S, bndS, grdT, stI_22, stL_22, stRow_22, HRm, rfdS T_83, rfdS T_84, rfdS T_85, rfdS T_86, rfdS T_87, rfdS T_88, rfdS T_89, rfdS T_90, rfdS T_91, rfdS T_92, rfdS T_93, rfdS T_94, rfdS T_95, rfdS T_96, SZ_83, SZ_84, SZ_85, SZ_86, SZ_87, SZ_88, SZ_89, SZ_90, SZ_91, SZ_92, SZ_93, SZ_94, SZ_95, SZ_96, reduceIte, Bool.false_eq_true, one_ne0, X7_isRow_eq, hr, hM1, hc, xFnd_m (show 5 ≤ 83 by decide), e2, nI_ge0 (show m < 2 ^ 31 by omega), mf5 n (RfM_xFnd hM)]
          rw [if_neg g7]
  · refine Both.same H (-1) ?_ ?_
    · unfold F_X6_beside
      simp only [nmE, jnE, bn2S, bndS, grdT, stI_22, stL_22, stRow_22, HR0, rfdS T_1, rfdS T_2, rfdS T_3, rfdS T_4, rfdS T_5, rfdS T_9, SZ_1, SZ_2, SZ_3, SZ_4, reduceIte, Bool.false_eq_true, one_ne0, X6_isRow_eq, hr]
    · unfold F_X7_beside
      simp only [nmE, jnE, bn2S, bndS, grdT, stI_22, stL_22, stRow_22, HRm, rfdS T_83, rfdS T_84, rfdS T_85, rfdS T_86, rfdS T_87, rfdS T_88, rfdS T_89, rfdS T_90, rfdS T_91, rfdS T_92, rfdS T_93, rfdS T_94, rfdS T_95, rfdS T_96, SZ_83, SZ_84, SZ_85, SZ_86, SZ_87, SZ_88, SZ_89, SZ_90, SZ_91, SZ_92, SZ_93, SZ_94, SZ_95, SZ_96, reduceIte, Bool.false_eq_true, one_ne0, X7_isRow_eq, hr]
