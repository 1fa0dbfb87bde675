/-! asked, upper, lower, finding, findings; worlds, never, forged. -/
def itr {α : Type} (f : Nat → α → α) (a : α) : Nat → α
  | 0 => a
  | c + 1 => f c (itr f a c)
theorem lp_it {α β : Type} (L : Nat → α → Int32 → Option β) (K : α → Option β) (f : Nat → α → α) (C n : Nat) (a0 : α) (hn : C < n) (hx : ∀ fu a, L (fu + 1) a (nI C) = K a) (hs : ∀ fu c a, c < C → L (fu + 1) a (nI c) = L fu (f c a) (nI (c + 1))) : L n a0 0 = K (itr f a0 C) :=
  lp_eq L K (fun c => itr f a0 c) C (fun fu => hx fu _) (fun fu c hc => hs fu c _ hc) C 0 n (by omega) hn
theorem op_asked (n : Nat) {S : aSt} (H : OK S) : BothR (F_X6_asked n S 0) (F_X7_asked n S 82) := ⟨_, rfl, congrArg some H.pa.1.symm⟩
theorem op_finding (n : Nat) {S : aSt} (H : OK S) : BothR (F_X6_finding n S 0) (F_X7_finding n S 82) := ⟨_, rfl, congrArg some H.pa.2.1.symm⟩
def BothL (fx fm : Option Int64) : Prop := ∃ r, fx = some r ∧ fm = some r
theorem op_upper (n : Nat) {S : aSt} (H : OK S) : BothL (F_X6_upper n S 0) (F_X7_upper n S 82) := ⟨_, rfl, congrArg some H.pa.2.2.2.1.symm⟩
theorem op_lower (n : Nat) {S : aSt} (H : OK S) : BothL (F_X6_lower n S 0) (F_X7_lower n S 82) := ⟨_, rfl, congrArg some H.pa.2.2.2.2.symm⟩
theorem op_findings (n : Nat) {S : aSt} (H : OK S) (f : Int32) : BothR (F_X6_findings n S 0 f) (F_X7_findings n S 82 f) := by
  obtain ⟨h, d, C, Q, T, L, hX, hM, hCX, hCM, hk⟩ := H.get
  have hM1 : S.2.2 82 = HRm := hM
  have e1 : (1 : Int32).toInt = 1 := rfl
  have e5 : (5 : Int32).toInt = 5 := rfl
  have ei := X7_in_i n S f 1 5
  rw [e1, e5] at ei
  by_cases hf : 1 ≤ f.toInt ∧ f.toInt ≤ 5
  · have hi : inb f 6 = true := inb_iff.mpr ⟨by omega, by omega⟩
    obtain ⟨f, hf', rfl⟩ := inb_ex hi (by decide)
    have hcl : (nI f).toNatClampNeg = f := nI_clamp (by omega)
    refine ⟨S.1 4 f, ?_, ?_⟩
    · unfold F_X6_findings
      rw [if_neg (by rw [Int32.lt_iff_toInt_lt, e1]; omega), if_pos (by rw [Int32.le_iff_toInt_le, e5]; omega)]
      simp only [nmE, jnE, bn2S, bndS, grdT, stI_22, stL_22, stRow_22, HR0, rfdS T_1, rfdS T_2, rfdS T_3, rfdS T_4, rfdS T_5, rfdS T_9, SZ_1, SZ_2, SZ_3, SZ_4, hX.2.1, hi, hcl]
    · unfold F_X7_findings
      rw [show (1 : Int64) = (1 : Int32).toInt64 from rfl, show (5 : Int64) = (5 : Int32).toInt64 from rfl, ei, if_pos hf]
      simp only [nmE, jnE, bn2S, bndS, grdT, stI_22, stL_22, stRow_22, HRm, rfdS T_83, rfdS T_84, rfdS T_85, rfdS T_86, rfdS T_87, rfdS T_88, rfdS T_89, rfdS T_90, rfdS T_91, rfdS T_92, rfdS T_93, rfdS T_94, rfdS T_95, rfdS T_96, SZ_83, SZ_84, SZ_85, SZ_86, SZ_87, SZ_88, SZ_89, SZ_90, SZ_91, SZ_92, SZ_93, SZ_94, SZ_95, SZ_96, reduceIte, Bool.false_eq_true, one_ne0, hM1, hi, hcl, H.pa.2.2.1 f hf']
  · refine ⟨-1, ?_, ?_⟩
    · unfold F_X6_findings
      by_cases h1 : f < 1
      · rw [if_pos h1]
      · rw [if_neg h1, if_neg]
        rw [Int32.lt_iff_toInt_lt, e1] at h1
        rw [Int32.le_iff_toInt_le, e5]; omega
    · unfold F_X7_findings
      rw [show (1 : Int64) = (1 : Int32).toInt64 from rfl, show (5 : Int64) = (5 : Int32).toInt64 from rfl, ei, if_neg hf]
      rfl
def wy (L : Nat → Nat → Nat) (q : Nat) : Nat := if L 8 q = 99 then (if L 9 q = 99 then L 6 q - L 5 q + 1 else if L 5 q ≤ me L (L 9 q) ∧ me L (L 9 q) ≤ L 6 q then 1 else 0) else (if L 9 q = 99 then 1 else vd L q)
def tc (L : Nat → Nat → Nat) (q c : Nat) : Bool := ft L q c && (decide (L 8 q = 99) || decide (me L c = L 8 q))
section Lib7
variable {S : aSt} {h C Q T : Nat} {L : Nat → Nat → Nat}
theorem X1_waysOfTruth_eq (n : Nat) (H : CX S h C Q T L) {q : Nat} (hq : q < Q) : F_X1_waysOfTruth n S h (nI q) = some (nI (wy L q)) := by
  have hw := H.2.2.2.2
  have hQ := hw.2.1
  have w6 := hw.2.2.2.2.2.1 q hq
  have a1 := H.2.2.2.1.2.2.2.1 q hq
  have a2 := H.2.2.2.1.2.2.2.2.2.2.1 q hq
  have a3 := H.2.2.2.1.2.2.2.2.2.2.2.1 q (by omega)
  have hi := inb_nI (show q < 7 by omega) (by decide)
  have hcl : (nI q).toNatClampNeg = q := nI_clamp (by omega)
  unfold F_X1_waysOfTruth wy
  simp only [nmE, jnE, bn2S, bndS, grdT, stI_22, stL_22, stRow_22, H.r3, H.r4, H.r6, H.s2, H.s3, rfdS (tg4 H.1), rfdS (tg5 H.1), rfdS (tg7 H.1), rfdS (tgs3 H.1), rfdS (tgs4 H.1), sg4 H.1, sg5 H.1, sgs3 H.1, sgs4 H.1, hi, hcl, a1.2.1, a1.2.2.1, a2, a3, en_m9 (show L 8 q < 2 ^ 31 by omega), X1_isFreeQuestion_eq n H (show q < 7 by omega), if10', X1_verdict_eq n H hq]
  by_cases k : L 8 q = 99
  · rw [if_pos k, if_pos k]
    by_cases k2 : L 9 q = 99
    · rw [if_pos k2, if_pos k2, pk_sub w6.2.1, nI_1]
    · rw [if_neg k2, if_neg k2]
      have hac : L 9 q < C := by
        rcases hw.ans q (by omega) with h1 | h1
        · exact absurd h1 k2
        · exact h1.2.1
      have hme := hw.mle hac
      simp only [nmE, jnE, bn2S, bndS, grdT, stI_22, stL_22, stRow_22, en_nI k2, X1_meaningOf_eq n H hac]
      by_cases k3 : L 5 q ≤ me L (L 9 q)
      · rw [if_neg (nI_nlt k3 (by omega))]
        by_cases k4 : me L (L 9 q) ≤ L 6 q
        · rw [if_neg (nI_nlt k4 (by omega)), if_pos ⟨k3, k4⟩]; rfl
        · rw [if_pos (nI_lt (by omega) (by omega)), if_neg (fun z => k4 z.2)]; rfl
      · rw [if_pos (nI_lt (by omega) (by omega)), if_neg (fun z => k3 z.1)]; rfl
  · rw [if_neg k, if_neg k]
    by_cases k2 : L 9 q = 99
    · rw [if_pos k2, if_pos k2, if_neg (by decide)]; rfl
    · rw [if_neg k2, if_neg k2]
      unfold vd
      rw [if_neg k]
      by_cases k3 : me L (L 9 q) = L 8 q
      · rw [if_pos k3, if_neg (by decide)]; rfl
      · rw [if_neg k3, if_pos (by decide)]; rfl
theorem X6_worlds_eq (n : Nat) (hn : 10 < n) {d : Nat} (hX : RfX S h d) (H : CX S h C Q T L) : F_X6_worlds n S 0 = some (itr (fun q a => a * nI (wy L q)) 1 Q) := by
  have hQ := H.2.2.2.2.2.1
  unfold F_X6_worlds
  simp only [jnE]
  refine lp_it (fun fu a i => F_X6_worlds_L4 n S 0 (fun x => some x) fu a i) (fun x => some x) _ Q n 1 (by omega) (fun fu a => ?_) (fun fu q a hq => ?_)
  · show F_X6_worlds_L4 _ _ _ _ (fu + 1) _ _ = _
    rw [F_X6_worlds_L4, X0_here hX, H.2.2.2.1.2.1, if_pos (Int32.le_refl _)]
  · show F_X6_worlds_L4 _ _ _ _ (fu + 1) _ _ = F_X6_worlds_L4 _ _ _ _ fu _ _
    rw [F_X6_worlds_L4, X0_here hX, H.2.2.2.1.2.1, if_neg (nI_ge hq (by omega))]
    simp only [nmE, jnE, bn2S, bndS, grdT, stI_22, stL_22, stRow_22, X1_waysOfTruth_eq n H hq, nI_1]
theorem X7_worlds_eq (n : Nat) (hn : 10 < n) (H : CM S C Q T L) : F_X7_worlds n S 82 = some (itr (fun q a => a * nI (wy L q)) 1 Q) := by
  have hQ := H.2.2.2.1
  have hw := H.2.2
  have hm := H.2.1
  unfold F_X7_worlds
  simp only [jnE]
  refine lp_it (fun fu a i => F_X7_worlds_L4 n S 82 (fun x => some x) fu a i) (fun x => some x) _ Q n 1 (by omega) (fun fu a => ?_) (fun fu q a hq => ?_)
  · show F_X7_worlds_L4 _ _ _ _ (fu + 1) _ _ = _
    rw [F_X7_worlds_L4]
    simp only [nmE, jnE, bn2S, bndS, grdT, stI_22, stL_22, stRow_22, HRm, rfdS T_83, rfdS T_84, rfdS T_85, rfdS T_86, rfdS T_87, rfdS T_88, rfdS T_89, rfdS T_90, rfdS T_91, rfdS T_92, rfdS T_93, rfdS T_94, rfdS T_95, rfdS T_96, SZ_83, SZ_84, SZ_85, SZ_86, SZ_87, SZ_88, SZ_89, SZ_90, SZ_91, SZ_92, SZ_93, SZ_94, SZ_95, SZ_96, H.1, in1, H.v1]
    rw [if_pos (Int32.le_refl _)]
  · show F_X7_worlds_L4 _ _ _ _ (fu + 1) _ _ = F_X7_worlds_L4 _ _ _ _ fu _ _
    have w6 := hw.2.2.2.2.2.1 q hq
    rw [F_X7_worlds_L4]
    simp only [nmE, jnE, bn2S, bndS, grdT, stI_22, stL_22, stRow_22, HRm, rfdS T_83, rfdS T_84, rfdS T_85, rfdS T_86, rfdS T_87, rfdS T_88, rfdS T_89, rfdS T_90, rfdS T_91, rfdS T_92, rfdS T_93, rfdS T_94, rfdS T_95, rfdS T_96, SZ_83, SZ_84, SZ_85, SZ_86, SZ_87, SZ_88, SZ_89, SZ_90, SZ_91, SZ_92, SZ_93, SZ_94, SZ_95, SZ_96, H.1, in1, H.v1]
    rw [if_neg (nI_ge hq (by omega))]
    have e38 : (38 : Int32) + nI q = nI (38 + q) := nI_add 38 q
    have e45 : (45 : Int32) + nI q = nI (45 + q) := nI_add 45 q
    have e59 : (59 : Int32) + nI q = nI (59 + q) := nI_add 59 q
    have e66 : (66 : Int32) + nI q = nI (66 + q) := nI_add 66 q
    obtain ⟨-, b1, b2, -, b4⟩ := hm.2.2.2.2.1 q hq
    simp only [nmE, jnE, bn2S, bndS, grdT, stI_22, stL_22, stRow_22, HRm, rfdS T_83, rfdS T_84, rfdS T_85, rfdS T_86, rfdS T_87, rfdS T_88, rfdS T_89, rfdS T_90, rfdS T_91, rfdS T_92, rfdS T_93, rfdS T_94, rfdS T_95, rfdS T_96, SZ_83, SZ_84, SZ_85, SZ_86, SZ_87, SZ_88, SZ_89, SZ_90, SZ_91, SZ_92, SZ_93, SZ_94, SZ_95, SZ_96, e38, e45, e59, e66, inb_nI (show 38 + q < 393 by omega) (by decide), inb_nI (show 45 + q < 393 by omega) (by decide), inb_nI (show 59 + q < 393 by omega) (by decide), inb_nI (show 66 + q < 393 by omega) (by decide), nI_clamp (show 38 + q < 2 ^ 31 by omega), nI_clamp (show 45 + q < 2 ^ 31 by omega), nI_clamp (show 59 + q < 2 ^ 31 by omega), nI_clamp (show 66 + q < 2 ^ 31 by omega), b1, b2, b4, hm.2.2.2.2.2.1 q (show q < 7 by omega) (hw.pos hq), X7_isFree_eq n H (show q < Q by omega), if10', en_m9 (show L 8 q < 2 ^ 31 by omega), nI_1, wy]
    by_cases k : L 8 q = 99
    · rw [if_pos k, if_pos k]
      simp only [reduceIte, Bool.false_eq_true, one_ne0]
      by_cases k2 : L 9 q = 99
      · rw [if_pos k2, if_pos k2, pk_sub w6.2.1, nI_1]
      · rw [if_neg k2, if_neg k2]
        have hac : L 9 q < C := by
          rcases hw.ans q (by omega) with h1 | h1
          · exact absurd h1 k2
          · exact h1.2.1
        have hme := hw.mle hac
        simp only [nmE, jnE, bn2S, bndS, grdT, stI_22, stL_22, stRow_22, en_nI k2, X7_means_eq n H hac, X7_in_i, nI_toInt (show me L (L 9 q) < 2 ^ 31 by omega), nI_toInt (show L 5 q < 2 ^ 31 by omega), nI_toInt (show L 6 q < 2 ^ 31 by omega), Int.ofNat_le, if10']
        by_cases k3 : L 5 q ≤ me L (L 9 q) ∧ me L (L 9 q) ≤ L 6 q
        · rw [if_pos k3, if_pos k3]; rfl
        · rw [if_neg k3, if_neg k3]; rfl
    · rw [if_neg k, if_neg k]
      simp only [reduceIte, Bool.false_eq_true, one_ne0]
      by_cases k2 : L 9 q = 99
      · rw [if_pos k2, if_pos k2]; rfl
      · rw [if_neg k2, if_neg k2]
        simp only [nmE, jnE, bn2S, bndS, grdT, stI_22, stL_22, stRow_22, X7_stands_eq n H hq k2]
theorem X1_trueCards_eq (n : Nat) (hn : 10 < n) (H : CX S h C Q T L) {q : Nat} (hq : q < Q) : F_X1_trueCards n S h (nI q) = some (nI (bs (fun c => tc L q c) C)) := by
  have hw := H.2.2.2.2
  have h7 := hw.1
  have hQ := hw.2.1
  have w6 := hw.2.2.2.2.2.1 q hq
  have a2 := H.2.2.2.1.2.2.2.2.2.2.1 q hq
  unfold F_X1_trueCards
  simp only [nmE, jnE, bn2S, bndS, grdT, stI_22, stL_22, stRow_22, H.r6, H.s2, rfdS (tg7 H.1), rfdS (tgs3 H.1), sgs3 H.1, inb_nI (show q < 7 by omega) (by decide), nI_clamp (show q < 2 ^ 31 by omega), a2]
  refine lp_bs (fun fu a i => F_X1_trueCards_L15 n S h (nI q) (en (L 8 q)) (fun x => some x) fu a i) (fun x => some x) (fun c => tc L q c) C n (by omega) (by omega) (fun fu a => ?_) (fun fu c a hc => ?_)
  · show F_X1_trueCards_L15 _ _ _ _ _ _ (fu + 1) _ _ = _
    rw [F_X1_trueCards_L15, H.2.2.2.1.1, if_pos (Int32.le_refl _)]
  · show F_X1_trueCards_L15 _ _ _ _ _ _ (fu + 1) _ _ = F_X1_trueCards_L15 _ _ _ _ _ _ fu _ _
    have hme := hw.mle hc
    rw [F_X1_trueCards_L15, H.2.2.2.1.1, if_neg (nI_ge hc (by omega))]
    simp only [nmE, jnE, bn2S, bndS, grdT, stI_22, stL_22, stRow_22, X1_isFitting_eq n H hc hq, if10', nI_1, en_m9 (show L 8 q < 2 ^ 31 by omega), X1_meaningOf_eq n H hc, tc]
    by_cases k : ft L q c = true
    · by_cases k2 : L 8 q = 99
      · simp [k, k2]
      · by_cases k3 : me L c = L 8 q
        · simp [k, k2, k3, en_nI k2]
        · have : ¬ nI (me L c) = nI (L 8 q) := fun z => k3 ((nI_eq (by omega) (by omega)).mp z)
          simp [k, k2, k3, en_nI k2, this]
    · simp [k]
theorem bs_0 {p : Nat → Bool} : ∀ {n : Nat}, bs p n = 0 ↔ ∀ i, i < n → p i = false
  | 0 => by simp [bs]
  | n + 1 => by
    rw [bs]
    have ih := bs_0 (p := p) (n := n)
    by_cases hp : p n = true
    · rw [if_pos hp]
      have : 0 < 2 ^ n := Nat.two_pow_pos n
      constructor
      · intro h1; omega
      · intro h1; have := h1 n (by omega); rw [hp] at this; cases this
    · rw [if_neg hp, Nat.add_zero, ih]
      constructor
      · intro h1 i hi
        rcases Nat.lt_or_ge i n with h2 | h2
        · exact h1 i h2
        · have : i = n := by omega
          subst this; simpa using hp
      · intro h1 i hi; exact h1 i (by omega)
theorem bs_lt31 (p : Nat → Bool) {n : Nat} (h : n ≤ 30) : bs p n < 2 ^ 31 := Nat.lt_of_lt_of_le (bs_lt p n) (Nat.pow_le_pow_right (by decide) (by omega))
theorem X7_never_in (n : Nat) (hn : 10 < n) (H : CM S C Q T L) {q : Nat} (hq : q < Q) (K : Int32 → Option Int32) : F_X7_never_L19 n S 82 (nI q) 87 K n 0 0 = K (if bs (fun c => tc L q c) C = 0 then 0 else 1) := by
  have hw := H.2.2
  have h7 := hw.1
  have hQ := hw.2.1
  have w6 := hw.2.2.2.2.2.1 q hq
  have b4 := (H.2.1.2.2.2.2.1 q hq).2.2.2.2
  have e59 : (59 : Int32) + nI q = nI (59 + q) := nI_add 59 q
  have key := lp_eq (fun fu a i => F_X7_never_L19 n S 82 (nI q) 87 K fu a i) K (fun c => if bs (fun c => tc L q c) c = 0 then 0 else 1) C
    (fun fu => by
      show F_X7_never_L19 _ _ _ _ _ _ (fu + 1) _ _ = _
      rw [F_X7_never_L19]
      simp only [nmE, jnE, bn2S, bndS, grdT, stI_22, stL_22, stRow_22, HRm, rfdS T_83, rfdS T_84, rfdS T_85, rfdS T_86, rfdS T_87, rfdS T_88, rfdS T_89, rfdS T_90, rfdS T_91, rfdS T_92, rfdS T_93, rfdS T_94, rfdS T_95, rfdS T_96, SZ_83, SZ_84, SZ_85, SZ_86, SZ_87, SZ_88, SZ_89, SZ_90, SZ_91, SZ_92, SZ_93, SZ_94, SZ_95, SZ_96, in0, H.v0]
      rw [if_pos (Int32.le_refl _)])
    (fun fu c hc => by
      show F_X7_never_L19 _ _ _ _ _ _ (fu + 1) _ _ = F_X7_never_L19 _ _ _ _ _ _ fu _ _
      have hme := hw.mle hc
      have h2 : 0 < 2 ^ c := Nat.two_pow_pos c
      rw [F_X7_never_L19]
      simp only [nmE, jnE, bn2S, bndS, grdT, stI_22, stL_22, stRow_22, HRm, rfdS T_83, rfdS T_84, rfdS T_85, rfdS T_86, rfdS T_87, rfdS T_88, rfdS T_89, rfdS T_90, rfdS T_91, rfdS T_92, rfdS T_93, rfdS T_94, rfdS T_95, rfdS T_96, SZ_83, SZ_84, SZ_85, SZ_86, SZ_87, SZ_88, SZ_89, SZ_90, SZ_91, SZ_92, SZ_93, SZ_94, SZ_95, SZ_96, in0, H.v0]
      rw [if_neg (nI_ge hc (by omega))]
      simp only [nmE, jnE, bn2S, bndS, grdT, stI_22, stL_22, stRow_22, HRm, rfdS T_83, rfdS T_84, rfdS T_85, rfdS T_86, rfdS T_87, rfdS T_88, rfdS T_89, rfdS T_90, rfdS T_91, rfdS T_92, rfdS T_93, rfdS T_94, rfdS T_95, rfdS T_96, SZ_83, SZ_84, SZ_85, SZ_86, SZ_87, SZ_88, SZ_89, SZ_90, SZ_91, SZ_92, SZ_93, SZ_94, SZ_95, SZ_96, X7_isFit_eq n H hc hq, if10', e59, inb_nI (show 59 + q < 393 by omega) (by decide), nI_clamp (show 59 + q < 2 ^ 31 by omega), b4, en_m9 (show L 8 q < 2 ^ 31 by omega), X7_means_eq n H hc, nI_1]
      by_cases k0 : bs (fun c => tc L q c) c = 0
      · rw [if_pos k0]
        simp only [reduceIte, Bool.false_eq_true, one_ne0, bs, k0, Nat.zero_add]
        by_cases k : ft L q c = true
        · by_cases k2 : L 8 q = 99
          · simp [tc, k, k2]
          · by_cases k3 : me L c = L 8 q
            · simp [tc, k, k2, k3, en_nI k2]
            · have : ¬ nI (L 8 q) = nI (me L c) := fun z => k3 ((nI_eq (by omega) (by omega)).mp z).symm
              simp [tc, k, k2, k3, en_nI k2, this]
        · simp [tc, k]
      · rw [if_neg k0]
        have hne : ¬ bs (fun c => tc L q c) (c + 1) = 0 := by rw [bs]; omega
        rw [if_neg hne]
        simp only [reduceIte, Bool.false_eq_true, one_ne0]) C 0 n (by omega) (by omega)
  exact key
end Lib7
theorem op_worlds (n : Nat) (hn : 100 < n) {S : aSt} (H : OK S) : BothR (F_X6_worlds n S 0) (F_X7_worlds n S 82) := by
  obtain ⟨h, d, C, Q, T, L, hX, hM, hCX, hCM, hk⟩ := H.get
  exact ⟨_, X6_worlds_eq n (by omega) hX hCX, X7_worlds_eq n (by omega) hCM⟩
theorem op_never (n : Nat) (hn : 100 < n) {S : aSt} (H : OK S) : BothR (F_X6_never n S 0) (F_X7_never n S 82) := by
  obtain ⟨h, d, C, Q, T, L, hX, hM, hCX, hCM, hk⟩ := H.get
  have hC := hCM.2.2.1
  have hQ := hCM.2.2.2.1
  refine ⟨nI (bs (fun q => decide (bs (fun c => tc L q c) C = 0)) Q), ?_, ?_⟩
  · unfold F_X6_never
    simp only [jnE]
    refine lp_bs (fun fu a i => F_X6_never_L4 n S 0 (fun x => some x) fu a i) (fun x => some x) _ Q n (by omega) (by omega) (fun fu a => ?_) (fun fu q a hq => ?_)
    · show F_X6_never_L4 _ _ _ _ (fu + 1) _ _ = _
      rw [F_X6_never_L4, X0_here hX, hCX.2.2.2.1.2.1, if_pos (Int32.le_refl _)]
    · show F_X6_never_L4 _ _ _ _ (fu + 1) _ _ = F_X6_never_L4 _ _ _ _ fu _ _
      rw [F_X6_never_L4, X0_here hX, hCX.2.2.2.1.2.1, if_neg (nI_ge hq (by omega))]
      simp only [nmE, jnE, bn2S, bndS, grdT, stI_22, stL_22, stRow_22, X1_trueCards_eq n (show 10 < n by omega) hCX hq, nI_1, decide_eq_true_eq]
      by_cases k : bs (fun c => tc L q c) C = 0
      · rw [if_pos k, k, if_pos (show nI 0 = 0 from rfl)]
      · rw [if_neg k, if_neg (nI_ne0 (by omega) (bs_lt31 _ (by omega)))]
  · unfold F_X7_never
    simp only [jnE]
    refine lp_bs (fun fu a i => F_X7_never_L4 n S 82 (fun x => some x) fu a i) (fun x => some x) _ Q n (by omega) (by omega) (fun fu a => ?_) (fun fu q a hq => ?_)
    · show F_X7_never_L4 _ _ _ _ (fu + 1) _ _ = _
      rw [F_X7_never_L4]
      simp only [nmE, jnE, bn2S, bndS, grdT, stI_22, stL_22, stRow_22, HRm, rfdS T_83, rfdS T_84, rfdS T_85, rfdS T_86, rfdS T_87, rfdS T_88, rfdS T_89, rfdS T_90, rfdS T_91, rfdS T_92, rfdS T_93, rfdS T_94, rfdS T_95, rfdS T_96, SZ_83, SZ_84, SZ_85, SZ_86, SZ_87, SZ_88, SZ_89, SZ_90, SZ_91, SZ_92, SZ_93, SZ_94, SZ_95, SZ_96, hCM.1, in1, hCM.v1]
      rw [if_pos (Int32.le_refl _)]
    · show F_X7_never_L4 _ _ _ _ (fu + 1) _ _ = F_X7_never_L4 _ _ _ _ fu _ _
      rw [F_X7_never_L4]
      simp only [nmE, jnE, bn2S, bndS, grdT, stI_22, stL_22, stRow_22, HRm, rfdS T_83, rfdS T_84, rfdS T_85, rfdS T_86, rfdS T_87, rfdS T_88, rfdS T_89, rfdS T_90, rfdS T_91, rfdS T_92, rfdS T_93, rfdS T_94, rfdS T_95, rfdS T_96, SZ_83, SZ_84, SZ_85, SZ_86, SZ_87, SZ_88, SZ_89, SZ_90, SZ_91, SZ_92, SZ_93, SZ_94, SZ_95, SZ_96, hCM.1, in1, hCM.v1]
      rw [if_neg (nI_ge hq (by omega)), X7_never_in n (by omega) hCM hq]
      simp only [nmE, jnE, bn2S, bndS, grdT, stI_22, stL_22, stRow_22, nI_1, decide_eq_true_eq, or_0]
      by_cases k : bs (fun c => tc L q c) C = 0
      · rw [if_pos k, if_pos k, if_pos rfl]
      · rw [if_neg k, if_neg k, if_neg (by decide)]
