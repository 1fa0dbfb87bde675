/-! Loops that count, and that gather bits. -/
theorem lp_ct {β : Type} (L : Nat → Int32 → Int32 → Option β) (K : Int32 → Option β) (p : Nat → Bool) (C n : Nat) (hn : C < n) (hx : ∀ fu a, L (fu + 1) a (nI C) = K a) (hs : ∀ fu c a, c < C → L (fu + 1) a (nI c) = L fu (if p c = true then a + 1 else a) (nI (c + 1))) : L n 0 0 = K (nI (fb_ct p C)) := by
  refine lp_eq L K (fun c => nI (fb_ct p c)) C (fun fu => hx fu _) (fun fu c hc => ?_) C 0 n (by omega) hn
  show L (fu + 1) (nI (fb_ct p c)) (nI c) = L fu (nI (fb_ct p (c + 1))) (nI (c + 1))
  rw [hs fu c _ hc, fb_ct_succ]
  by_cases h : p c = true
  · rw [if_pos h, if_pos h, nI_1]
  · rw [if_neg h, if_neg h]
    rfl
theorem lp_bs {β : Type} (L : Nat → Int32 → Int32 → Option β) (K : Int32 → Option β) (p : Nat → Bool) (C n : Nat) (hC : C ≤ 30) (hn : C < n) (hx : ∀ fu a, L (fu + 1) a (nI C) = K a) (hs : ∀ fu c a, c < C → L (fu + 1) a (nI c) = L fu (if p c = true then a ||| ((1 : Int32) <<< (nI c &&& 31)) else a) (nI (c + 1))) : L n 0 0 = K (nI (bs p C)) := by
  refine lp_eq L K (fun c => nI (bs p c)) C (fun fu => hx fu _) (fun fu c hc => ?_) C 0 n (by omega) hn
  show L (fu + 1) (nI (bs p c)) (nI c) = L fu (nI (bs p (c + 1))) (nI (c + 1))
  rw [hs fu c _ hc, bs]
  by_cases h : p c = true
  · rw [if_pos h, if_pos h, or_bit (bs_lt p c) (by omega)]
  · rw [if_neg h, if_neg h]
    rfl
theorem li_9' : ∀ c, c < 7 → ¬ (7 : Int32) ≤ nI c := by decide +kernel
section Lib2
variable {S : aSt} {h C Q T : Nat} {L : Nat → Nat → Nat}
theorem X1_isCard_eq (n : Nat) (H : CX S h C Q T L) (x : Int32) : F_X1_isCard n S h x = some (if inb x C = true then 1 else 0) := by
  have hw := H.2.2.2.2
  unfold F_X1_isCard
  rw [H.2.2.2.1.1]
  exact if_in (by have := hw.1; omega)
theorem X1_isQuestion_eq (n : Nat) (H : CX S h C Q T L) (x : Int32) : F_X1_isQuestion n S h x = some (if inb x Q = true then 1 else 0) := by
  have hw := H.2.2.2.2
  unfold F_X1_isQuestion
  rw [H.2.2.2.1.2.1]
  exact if_in (by have := hw.2.1; omega)
theorem X7_isCard_eq (n : Nat) (H : CM S C Q T L) (x : Int32) : F_X7_isCard n S 82 x = some (if inb x C = true then 1 else 0) := by
  obtain ⟨hM1, hm, hw⟩ := H
  have h7 := hw.1
  unfold F_X7_isCard
  simp only [nmE, jnE, bn2S, bndS, grdT, stI_22, stL_22, stRow_22, HRm, rfdS T_83, rfdS T_84, rfdS T_85, rfdS T_86, rfdS T_87, rfdS T_88, rfdS T_89, rfdS T_90, rfdS T_91, rfdS T_92, rfdS T_93, rfdS T_94, rfdS T_95, rfdS T_96, SZ_83, SZ_84, SZ_85, SZ_86, SZ_87, SZ_88, SZ_89, SZ_90, SZ_91, SZ_92, SZ_93, SZ_94, SZ_95, SZ_96, hM1, show inb (0 : Int32) 393 = true by decide, show (0 : Int32).toNatClampNeg = 0 from rfl, hm.1, X7_in_sz n S x (show C < 2 ^ 31 by omega), isB_if]
theorem X7_isQuestion_eq (n : Nat) (H : CM S C Q T L) (x : Int32) : F_X7_isQuestion n S 82 x = some (if inb x Q = true then 1 else 0) := by
  obtain ⟨hM1, hm, hw⟩ := H
  have h7 := hw.2.1
  unfold F_X7_isQuestion
  simp only [nmE, jnE, bn2S, bndS, grdT, stI_22, stL_22, stRow_22, HRm, rfdS T_83, rfdS T_84, rfdS T_85, rfdS T_86, rfdS T_87, rfdS T_88, rfdS T_89, rfdS T_90, rfdS T_91, rfdS T_92, rfdS T_93, rfdS T_94, rfdS T_95, rfdS T_96, SZ_83, SZ_84, SZ_85, SZ_86, SZ_87, SZ_88, SZ_89, SZ_90, SZ_91, SZ_92, SZ_93, SZ_94, SZ_95, SZ_96, hM1, show inb (1 : Int32) 393 = true by decide, show (1 : Int32).toNatClampNeg = 1 from rfl, hm.2.1, X7_in_sz n S x (show Q < 2 ^ 31 by omega), isB_if]
theorem WL.ans {C Q T : Nat} {L : Nat → Nat → Nat} (H : WL C Q T L) : AnsOK C Q (L 9) := H.2.2.2.2.2.2.1
theorem AnsOK.lt {C Q : Nat} {a : Nat → Nat} (H : AnsOK C Q a) (hC : C ≤ 7) {q : Nat} (hq : q < 7) : a q = 99 ∨ a q < 7 := by
  rcases H q hq with h | h
  · exact Or.inl h
  · exact Or.inr (by omega)
theorem AnsOK.lt31 {C Q : Nat} {a : Nat → Nat} (H : AnsOK C Q a) (hC : C ≤ 7) {q : Nat} (hq : q < 7) : a q < 2 ^ 31 := by
  rcases H.lt hC hq with h | h <;> omega
theorem AnsOK.out {C Q : Nat} {a : Nat → Nat} (H : AnsOK C Q a) {q : Nat} (hq : q < 7) (h : Q ≤ q) : a q = 99 := by
  rcases H q hq with h1 | h1
  · exact h1
  · omega
/-- the question that a card answers, or 99 -/
theorem aq_some {L : Nat → Nat → Nat} (H : AnsOK C Q (L 9)) {c q : Nat} (hq : q < 7) (hc : c ≠ 99) (e : L 9 q = c) : aq L c = q := by
  unfold aq
  have h1 : fa_first (fun q => decide (L 9 q = c)) 7 < 7 := by
    rcases Nat.lt_or_ge (fa_first (fun q => decide (L 9 q = c)) 7) 7 with h | h
    · exact h
    · have := fa_first_no (fun q => decide (L 9 q = c)) 7 q (by omega)
      simp [e] at this
  rw [if_pos h1]
  have h2 := fa_first_yes (fun q => decide (L 9 q = c)) 7 h1
  simp only [decide_eq_true_eq] at h2
  rcases H q hq with h | ⟨-, -, h⟩
  · omega
  · exact h _ h1 (h2.trans e.symm)
theorem aq_none {L : Nat → Nat → Nat} {c : Nat} (h : ∀ q, q < 7 → L 9 q ≠ c) : aq L c = 99 := by
  unfold aq
  rw [if_neg]
  intro h1
  have h2 := fa_first_yes (fun q => decide (L 9 q = c)) 7 h1
  simp only [decide_eq_true_eq] at h2
  exact h _ h1 h2
theorem aq_lt (L : Nat → Nat → Nat) (c : Nat) : aq L c < 7 ∨ aq L c = 99 := by
  unfold aq
  generalize fa_first (fun q => decide (L 9 q = c)) 7 = f
  by_cases h : f < 7
  · left; rw [if_pos h]; exact h
  · right; rw [if_neg h]
theorem aq_99 {L : Nat → Nat → Nat} {c : Nat} : aq L c = 99 ↔ ∀ q, q < 7 → L 9 q ≠ c := by
  constructor
  · intro h q hq e
    have h2 := fa_first_no (fun q => decide (L 9 q = c)) 7 q
    unfold aq at h
    generalize fa_first (fun q => decide (L 9 q = c)) 7 = f at h h2
    by_cases h1 : f < 7
    · rw [if_pos h1] at h; omega
    · have := h2 (by omega)
      simp [e] at this
  · exact aq_none
theorem aq_hit {L : Nat → Nat → Nat} {c : Nat} (h : aq L c ≠ 99) : aq L c < 7 ∧ L 9 (aq L c) = c := by
  have h2 := fa_first_yes (fun q => decide (L 9 q = c)) 7
  unfold aq at h ⊢
  generalize fa_first (fun q => decide (L 9 q = c)) 7 = f at h h2 ⊢
  by_cases h3 : f < 7
  · rw [if_pos h3]
    exact ⟨h3, by simpa using h2 h3⟩
  · rw [if_neg h3] at h
    exact absurd rfl h
theorem X5_questionOf_eq (n : Nat) (hn : 10 < n) {s : Nat} (hr : S.2.2 s 3 = some (s + 4)) (hT : isT (s + 4) 7 = true) (hz : (SH (s + 4)).2 = 7) (ha : ∀ q, q < 7 → S.1 (s + 4) q = en (L 9 q)) (hA : AnsOK C Q (L 9)) (hC : C ≤ 7) {c : Nat} (hc : c < 99) : F_X5_questionOf n S s (nI c) = some (en (aq L c)) := by
  unfold F_X5_questionOf
  simp only [jnE]
  have key : ∀ m p fu, p + m = 7 → m < fu → (∀ q, q < p → L 9 q ≠ c) → F_X5_questionOf_L2 S s (nI c) (some (-9)) fu (nI p) = some (en (aq L c)) := by
    intro m
    induction m with
    | zero =>
      intro p fu hp hf hno
      obtain ⟨fu', rfl⟩ : ∃ k, fu = k + 1 := ⟨fu - 1, by omega⟩
      have : p = 7 := by omega
      subst this
      rw [F_X5_questionOf_L2, if_pos (show (7 : Int32) ≤ nI 7 by decide), aq_none hno, en_99]
    | succ m ih =>
      intro p fu hp hf hno
      obtain ⟨fu', rfl⟩ : ∃ k, fu = k + 1 := ⟨fu - 1, by omega⟩
      rw [F_X5_questionOf_L2, if_neg (li_9' p (by omega))]
      simp only [nmE, jnE, bn2S, bndS, grdT, stI_22, stL_22, stRow_22, hr, rfdS hT, hz, inb_nI (show p < 7 by omega) (by decide), nI_clamp (show p < 2 ^ 31 by omega), ha p (by omega)]
      by_cases e : L 9 p = c
      · rw [if_pos ((en_eq (hA.lt31 hC (by omega)) hc).mpr e), aq_some hA (by omega) (by omega) e, en_nI (by omega)]
      · rw [if_neg (fun z => e ((en_eq (hA.lt31 hC (by omega)) hc).mp z)), nI_1]
        exact ih (p + 1) fu' (by omega) (by omega) (fun q hq => by
          rcases Nat.lt_or_ge q p with h1 | h1
          · exact hno q h1
          · have : q = p := by omega
            subst this; exact e)
  exact key 7 0 n (by omega) (by omega) (fun q hq => by omega)
theorem X1_questionOf_eq (n : Nat) (hn : 10 < n) (H : CX S h C Q T L) {c : Nat} (hc : c < 99) : F_X5_questionOf n S (h + 7) (nI c) = some (en (aq L c)) :=
  X5_questionOf_eq n hn H.s3 (tgs4 H.1) (sgs4 H.1) H.2.2.2.1.2.2.2.2.2.2.2.1 H.2.2.2.2.ans H.2.2.2.2.1 hc
theorem X7_answers_eq (n : Nat) (hn : 10 < n) (H : CM S C Q T L) {c : Nat} (hc : c < 99) : F_X7_answers n S 82 (nI c) = some (en (aq L c)) := by
  obtain ⟨hM1, hm, hw⟩ := H
  have hA := hw.ans
  have hq7 := hw.2.1
  have z1 : ∀ p, p < 7 → L 9 p = c → aq L c = p := fun p hp e => aq_some hA hp (by omega) e
  have z2 := fun (q : aq L c ≠ 99) => aq_hit q
  have z3 := aq_lt L c
  generalize aq L c = z at z1 z2 z3 ⊢
  unfold F_X7_answers
  simp only [jnE]
  have key := lp_eq (fun fu a i => F_X7_answers_L5 S 82 (nI c) (fun x => some x) fu a i) (fun x => some x) (fun p => en (if z < p then z else 99)) Q
    (fun fu => by
      show F_X7_answers_L5 _ _ _ _ (fu + 1) _ _ = _
      rw [F_X7_answers_L5]
      simp only [nmE, jnE, bn2S, bndS, grdT, stI_22, stL_22, stRow_22, HRm, rfdS T_83, rfdS T_84, rfdS T_85, rfdS T_86, rfdS T_87, rfdS T_88, rfdS T_89, rfdS T_90, rfdS T_91, rfdS T_92, rfdS T_93, rfdS T_94, rfdS T_95, rfdS T_96, SZ_83, SZ_84, SZ_85, SZ_86, SZ_87, SZ_88, SZ_89, SZ_90, SZ_91, SZ_92, SZ_93, SZ_94, SZ_95, SZ_96, hM1, show inb (1 : Int32) 393 = true by decide, show (1 : Int32).toNatClampNeg = 1 from rfl, hm.2.1]
      rw [if_pos (Int32.le_refl _)])
    (fun fu p hp => by
      show F_X7_answers_L5 _ _ _ _ (fu + 1) _ _ = F_X7_answers_L5 _ _ _ _ fu _ _
      rw [F_X7_answers_L5]
      have e1 : (66 : Int32) + nI p = nI (66 + p) := nI_add 66 p
      simp only [nmE, jnE, bn2S, bndS, grdT, stI_22, stL_22, stRow_22, HRm, rfdS T_83, rfdS T_84, rfdS T_85, rfdS T_86, rfdS T_87, rfdS T_88, rfdS T_89, rfdS T_90, rfdS T_91, rfdS T_92, rfdS T_93, rfdS T_94, rfdS T_95, rfdS T_96, SZ_83, SZ_84, SZ_85, SZ_86, SZ_87, SZ_88, SZ_89, SZ_90, SZ_91, SZ_92, SZ_93, SZ_94, SZ_95, SZ_96, hM1, show inb (1 : Int32) 393 = true by decide, show (1 : Int32).toNatClampNeg = 1 from rfl, hm.2.1]
      rw [if_neg (nI_ge hp (by omega))]
      simp only [nmE, jnE, bn2S, bndS, grdT, stI_22, stL_22, stRow_22, HRm, rfdS T_83, rfdS T_84, rfdS T_85, rfdS T_86, rfdS T_87, rfdS T_88, rfdS T_89, rfdS T_90, rfdS T_91, rfdS T_92, rfdS T_93, rfdS T_94, rfdS T_95, rfdS T_96, SZ_83, SZ_84, SZ_85, SZ_86, SZ_87, SZ_88, SZ_89, SZ_90, SZ_91, SZ_92, SZ_93, SZ_94, SZ_95, SZ_96, e1, inb_nI (show 66 + p < 393 by omega) (by decide), nI_clamp (show 66 + p < 2 ^ 31 by omega), hm.2.2.2.2.2.1 p (by omega) (hw.pos hp), nI_1]
      by_cases e : L 9 p = c
      · have ez := z1 p (by omega) e
        rw [if_pos ((en_eq (hA.lt31 hw.1 (by omega)) hc).mpr e), if_pos (by omega), ez, en_nI (by omega)]
      · rw [if_neg (fun z => e ((en_eq (hA.lt31 hw.1 (by omega)) hc).mp z))]
        have : z ≠ p := by
          intro q
          have h1 := (z2 (by omega)).2
          rw [q] at h1
          exact e h1
        have e2 : (if z < p then z else 99) = (if z < p + 1 then z else 99) := by
          by_cases h2 : z < p
          · rw [if_pos h2, if_pos (by omega)]
          · rw [if_neg h2, if_neg (by omega)]
        rw [e2]) Q 0 n (by omega) (by omega)
  have e0 : (if z < 0 then z else 99) = 99 := if_neg (by omega)
  simp only [e0, en_99] at key
  rw [show (0 : Int32) = nI 0 from rfl, key]
  have e3 : (if z < Q then z else 99) = z := by
    by_cases h2 : z < Q
    · rw [if_pos h2]
    · rw [if_neg h2]
      rcases z3 with h3 | h3
      · exfalso
        have h4 := hA.out h3 (by omega)
        have h1 := (z2 (by omega)).2
        omega
      · exact h3.symm
  rw [e3]
end Lib2
