/-! parts. -/
theorem lp_ex {σ β : Type} (L : Nat → Int32 → σ → Option β) (K : σ → Option β) (P : Nat → σ → Prop) (C : Nat) (hx : ∀ fu s, P C s → L (fu + 1) (nI C) s = K s) (hs : ∀ fu c s, c < C → P c s → ∃ z, P (c + 1) z ∧ L (fu + 1) (nI c) s = L fu (nI (c + 1)) z) : ∀ (m c fu : Nat) (s : σ), c + m = C → m < fu → P c s → ∃ z, P C z ∧ L fu (nI c) s = K z := by
  intro m
  induction m with
  | zero =>
    intro c fu s hc hf hP
    obtain ⟨fu', rfl⟩ : ∃ k, fu = k + 1 := ⟨fu - 1, by omega⟩
    have : c = C := by omega
    subst this
    exact ⟨s, hP, hx _ _ hP⟩
  | succ m ih =>
    intro c fu s hc hf hP
    obtain ⟨fu', rfl⟩ : ∃ k, fu = k + 1 := ⟨fu - 1, by omega⟩
    obtain ⟨z, hz, e⟩ := hs fu' c s (by omega) hP
    rw [e]
    exact ih (c + 1) fu' z (by omega) (by omega) hz
/-- only cells that each call uses anew have changed -/
def Sm (S S' : aSt) : Prop := (∀ k, k ≤ 4 ∨ (13 ≤ k ∧ k ≤ 81) ∨ (83 ≤ k ∧ k ≤ 90) → S'.1 k = S.1 k) ∧ S'.1 82 7 = S.1 82 7 ∧ S'.1 82 10 = S.1 82 10 ∧ S'.2 = S.2
theorem Sm.refl (S : aSt) : Sm S S := ⟨fun _ _ => rfl, rfl, rfl, rfl⟩
theorem Sm.trans {A B C : aSt} (h : Sm A B) (k : Sm B C) : Sm A C := ⟨fun i q => (k.1 i q).trans (h.1 i q), k.2.1.trans h.2.1, k.2.2.1.trans h.2.2.1, k.2.2.2.trans h.2.2.2⟩
theorem OK.sm {S S' : aSt} (H : OK S) (h : Sm S S') : OK S' := by
  refine H.keep (fun k q => h.1 k (by omega)) (by rw [h.2.2.2]) ?_
  obtain ⟨h1, h2, h3, h4, h5⟩ := H.pa
  refine ⟨?_, ?_, fun f hf => ?_, ?_, ?_⟩
  · rw [h.1 0 (by omega), h.2.1]; exact h1
  · rw [h.1 0 (by omega), h.2.2.1]; exact h2
  · rw [h.1 4 (by omega), h.1 90 (by omega)]; exact h3 f hf
  · rw [h.2.2.2]; exact h4
  · rw [h.2.2.2]; exact h5
theorem CX.sm {S S' : aSt} {h C Q T : Nat} {L : Nat → Nat → Nat} (H : CX S h C Q T L) (k : Sm S S') : CX S' h C Q T L :=
  H.congr (by rw [k.2.2.2]) (fun i a b => k.1 i (by rcases H.1 with rfl | rfl <;> omega))
theorem CM.sm {S S' : aSt} {C Q T : Nat} {L : Nat → Nat → Nat} (H : CM S C Q T L) (k : Sm S S') : CM S' C Q T L :=
  H.congr (by rw [k.2.2.2]) (k.1 87 (by omega))
theorem Sm.stI {S S' : aSt} (h : Sm S S') {k : Nat} (hk : (5 ≤ k ∧ k ≤ 12) ∨ 91 ≤ k) (j : Nat) (v : Int32) : Sm S (stI S' k j v) := by
  refine h.trans ⟨fun i q => ?_, ?_, ?_, rfl⟩
  · rw [stI_ne (by omega)]
  · rw [stI_ne (by omega)]
  · rw [stI_ne (by omega)]
def mf (L : Nat → Nat → Nat) (C k a b : Nat) : Nat := fb_ct (fun c => isA (L 0 c) k && (decide (a ≤ me L c) && decide (me L c ≤ b))) C
def ms (L : Nat → Nat → Nat) (C k a b : Nat) : Nat := fb_ct (fun c => isA (L 0 c) k && (decide (a ≤ me L c) && decide (me L c < b))) C
def mc (L : Nat → Nat → Nat) (k m : Nat) : Nat → Nat := fb_ct (fun c => isA (L 0 c) k && decide (me L c = m))
theorem mf_ms (L : Nat → Nat → Nat) (C k a b : Nat) : ms L C k a (b + 1) = mf L C k a b := by
  unfold ms mf
  exact fb_ct_cong fun c _ => by simp only [Nat.lt_succ_iff]
theorem ms_0 (L : Nat → Nat → Nat) (C k a : Nat) : ms L C k a a = 0 := by
  unfold ms
  refine fb_ct_zero.mpr fun c _ => ?_
  by_cases h : isA (L 0 c) k = true
  · simp [h]
  · simp [h]
theorem ms_s (L : Nat → Nat → Nat) (C k a b : Nat) (h : a ≤ b) : ms L C k a (b + 1) = ms L C k a b + mc L k b C := by
  unfold ms mc
  rw [← fb_ct_or]
  · refine fb_ct_cong fun c _ => ?_
    cases isA (L 0 c) k
    · simp
    · simp only [Bool.true_and]
      by_cases h1 : me L c = b
      · simp [h1, h]
      · by_cases h2 : me L c < b
        · by_cases h3 : a ≤ me L c
          · simp [h1, h2, h3]; omega
          · simp [h1, h3]
        · simp [h1, h2]; omega
  · intro c _ q
    simp at q
    omega
theorem mf_le (L : Nat → Nat → Nat) (C k a b : Nat) : mf L C k a b ≤ C := fb_ct_le _ _
def scr (L : Nat → Nat → Nat) (C x : Nat) : Nat := 10 * (if 2 * mf L C (x / 100) (x / 10 % 10) (x % 10) ≤ C then C - 2 * mf L C (x / 100) (x / 10 % 10) (x % 10) else 2 * mf L C (x / 100) (x / 10 % 10) (x % 10) - C) + (x % 10 - x / 10 % 10)
def pst (L : Nat → Nat → Nat) (C x : Nat) (t : Int32 × Int32 × Int32) : Int32 × Int32 × Int32 := if x / 10 % 10 ≤ x % 10 then (if t.2.1 ≤ nI (scr L C x) then t else (nI x, nI (scr L C x), nI (mf L C (x / 100) (x / 10 % 10) (x % 10)))) else t
theorem scr0 (L : Nat → Nat → Nat) {C : Nat} (h : C ≤ 7) : scr L C 0 ≤ 70 := by
  have := mf_le L C (0 / 100) (0 / 10 % 10) (0 % 10)
  unfold scr
  split <;> omega
theorem pst_0 (L : Nat → Nat → Nat) {C : Nat} (h : C ≤ 7) (t : Int32 × Int32 × Int32) (ht : 70 < t.2.1.toInt) : pst L C 0 t = (nI 0, nI (scr L C 0), nI (mf L C 0 0 0)) := by
  have hs := scr0 L h
  unfold pst
  rw [if_pos (by decide), if_neg]
  rw [Int32.le_iff_toInt_le, nI_toInt (by omega)]
  omega
theorem pst_all (L : Nat → Nat → Nat) {C : Nat} (h : C ≤ 7) (t : Int32 × Int32 × Int32) (ht : 70 < t.2.1.toInt) : ∀ x, itr (pst L C) t (x + 1) = itr (pst L C) (0, 99, 0) (x + 1)
  | 0 => (pst_0 L h t ht).trans (pst_0 L h (0, 99, 0) (by decide)).symm
  | x + 1 => congrArg (pst L C (x + 1)) (pst_all L h t ht x)
theorem pt_dec : ∀ x, x < 600 → (nI x / 10 - nI x / 10 / 10 * 10 = nI (x / 10 % 10)) ∧ (nI x - nI x / 10 * 10 = nI (x % 10)) ∧ nI x / 100 = nI (x / 100) := by decide +kernel
theorem sc_dec : ∀ r, r < 8 → ∀ C, C < 8 → (if (2 : Int32) * nI r ≤ nI C then nI C - (2 : Int32) * nI r else (2 : Int32) * nI r - nI C) = nI (if 2 * r ≤ C then C - 2 * r else 2 * r - C) := by decide +kernel
theorem ab_dec : ∀ r, r < 8 → ∀ C, C < 8 → (if 0 ≤ (((2 : Int32) * nI r) - nI C) then (((2 : Int32) * nI r) - nI C) else 0 - (((2 : Int32) * nI r) - nI C)) = nI (if 2 * r ≤ C then C - 2 * r else 2 * r - C) := by decide +kernel
theorem s2_dec : ∀ d, d < 15 → ∀ a, a < 10 → ∀ b, b < 10 → a ≤ b → ((10 : Int32) * nI d + nI b) - nI a = nI (10 * d + (b - a)) := by decide +kernel
theorem cd_dec : ∀ k, k < 6 → ∀ a, a < 10 → ∀ b, b < 10 → (((100 : Int32) * nI k) + ((10 : Int32) * nI a)) + nI b = nI (100 * k + 10 * a + b) := by decide +kernel
section Lib12
variable {S : aSt} {h C Q T : Nat} {L : Nat → Nat → Nat}
theorem X7_manyFit_eq (n : Nat) (hn : 10 < n) (H : CM S C Q T L) {k a b : Nat} (hk : k ≤ 5) (ha : a < 2 ^ 31) (hb : b < 2 ^ 31) : F_X7_manyFit n S 82 (nI k) (nI a) (nI b) = some (nI (mf L C k a b)) := by
  have hC := H.2.2.1
  unfold F_X7_manyFit
  simp only [jnE]
  refine lp_ct (fun fu x i => F_X7_manyFit_L6 n S 82 (nI k) (nI a) (nI b) (fun x => some x) fu x i) (fun x => some x) _ C n (by omega) (fun fu x => ?_) (fun fu c x hc => ?_)
  · show F_X7_manyFit_L6 _ _ _ _ _ _ _ (fu + 1) _ _ = _
    rw [F_X7_manyFit_L6]
    simp only [nmE, jnE, bn2S, bndS, grdT, stI_22, stL_22, stRow_22, HRm, rfdS T_83, rfdS T_84, rfdS T_85, rfdS T_86, rfdS T_87, rfdS T_88, rfdS T_89, rfdS T_90, rfdS T_91, rfdS T_92, rfdS T_93, rfdS T_94, rfdS T_95, rfdS T_96, SZ_83, SZ_84, SZ_85, SZ_86, SZ_87, SZ_88, SZ_89, SZ_90, SZ_91, SZ_92, SZ_93, SZ_94, SZ_95, SZ_96, H.1, in0, H.v0]
    rw [if_pos (Int32.le_refl _)]
  · show F_X7_manyFit_L6 _ _ _ _ _ _ _ (fu + 1) _ _ = F_X7_manyFit_L6 _ _ _ _ _ _ _ fu _ _
    rw [F_X7_manyFit_L6]
    simp only [nmE, jnE, bn2S, bndS, grdT, stI_22, stL_22, stRow_22, HRm, rfdS T_83, rfdS T_84, rfdS T_85, rfdS T_86, rfdS T_87, rfdS T_88, rfdS T_89, rfdS T_90, rfdS T_91, rfdS T_92, rfdS T_93, rfdS T_94, rfdS T_95, rfdS T_96, SZ_83, SZ_84, SZ_85, SZ_86, SZ_87, SZ_88, SZ_89, SZ_90, SZ_91, SZ_92, SZ_93, SZ_94, SZ_95, SZ_96, H.1, in0, H.v0]
    rw [if_neg (nI_ge hc (by omega))]
    simp only [nmE, jnE, bn2S, bndS, grdT, stI_22, stL_22, stRow_22, X7_suits_eq n H hc hk ha hb, if10', nI_1, show ∀ a : Int32, a + 0 = a by simp]
    by_cases q : isA (L 0 c) k = true ∧ a ≤ me L c ∧ me L c ≤ b
    · rw [if_pos q, if_pos (by simp [q])]
    · rw [if_neg q, if_neg (by simpa [Bool.and_eq_true] using q)]
theorem X7_parts_loop (n : Nat) (hn : 700 < n) (H : CM S C Q T L) (K : Int32 → Int32 → Option (Int32 × aSt)) : F_X7_parts_L22 n S 82 87 K n 0 99 0 0 = K (itr (pst L C) (0, 99, 0) 600).1 (itr (pst L C) (0, 99, 0) 600).2.2 := by
  have hC := H.2.2.1
  refine lp_it (fun fu (a : Int32 × Int32 × Int32) i => F_X7_parts_L22 n S 82 87 K fu a.1 a.2.1 a.2.2 i) (fun a => K a.1 a.2.2) (pst L C) 600 n (0, 99, 0) (by omega) (fun fu a => ?_) (fun fu x a hx => ?_)
  · show F_X7_parts_L22 _ _ _ _ _ (fu + 1) _ _ _ _ = _
    rw [F_X7_parts_L22, if_pos (by decide)]
  · show F_X7_parts_L22 _ _ _ _ _ (fu + 1) _ _ _ _ = F_X7_parts_L22 _ _ _ _ _ fu _ _ _ _
    obtain ⟨d1, d2, d3⟩ := pt_dec x hx
    have hr := mf_le L C (x / 100) (x / 10 % 10) (x % 10)
    rw [F_X7_parts_L22, if_neg (show ¬ (600 : Int32) ≤ nI x from nI_ge hx (by decide)), d1, d2, d3]
    simp only [nmE, jnE, bn2S, bndS, grdT, stI_22, stL_22, stRow_22, HRm, rfdS T_83, rfdS T_84, rfdS T_85, rfdS T_86, rfdS T_87, rfdS T_88, rfdS T_89, rfdS T_90, rfdS T_91, rfdS T_92, rfdS T_93, rfdS T_94, rfdS T_95, rfdS T_96, SZ_83, SZ_84, SZ_85, SZ_86, SZ_87, SZ_88, SZ_89, SZ_90, SZ_91, SZ_92, SZ_93, SZ_94, SZ_95, SZ_96, in0, H.v0, X7_manyFit_eq n (show 10 < n by omega) H (show x / 100 ≤ 5 by omega) (show x / 10 % 10 < 2 ^ 31 by omega) (show x % 10 < 2 ^ 31 by omega), nI_1, pst]
    by_cases k : x / 10 % 10 ≤ x % 10
    · rw [if_pos (nI_le k (by omega)), if_pos k]
      have e1 := sc_dec (mf L C (x / 100) (x / 10 % 10) (x % 10)) (by omega) C (by omega)
      have e2 := s2_dec (if 2 * mf L C (x / 100) (x / 10 % 10) (x % 10) ≤ C then C - 2 * mf L C (x / 100) (x / 10 % 10) (x % 10) else 2 * mf L C (x / 100) (x / 10 % 10) (x % 10) - C) (by split <;> omega) (x / 10 % 10) (by omega) (x % 10) (by omega) k
      have e3 : ∀ d : Int32, d = nI (if 2 * mf L C (x / 100) (x / 10 % 10) (x % 10) ≤ C then C - 2 * mf L C (x / 100) (x / 10 % 10) (x % 10) else 2 * mf L C (x / 100) (x / 10 % 10) (x % 10) - C) → (10 : Int32) * d + nI (x % 10) - nI (x / 10 % 10) = nI (scr L C x) := fun d q => by rw [q, e2]; rfl
      by_cases c : (2 : Int32) * nI (mf L C (x / 100) (x / 10 % 10) (x % 10)) ≤ nI C
      · rw [if_pos c] at e1 ⊢
        rw [e3 _ e1]
        by_cases c2 : a.2.1 ≤ nI (scr L C x)
        · rw [if_pos c2, if_pos c2]
        · rw [if_neg c2, if_neg c2]
      · rw [if_neg c] at e1 ⊢
        rw [e3 _ e1]
        by_cases c2 : a.2.1 ≤ nI (scr L C x)
        · rw [if_pos c2, if_pos c2]
        · rw [if_neg c2, if_neg c2]
    · rw [if_neg (nI_ge (by omega) (by omega)), if_neg k]
end Lib12
