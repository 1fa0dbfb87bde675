/-! the class reads a whole text. -/
theorem prs_skip {tx : Nat → Int32} {m : Nat} {r : prR} : ∀ (j p pf C Q : Nat) (L : Nat → Nat → Nat), p + j ≤ m → (∀ i, p ≤ i → i < p + j → tx i = 32) → prs tx m pf p C Q L = some r → ∃ pf', pf' ≤ pf ∧ prs tx m pf' (p + j) C Q L = some r
  | 0, p, pf, C, Q, L, _, _, h => ⟨pf, Nat.le_refl _, h⟩
  | j + 1, p, pf, C, Q, L, hj, hb, h => by
    cases pf with
    | zero => cases h
    | succ pf =>
      rw [prs, if_neg (by omega), if_pos (hb p (by omega) (by omega))] at h
      obtain ⟨pf', h1, h2⟩ := prs_skip j (p + 1) pf C Q L (by omega) (fun i a b => hb i (by omega) (by omega)) h
      exact ⟨pf', by omega, by rw [show p + (j + 1) = p + 1 + j by omega]; exact h2⟩
section Read4
variable {d k m : Nat} {tx : Nat → Int32}
theorem X1_read_loop (n : Nat) (hn : 200 < n) (hd : d = 13 ∨ d = 27) {r : prR} (K : aSt → Option (Int32 × aSt)) : ∀ (N pf : Nat), pf ≤ N → ∀ (p C Q rd fu : Nat) (L : Nat → Nat → Nat) (S : aSt), prs tx m pf p C Q L = some r → p ≤ m → 4 * rd ≤ p → m - p < fu → LI C Q L → TX S k m tx → DX S d → PD S d C Q L → ∃ S', F_X1_readFrom_L21 n d k K fu (nI p) (nI rd) S = some (en r.1, S') ∧ Dr d S S' ∧ (r.1 = 99 → PD S' d r.2.1 r.2.2.1 r.2.2.2) := by
  intro N
  induction N with
  | zero =>
    intro pf hN p C Q rd fu L S hr
    have : pf = 0 := by omega
    rw [this] at hr
    cases hr
  | succ N ih =>
    intro pf hN p C Q rd fu L S hr hp hrd hf hI hT hD hP
    obtain ⟨fu', rfl⟩ : ∃ z, fu = z + 1 := ⟨fu - 1, by omega⟩
    have hm := hT.2.2.2.2.1
    have t4 := hT.2.2.2.1
    have hC := hI.1.1
    obtain ⟨p', a1, a2, a3, a4, a5⟩ := X1_pastBlanks_eq n hT (m - p) p n (by omega) (by omega)
    obtain ⟨pf', b1, b2⟩ := prs_skip (p' - p) p pf C Q L (by omega) (fun i x y => a3 i x (by omega)) hr
    rw [show p + (p' - p) = p' by omega] at b2
    have eb : F_X1_pastBlanks n S k (nI p) = some (nI p') := by unfold F_X1_pastBlanks; rw [jnE]; exact a5
    rw [F_X1_readFrom_L21, t4, if_neg (nI_nlt (by omega) (by omega)), eb, bndS, X4_reaches_eq n (show m < 2 ^ 31 by omega) t4, bndS, if10']
    cases pf' with
    | zero => cases b2
    | succ pf' =>
      by_cases k1 : p' < m
      · have hT' := hT
        obtain ⟨t1, t2, t3, -, t5, t6, t7⟩ := hT
        rw [if_pos (inb_nI k1 (by omega)), t1, rfdS t2, t3, inb_nI (show p' < 80 by omega) (by decide), grdT, nI_clamp (show p' < 2 ^ 31 by omega), t6 p' k1]
        rw [prs, if_neg (by omega), if_neg (a4 k1)] at b2
        simp only [jnE, nmE]
        by_cases k2 : tx p' = 113
        · rw [if_pos k2]
          obtain ⟨S1, g1, g2, g3⟩ := X1_readQuestion_eq n hT' hD hP hI k1 k2
          rw [if_neg (show ¬ (1 : Int32) = 0 by decide), g1, bn2S]
          by_cases k3 : (itm tx m p' C Q L).1 = 99
          · obtain ⟨i1, i2, i3⟩ := itm_ok hI k3 k1 hm
            rw [if_pos k3, if_pos k2] at b2
            rw [if_pos k2] at i2
            obtain ⟨S2, h1, h2, h3⟩ := ih pf' (by omega) (p' + 5) _ _ (rd + 1) fu' _ S1 b2 i2 (by omega) (by omega) i1 (hT'.dr hd g2) (hD.dr g2) (g3 k3)
            refine ⟨S2, ?_, g2.trans h2, h3⟩
            rw [if_pos (en_no k3), if_neg (show ¬ (1 : Int32) = 0 by decide), show nI p' + 5 = nI (p' + 5) from nI_add p' 5, nI_1]
            exact h1
          · rw [if_neg k3] at b2
            have er := Option.some.inj b2
            have hl := itm_f k3 k1
            rw [if_neg (en_ne k3 (by omega))]
            refine ⟨S1, ?_, g2, fun z => ?_⟩
            · rw [← er]
            · rw [← er] at z
              exact absurd z k3
        · rw [if_neg k2]
          obtain ⟨S1, g1, g2, g3⟩ := X1_readCard_eq n (by omega) hT' hD hP hI k1 k2
          rw [if_pos trivial, g1, bn2S]
          by_cases k3 : (itm tx m p' C Q L).1 = 99
          · obtain ⟨i1, i2, i3⟩ := itm_ok hI k3 k1 hm
            rw [if_pos k3, if_neg k2] at b2
            rw [if_neg k2] at i2
            obtain ⟨S2, h1, h2, h3⟩ := ih pf' (by omega) (p' + 4) _ _ (rd + 1) fu' _ S1 b2 i2 (by omega) (by omega) i1 (hT'.dr hd g2) (hD.dr g2) (g3 k3)
            refine ⟨S2, ?_, g2.trans h2, h3⟩
            rw [if_pos (en_no k3), if_pos trivial, show nI p' + 4 = nI (p' + 4) from nI_add p' 4, nI_1]
            exact h1
          · rw [if_neg k3] at b2
            have er := Option.some.inj b2
            have hl := itm_f k3 k1
            rw [if_neg (en_ne k3 (by omega))]
            refine ⟨S1, ?_, g2, fun z => ?_⟩
            · rw [← er]
            · rw [← er] at z
              exact absurd z k3
      · have e : p' = m := by omega
        rw [prs, if_pos (by omega)] at b2
        have er := Option.some.inj b2
        rw [if_neg (by rw [inb_iff, nI_toInt (by omega)]; omega), hP.1.1]
        refine ⟨S, ?_, Dr.refl d S, fun z => ?_⟩
        · rw [← er]
          by_cases k2 : C = 0
          · rw [if_pos (by rw [k2]; rfl)]
            show some (nI m, S) = some (en (if C = 0 then p' else 99), S)
            rw [if_pos k2, en_nI (by omega), e]
          · rw [if_neg (nI_ne0 (by omega) (by omega))]
            show some (-9, S) = some (en (if C = 0 then p' else 99), S)
            rw [if_neg k2]
            rfl
        · rw [← er]
          exact hP
theorem X1_readFrom_eq (n : Nat) (hn : 200 < n) {S : aSt} (hT : TX S k m tx) (hD : DX S d) : ∃ (r : prR) (S' : aSt), prs tx m (m + 1) 0 0 0 (fun _ _ => 99) = some r ∧ F_X1_readFrom n S d k = some (en r.1, S') ∧ Dr d S S' ∧ (r.1 = 99 → PD S' d r.2.1 r.2.2.1 r.2.2.2 ∧ LI r.2.1 r.2.2.1 r.2.2.2 ∧ 0 < r.2.1) := by
  have hm := hT.2.2.2.2.1
  have hd := hD.1
  obtain ⟨r, f1, f2, f3⟩ := prs_ex (tx := tx) hm m 0 0 0 (fun _ _ => 99) (by omega) (by omega) LI.zero
  generalize hS1 : stI (stI S d 7 0) d 8 0 = S1
  have r1 : Dr d S S1 := by rw [← hS1]; exact ((Dr.refl d S).sI (by omega) _ _).sI (by omega) _ _
  generalize hS2 : stI S1 (d + 7) 6 0 = S2
  have r2 : Dr d S S2 := by rw [← hS2]; exact r1.sI (by omega) _ _
  generalize hS3 : stRow S2 (d + 7 + 3) (fil (S2.1 (d + 7 + 3)) 0 7 (-9)) = S3
  have r3 : Dr d S S3 := by rw [← hS3]; exact r2.sR (by omega) _
  generalize hS4 : stRow S3 (d + 7 + 4) (fil (S3.1 (d + 7 + 4)) 0 7 (-9)) = S4
  have r4 : Dr d S S4 := by rw [← hS4]; exact r3.sR (by omega) _
  have hP : PD S4 d 0 0 (fun _ _ => 99) := by
    refine ⟨⟨?_, ?_, fun c hc => by omega, fun q hq => by omega, ?_, fun c hc => by omega, fun q hq => by omega, fun q hq => ?_, fun t ht => by omega⟩, fun q hq => ?_⟩
    · rw [← hS4, stRow_ne (by omega), ← hS3, stRow_ne (by omega), ← hS2, stI_ne (by omega), ← hS1]
      simp [stI_at]
      rfl
    · rw [← hS4, stRow_ne (by omega), ← hS3, stRow_ne (by omega), ← hS2, stI_ne (by omega), ← hS1]
      simp [stI_at]
      rfl
    · rw [← hS4, stRow_ne (by omega), ← hS3, stRow_ne (by omega), ← hS2]
      simp [stI_at]
      rfl
    · rw [← hS4, stRow_self]
      unfold fil
      rw [if_pos (by omega)]
      rfl
    · rw [← hS4, stRow_ne (by omega), ← hS3, stRow_self]
      unfold fil
      rw [if_pos (by omega)]
  obtain ⟨S5, g1, g2, g3⟩ := X1_read_loop n hn hd (fun x129S => some ((x129S.1 k 1), x129S)) (m + 1) (m + 1) (Nat.le_refl _) 0 0 0 0 n (fun _ _ => 99) S4 f1 (by omega) (by omega) (by omega) LI.zero (hT.dr hd r4) (hD.dr r4) hP
  refine ⟨r, S5, f1, ?_, r4.trans g2, fun z => ⟨g3 z, f2 z⟩⟩
  unfold F_X1_readFrom
  rw [nmE, nmE, hS1, (hD.dr r1).a6]
  unfold F_X5_begin
  rw [nmE, hS2, (hD.dr r2).b2, J7_fill_eq n S2 (sgs3 hd) (by decide) (by omega), bndS, hS3, (hD.dr r3).b3, J7_fill_eq n S3 (sgs4 hd) (by decide) (by omega), bndS, hS4, bndS, jnE]
  exact g1
end Read4
