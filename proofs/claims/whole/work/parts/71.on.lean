/-! matchings: the class's tables, on. -/
section On
variable {S0 S : aSt} {C Q : Nat} {L : Nat → Nat → Nat}
theorem X2_mostPairs_eq (n : Nat) (hn : 200 < n) (H : TB S0 S C Q L Q) : F_X2_mostPairs n S 5 = some (nI (mx C (alm L) (fun _ => 1) Q 0 0)) := by
  obtain ⟨h1, hm, h3, h4, h5⟩ := H
  have hC := hm.2.2.2.2.1
  have hQ := hm.2.2.2.2.2
  have h2 : 2 ^ C ≤ 128 := Nat.pow_le_pow_right (n := 2) (by decide) hC
  unfold F_X2_mostPairs
  simp only [jnE]
  have key := lp_eq (fun fu a i => F_X2_mostPairs_L4 n S 5 (fun x => some x) fu a i) (fun x => some x) (fun m => nI (fmx (fun U => if 0 < Aq C (alm L) Q U then pcn U else 0) 0 m)) (2 ^ C) (fun fu => ?_) (fun fu U hU => ?_) (2 ^ C) 0 n (by omega) (by omega)
  · refine key.trans ?_
    congr 2
    refine Nat.le_antisymm (fmx_le (Nat.zero_le _) (fun U _ => ?_)) ?_
    · by_cases k : 0 < Aq C (alm L) Q U
      · rw [if_pos k]; exact most_ge hC k
      · rw [if_neg k]; exact Nat.zero_le _
    · obtain ⟨U, a1, a2, a3⟩ := most_at (al := alm L) hC Q
      rw [← a3]
      have := fmx_ge (f := fun U => if 0 < Aq C (alm L) Q U then pcn U else 0) (b := 0) a1
      rw [if_pos a2] at this
      exact this
  · show F_X2_mostPairs_L4 _ _ _ _ (fu + 1) _ _ = _
    rw [F_X2_mostPairs_L4, hm.2.2.2.1, if_pos (Int32.le_refl _)]
  · show F_X2_mostPairs_L4 _ _ _ _ (fu + 1) _ _ = F_X2_mostPairs_L4 _ _ _ _ fu _ _
    have hA := Aq_le (al := alm L) hC (show Q ≤ 7 by omega) U
    have hb := fmx_le (f := fun U => if 0 < Aq C (alm L) Q U then pcn U else 0) (b := 0) (k := 7) (by omega) (n := U) (fun V _ => by split; exact pcn_7 V; omega)
    have hp := pcn_7 U
    rw [F_X2_mostPairs_L4, hm.2.2.2.1, if_neg (nI_ge hU (by omega)), fmx]
    generalize fmx (fun U => if 0 < Aq C (alm L) Q U then pcn U else 0) 0 U = a at hb
    simp only [nmE, jnE, hm.2.1, li_128, nI_mulN, nI_add, hm.r1, SZ_7, inb_nI (show Q * 128 + U < 1024 by omega) (by decide), grdT, nI_clamp (show Q * 128 + U < 2 ^ 31 by omega), h4 Q (Nat.le_refl _) U hU, J6_bitCount_eq n S (show U < 128 by omega), bndS, nI_1]
    by_cases k : 0 < Aq C (alm L) Q U
    · rw [if_neg (nI_nle k (by omega)), if_pos k]
      by_cases k2 : a < pcn U
      · rw [if_pos (nI_lt k2 (by omega)), Nat.max_eq_right (by omega)]
      · rw [if_neg (nI_nlt (by omega) (by omega)), Nat.max_eq_left (by omega)]
    · rw [show Aq C (alm L) Q U = 0 by omega, if_pos (by decide), if_neg (by omega), Nat.max_eq_left (Nat.zero_le _)]
/-- the table on: what V says stands there, where one comes to -/
def TO (S : aSt) (C Q : Nat) (L : Nat → Nat → Nat) (V : Nat → Nat → Nat) (q : Nat) : Prop := ∀ U, U < 2 ^ C → (0 < Aq C (alm L) q U ∨ q = Q) → S.1 8 (q * 128 + U) = nI (V q U)
theorem X2_waysFrom_eq (n : Nat) (hn : 10 < n) (H : TB S0 S C Q L Q) {V : Nat → Nat → Nat} {q U : Nat} (hq : q < Q) (hU : U < 2 ^ C) (hA : 0 < Aq C (alm L) q U) (ho : TO S C Q L V (q + 1)) : F_X2_waysFrom n S 5 (nI q) (nI U) = some (nI (V (q + 1) U + fb_sm (fun c => if av (alm L) U q c = true then V (q + 1) (U ||| 2 ^ c) else 0) C)) := by
  obtain ⟨h1, hm, h3, h4, h5⟩ := H
  have hC := hm.2.2.2.2.1
  have hQ := hm.2.2.2.2.2
  have hU1 := p128 hC hU
  unfold F_X2_waysFrom
  simp only [nmE, jnE, grdT, nI_1, li_128, nI_mulN, nI_add, hm.r2, hm.r0, SZ_8, SZ_6, inb_nI (show (q + 1) * 128 + U < 1024 by omega) (by decide), nI_clamp (show (q + 1) * 128 + U < 2 ^ 31 by omega), inb_nI (show q < 7 by omega) (by decide), nI_clamp (show q < 2 ^ 31 by omega), h3 q hq, ho U hU (Or.inl (Aq_on hU hA))]
  refine lp_eq (fun fu a i => F_X2_waysFrom_L33 S 5 (nI U) (nI ((q + 1) * 128)) 8 (nI (bs (alm L q) C) &&& (nI U ^^^ -1)) (fun x => some x) fu a i) (fun x => some x) (fun m => nI (V (q + 1) U + fb_sm (fun c => if av (alm L) U q c = true then V (q + 1) (U ||| 2 ^ c) else 0) m)) C (fun fu => ?_) (fun fu c hc => ?_) C 0 n (by omega) (by omega)
  · show F_X2_waysFrom_L33 _ _ _ _ _ _ _ (fu + 1) _ _ = _
    rw [F_X2_waysFrom_L33, hm.2.2.1, if_pos (Int32.le_refl _)]
  · show F_X2_waysFrom_L33 _ _ _ _ _ _ _ (fu + 1) _ _ = F_X2_waysFrom_L33 _ _ _ _ _ _ _ fu _ _
    have hb := p128 hC (or_lt hU hc)
    have hcb := ch_bit (P := bs (alm L q) C) (U := U) (c := c) (by omega)
    rw [bs_av hc] at hcb
    rw [F_X2_waysFrom_L33, hm.2.2.1, if_neg (nI_ge hc (by omega)), fb_sm_succ]
    simp only [nmE, jnE, nI_1, shl1 c (show c < 31 by omega), fa_or, nI_add]
    by_cases hv : av (alm L) U q c = true
    · rw [if_neg (fun z => hcb.mp z hv), if_pos hv, SZ_8, inb_nI (show (q + 1) * 128 + (U ||| 2 ^ c) < 1024 by omega) (by decide), grdT, nI_clamp (show (q + 1) * 128 + (U ||| 2 ^ c) < 2 ^ 31 by omega), ho _ (or_lt hU hc) (Or.inl (Aq_on2 hU hc hv hA)), nI_add, Nat.add_assoc]
    · rw [if_pos (hcb.mpr hv), if_neg hv]
      rfl
theorem X2_L60_eq (n : Nat) (hn : 200 < n) (H : TB S0 S C Q L Q) {V : Nat → Nat → Nat} (hV : ∀ q U, q < Q → V q U = V (q + 1) U + fb_sm (fun c => if av (alm L) U q c = true then V (q + 1) (U ||| 2 ^ c) else 0) C) {q : Nat} (hq : q < Q) (ho : TO S C Q L V (q + 1)) (K : aSt → Option aSt) : F_X2_countOn_L60 n 5 (nI q) K n 0 S = K (stRow S 8 (fb_put (S.1 8) (fun U => if 0 < Aq C (alm L) q U then nI (V q U) else 0) (q * 128) (2 ^ C))) := by
  have hm := H.2.1
  have hC := hm.2.2.2.2.1
  have hQ := hm.2.2.2.2.2
  have h2 : 2 ^ C ≤ 128 := Nat.pow_le_pow_right (n := 2) (by decide) hC
  have key := lp_eq (fun fu (s : aSt) i => F_X2_countOn_L60 n 5 (nI q) K fu i s) K (fun m => stRow S 8 (fb_put (S.1 8) (fun U => if 0 < Aq C (alm L) q U then nI (V q U) else 0) (q * 128) m)) (2 ^ C) (fun fu => ?_) (fun fu U hU => ?_) (2 ^ C) 0 n (by omega) (by omega)
  · rw [fb_put_0, stRow_id] at key
    exact key
  · show F_X2_countOn_L60 _ _ _ _ (fu + 1) _ _ = _
    rw [F_X2_countOn_L60, stRow_ne (by decide), hm.2.2.2.1, if_pos (Int32.le_refl _)]
  · show F_X2_countOn_L60 _ _ _ _ (fu + 1) _ _ = F_X2_countOn_L60 _ _ _ _ fu _ _
    have hA := Aq_le (al := alm L) hC (show q ≤ 7 by omega) U
    rw [← fb_put_succ]
    generalize hf : fb_put (S.1 8) (fun U => if 0 < Aq C (alm L) q U then nI (V q U) else 0) (q * 128) U = f
    have H' : TB S0 (stRow S 8 f) C Q L Q := H.congr ((Sm.refl S).row (by omega) f) ⟨by rw [stRow_ne (by decide)], by rw [stRow_ne (by decide)], by rw [stRow_ne (by decide)]⟩ (stRow_ne (by decide)) (stRow_ne (by decide))
    have ho' : TO (stRow S 8 f) C Q L V (q + 1) := fun W hW hz => by
      rw [stRow_self, ← hf, fb_put_out (by omega)]
      exact ho W hW hz
    have hm' := H'.2.1
    have h4 := H'.2.2.2.1 q (by omega) U hU
    rw [F_X2_countOn_L60, hm'.2.2.2.1, if_neg (nI_ge hU (by omega))]
    simp only [nmE, jnE, li_128, nI_mulN, nI_add, hm'.r1, hm'.r2, SZ_7, SZ_8, inb_nI (show q * 128 + U < 1024 by omega) (by decide), grdT, nI_clamp (show q * 128 + U < 2 ^ 31 by omega), h4, nI_1, stI_stRow]
    by_cases k : 0 < Aq C (alm L) q U
    · rw [if_neg (nI_nle k (by omega)), if_neg (by decide), X2_waysFrom_eq n (by omega) H' hq hU k ho', bndS, if_pos k, hV q U hq]
    · rw [show Aq C (alm L) q U = 0 by omega, if_pos (by decide), if_pos trivial, if_neg (by omega)]
theorem X2_L54_eq (n : Nat) (hn : 200 < n) {V : Nat → Nat → Nat} (hV : ∀ q U, q < Q → V q U = V (q + 1) U + fb_sm (fun c => if av (alm L) U q c = true then V (q + 1) (U ||| 2 ^ c) else 0) C) (K : aSt → Option aSt) : ∀ (q fu : Nat) (S : aSt), q ≤ Q → q < fu → TB S0 S C Q L Q → (∀ p, q ≤ p → p ≤ Q → TO S C Q L V p) → ∃ S', F_X2_countOn_L54 n 5 K fu (nI q - 1) S = K S' ∧ TB S0 S' C Q L Q ∧ (∀ p, p ≤ Q → TO S' C Q L V p) ∧ S'.1 5 = S.1 5 := by
  intro q
  induction q with
  | zero =>
    intro fu S hq hf H ho
    obtain ⟨fu', rfl⟩ : ∃ k, fu = k + 1 := ⟨fu - 1, by omega⟩
    refine ⟨S, ?_, H, fun p hp => ho p (by omega) hp, rfl⟩
    rw [F_X2_countOn_L54, if_pos (by decide)]
  | succ q ih =>
    intro fu S hq hf H ho
    obtain ⟨fu', rfl⟩ : ∃ k, fu = k + 1 := ⟨fu - 1, by omega⟩
    have hm := H.2.1
    have hC := hm.2.2.2.2.1
    have hQ := hm.2.2.2.2.2
    have h2 : 2 ^ C ≤ 128 := Nat.pow_le_pow_right (n := 2) (by decide) hC
    generalize hS1 : stRow S 8 (fb_put (S.1 8) (fun U => if 0 < Aq C (alm L) q U then nI (V q U) else 0) (q * 128) (2 ^ C)) = S1
    have H1 : TB S0 S1 C Q L Q := by
      rw [← hS1]
      exact H.congr ((Sm.refl S).row (by omega) _) ⟨by rw [stRow_ne (by decide)], by rw [stRow_ne (by decide)], by rw [stRow_ne (by decide)]⟩ (stRow_ne (by decide)) (stRow_ne (by decide))
    have ho1 : ∀ p, q ≤ p → p ≤ Q → TO S1 C Q L V p := by
      intro p hp1 hp2 U hU hz
      rw [← hS1, stRow_self]
      by_cases k : p = q
      · rw [k] at hz ⊢
        have k2 : 0 < Aq C (alm L) q U := by
          rcases hz with z | z
          · exact z
          · omega
        rw [fb_put_in (by omega) (by omega), show q * 128 + U - q * 128 = U by omega, if_pos k2]
      · rw [fb_put_out (by have := Nat.mul_le_mul_right 128 (show q + 1 ≤ p by omega); omega)]
        exact ho p (by omega) hp2 U hU hz
    obtain ⟨S', g1, g2, g3, g4⟩ := ih fu' S1 (by omega) (by omega) H1 ho1
    refine ⟨S', ?_, g2, g3, by rw [g4, ← hS1, stRow_ne (by decide)]⟩
    rw [nI_pred, F_X2_countOn_L54, if_neg (nI_pos (by omega))]
    simp only [jnE]
    rw [X2_L60_eq n hn H hV (by omega) (ho (q + 1) (Nat.le_refl _) hq), hS1, ← Int32.sub_eq_add_neg]
    exact g1
theorem X2_L2_eq (n : Nat) (hn : 200 < n) (H : TB S0 S C Q L Q) {M : Nat} (hM : S.1 5 6 = nI M) (hM7 : M ≤ 7) (K : aSt → Option aSt) : F_X2_countOn_L2 n 5 K n 0 S = K (stRow S 8 (fb_put (S.1 8) (fun U => nI (b2n (isM M) U)) (Q * 128) (2 ^ C))) := by
  have hm := H.2.1
  have hC := hm.2.2.2.2.1
  have hQ := hm.2.2.2.2.2
  have h2 : 2 ^ C ≤ 128 := Nat.pow_le_pow_right (n := 2) (by decide) hC
  have key := lp_eq (fun fu (s : aSt) i => F_X2_countOn_L2 n 5 K fu i s) K (fun m => stRow S 8 (fb_put (S.1 8) (fun U => nI (b2n (isM M) U)) (Q * 128) m)) (2 ^ C) (fun fu => ?_) (fun fu U hU => ?_) (2 ^ C) 0 n (by omega) (by omega)
  · rw [fb_put_0, stRow_id] at key
    exact key
  · show F_X2_countOn_L2 _ _ _ (fu + 1) _ _ = _
    rw [F_X2_countOn_L2, stRow_ne (by decide), hm.2.2.2.1, if_pos (Int32.le_refl _)]
  · show F_X2_countOn_L2 _ _ _ (fu + 1) _ _ = F_X2_countOn_L2 _ _ _ fu _ _
    have hp := pcn_7 U
    rw [← fb_put_succ]
    generalize fb_put (S.1 8) (fun U => nI (b2n (isM M) U)) (Q * 128) U = f
    have hm' : MX (stRow S 8 f) C Q := hm.row (by decide) f
    rw [F_X2_countOn_L2, hm'.2.2.2.1, if_neg (nI_ge hU (by omega))]
    simp only [nmE, jnE, hm'.2.1, li_128, nI_mulN, nI_add, hm'.r2, SZ_8, inb_nI (show Q * 128 + U < 1024 by omega) (by decide), grdT, nI_clamp (show Q * 128 + U < 2 ^ 31 by omega), J6_bitCount_eq n _ (show U < 128 by omega), bndS, nI_1, stI_stRow, stRow_ne (show (5 : Nat) ≠ 8 by decide), hM]
    unfold b2n isM
    by_cases k : pcn U = M
    · rw [if_pos (by rw [k]), if_pos (by simp [k])]
      rfl
    · rw [if_neg (by rw [nI_eq (by omega) (by omega)]; exact k), if_neg (by simp [k])]
      rfl
/-- all tables of the class for the fullest -/
def TF (S0 S : aSt) (C Q : Nat) (L : Nat → Nat → Nat) (M : Nat) : Prop := TB S0 S C Q L Q ∧ (∀ p, p ≤ Q → TO S C Q L (fun q U => ev C (alm L) (b2n (isM M)) (Q - q) q U) p) ∧ S.1 5 6 = nI M ∧ S.1 5 7 = nI (ev C (alm L) (b2n (isM M)) Q 0 0) ∧ M = mx C (alm L) (fun _ => 1) Q 0 0
theorem mx7 (hC : C ≤ 7) : mx C (alm L) (fun _ => 1) Q 0 0 ≤ 7 := by
  obtain ⟨U, -, -, h⟩ := most_at (al := alm L) hC Q
  rw [← h]
  exact pcn_7 U
theorem X2_countIn_eq (n : Nat) (hn : 2000 < n) {h T d : Nat} (hX : RfX S h d) (H : CX S h C Q T L) : ∃ S', F_X2_countIn n S 5 h = some S' ∧ TF S S' C Q L (mx C (alm L) (fun _ => 1) Q 0 0) := by
  obtain ⟨S2, f1, f2⟩ := X2_countAhead_eq n hn hX H
  have hm := f2.2.1
  have hC := hm.2.2.2.2.1
  have hQ := hm.2.2.2.2.2
  have h2 : 2 ^ C ≤ 128 := Nat.pow_le_pow_right (n := 2) (by decide) hC
  have hM7 : mx C (alm L) (fun _ => 1) Q 0 0 ≤ 7 := mx7 hC
  generalize hM : mx C (alm L) (fun _ => 1) Q 0 0 = M at hM7 ⊢
  generalize hS3 : stI S2 5 6 (nI M) = S3
  have b3 : TB S S3 C Q L Q := by
    rw [← hS3]
    refine f2.congr ((Sm.refl S2).stI (by omega) _ _) ⟨?_, ?_, ?_⟩ (stI_ne (by decide)) (stI_ne (by decide)) <;> simp [stI_at]
  have e36 : S3.1 5 6 = nI M := by rw [← hS3]; simp [stI_at]
  have e33 : S3.1 5 3 = nI Q := b3.2.1.2.1
  generalize hS4 : stRow S3 8 (fb_put (S3.1 8) (fun U => nI (b2n (isM M) U)) (Q * 128) (2 ^ C)) = S4
  have b4 : TB S S4 C Q L Q := by
    rw [← hS4]
    exact b3.congr ((Sm.refl S3).row (by omega) _) ⟨by rw [stRow_ne (by decide)], by rw [stRow_ne (by decide)], by rw [stRow_ne (by decide)]⟩ (stRow_ne (by decide)) (stRow_ne (by decide))
  have e45 : S4.1 5 = S3.1 5 := by rw [← hS4, stRow_ne (by decide)]
  have hV : ∀ q U, q < Q → (fun q U => ev C (alm L) (b2n (isM M)) (Q - q) q U) q U = (fun q U => ev C (alm L) (b2n (isM M)) (Q - q) q U) (q + 1) U + fb_sm (fun c => if av (alm L) U q c = true then (fun q U => ev C (alm L) (b2n (isM M)) (Q - q) q U) (q + 1) (U ||| 2 ^ c) else 0) C := by
    intro q U hq
    show ev C (alm L) (b2n (isM M)) (Q - q) q U = _
    rw [show Q - q = (Q - (q + 1)) + 1 by omega, ev]
  obtain ⟨S5, g1, g2, g3, g4⟩ := X2_L54_eq (S0 := S) n (by omega) hV (fun x => some x) Q n S4 (Nat.le_refl _) (by omega) b4 (fun p hp1 hp2 U hU _ => by
    have : p = Q := by omega
    rw [this, ← hS4, stRow_self, fb_put_in (by omega) (by omega), show Q * 128 + U - Q * 128 = U by omega, Nat.sub_self]
    rfl)
  have e0 : S5.1 8 0 = nI (ev C (alm L) (b2n (isM M)) Q 0 0) := by
    have := g3 0 (Nat.zero_le _) 0 (Nat.two_pow_pos C) (Or.inl Aq_0)
    exact this
  refine ⟨stI S5 5 7 (S5.1 8 0), ?_, ?_, ?_, ?_, ?_, hM.symm⟩
  · unfold F_X2_countIn
    rw [f1, bndS, X2_mostPairs_eq n (by omega) f2, hM, bndS, nmE, hS3]
    unfold F_X2_countOn
    simp only [nmE, jnE]
    rw [X2_L2_eq n (by omega) b3 e36 hM7, hS4, e45, e33, g1]
    simp only [nmE, bndS, g2.2.1.r2, SZ_8, show inb (0 : Int32) 1024 = true by decide, grdT]
    rfl
  · refine g2.congr ((Sm.refl S5).stI (by omega) _ _) ⟨?_, ?_, ?_⟩ (stI_ne (by decide)) (stI_ne (by decide)) <;> simp [stI_at]
  · intro p hp U hU hz
    rw [stI_ne (by decide)]
    exact g3 p hp U hU hz
  · rw [stI_at, if_pos rfl, if_neg (by decide), g4, e45, e36]
  · rw [stI_at, if_pos rfl, if_pos rfl, e0]
end On
