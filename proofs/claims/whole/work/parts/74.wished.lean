/-! matchings: the most wished. -/
def TW (S0 S : aSt) (C Q : Nat) (L : Nat → Nat → Nat) (wt : Nat → Nat) : Prop := TB S0 S C Q L Q ∧ ∀ p, p ≤ Q → TO S C Q L (fun q U => mx C (alm L) wt (Q - q) q U) p
theorem TW.mv {S0 S S' : aSt} {C Q : Nat} {L : Nat → Nat → Nat} {wt : Nat → Nat} (H : TW S0 S C Q L wt) (er : S'.2.2 = S.2.2) (e : ∀ k, 5 ≤ k → k ≤ 8 → S'.1 k = S.1 k) : TW S' S' C Q L wt := by
  obtain ⟨⟨h1, h2, h3, h4, h5⟩, h6⟩ := H
  have e5 := e 5 (by omega) (by omega)
  have e6 := e 6 (by omega) (by omega)
  have e7 := e 7 (by omega) (by omega)
  have e8 := e 8 (by omega) (by omega)
  refine ⟨⟨Sm.refl _, h2.congr er ⟨by rw [e5], by rw [e5], by rw [e5]⟩, ?_, ?_, ?_⟩, ?_⟩
  · rw [e6]; exact h3
  · rw [e7]; exact h4
  · rw [e7]; exact h5
  · intro p hp U hU hz
    rw [e8]; exact h6 p hp U hU hz
section Wished
variable {C Q T h : Nat} {L : Nat → Nat → Nat} {wt : Nat → Nat}
theorem X2_mostFrom_eq (n : Nat) (hn : 10 < n) {S0 S : aSt} (H : TB S0 S C Q L Q) (hwt : ∀ q, wt q ≤ 9) {q U : Nat} (hq : q < Q) (hU : U < 2 ^ C) (hA : 0 < Aq C (alm L) q U) (ho : TO S C Q L (fun q U => mx C (alm L) wt (Q - q) q U) (q + 1)) : F_X2_mostFrom n S 5 (nI q) (nI U) (nI (wt q)) = some (nI (mx C (alm L) wt (Q - q) q U)) := by
  obtain ⟨h1, hm, h3, h4, h5⟩ := H
  have hC := hm.2.2.2.2.1
  have hQ := hm.2.2.2.2.2
  have hU1 := p128 hC hU
  have eU : S.1 8 ((q + 1) * 128 + U) = nI (mx C (alm L) wt (Q - (q + 1)) (q + 1) U) := ho U hU (Or.inl (Aq_on hU hA))
  rw [show Q - q = (Q - (q + 1)) + 1 by omega, mx_s]
  unfold F_X2_mostFrom
  simp only [nmE, jnE, grdT, nI_1, li_128, nI_mulN, nI_add, hm.r2, hm.r0, SZ_8, SZ_6, inb_nI (show (q + 1) * 128 + U < 1024 by omega) (by decide), nI_clamp (show (q + 1) * 128 + U < 2 ^ 31 by omega), inb_nI (show q < 7 by omega) (by decide), nI_clamp (show q < 2 ^ 31 by omega), h3 q hq, eU]
  refine lp_eq (fun fu a i => F_X2_mostFrom_L35 S 5 (nI U) (nI (wt q)) (nI ((q + 1) * 128)) 8 (nI (bs (alm L q) C) &&& (nI U ^^^ -1)) (fun x => some x) fu a i) (fun x => some x) (fun m => nI (fmx (fun c => if av (alm L) U q c = true then wt q + mx C (alm L) wt (Q - (q + 1)) (q + 1) (U ||| 2 ^ c) else 0) (mx C (alm L) wt (Q - (q + 1)) (q + 1) U) m)) C (fun fu => ?_) (fun fu c hc => ?_) C 0 n (by omega) (by omega)
  · show F_X2_mostFrom_L35 _ _ _ _ _ _ _ _ (fu + 1) _ _ = _
    rw [F_X2_mostFrom_L35, hm.2.2.1, if_pos (Int32.le_refl _)]
  · show F_X2_mostFrom_L35 _ _ _ _ _ _ _ _ (fu + 1) _ _ = F_X2_mostFrom_L35 _ _ _ _ _ _ _ _ fu _ _
    have hb := p128 hC (or_lt hU hc)
    have hcb := ch_bit (P := bs (alm L q) C) (U := U) (c := c) (by omega)
    rw [bs_av hc] at hcb
    have hwq := hwt q
    have hb1 := mx_le (C := C) (al := alm L) hwt (Q - (q + 1)) (q + 1) U
    have hb2 := mx_le (C := C) (al := alm L) hwt (Q - (q + 1)) (q + 1) (U ||| 2 ^ c)
    have hb3 := fmx_le (f := fun c => if av (alm L) U q c = true then wt q + mx C (alm L) wt (Q - (q + 1)) (q + 1) (U ||| 2 ^ c) else 0) (b := mx C (alm L) wt (Q - (q + 1)) (q + 1) U) (k := 100) (by omega) (n := c) (fun i _ => by
      have := mx_le (C := C) (al := alm L) hwt (Q - (q + 1)) (q + 1) (U ||| 2 ^ i)
      split <;> omega)
    rw [F_X2_mostFrom_L35, hm.2.2.1, if_neg (nI_ge hc (by omega)), fmx]
    generalize fmx (fun c => if av (alm L) U q c = true then wt q + mx C (alm L) wt (Q - (q + 1)) (q + 1) (U ||| 2 ^ c) else 0) (mx C (alm L) wt (Q - (q + 1)) (q + 1) U) c = a at hb3 ⊢
    simp only [nmE, jnE, nI_1, shl1 c (show c < 31 by omega), fa_or, nI_add]
    by_cases hv : av (alm L) U q c = true
    · have e8 : S.1 8 ((q + 1) * 128 + (U ||| 2 ^ c)) = nI (mx C (alm L) wt (Q - (q + 1)) (q + 1) (U ||| 2 ^ c)) := ho _ (or_lt hU hc) (Or.inl (Aq_on2 hU hc hv hA))
      rw [if_neg (fun z => hcb.mp z hv), if_pos hv, SZ_8, inb_nI (show (q + 1) * 128 + (U ||| 2 ^ c) < 1024 by omega) (by decide), grdT, nI_clamp (show (q + 1) * 128 + (U ||| 2 ^ c) < 2 ^ 31 by omega), e8, nI_add]
      by_cases k : a < wt q + mx C (alm L) wt (Q - (q + 1)) (q + 1) (U ||| 2 ^ c)
      · rw [if_pos (nI_lt k (by omega)), Nat.max_eq_right (by omega)]
      · rw [if_neg (nI_nlt (by omega) (by omega)), Nat.max_eq_left (by omega)]
    · rw [if_pos (hcb.mpr hv), if_neg hv, Nat.max_eq_left (Nat.zero_le _)]
theorem X2_L51_eq (n : Nat) (hn : 200 < n) {S0 S : aSt} (H : TB S0 S C Q L Q) (hX : CX S h C Q T L) (hwt : ∀ q, wt q ≤ 9) (hL : ∀ q, q < Q → wt q = L 7 q) {q : Nat} (hq : q < Q) (ho : TO S C Q L (fun q U => mx C (alm L) wt (Q - q) q U) (q + 1)) (K : aSt → Option (Int32 × aSt)) : F_X2_layMostWished_L51 n 5 h (nI q) K n 0 S = K (stRow S 8 (fb_put (S.1 8) (fun U => if 0 < Aq C (alm L) q U then nI (mx C (alm L) wt (Q - q) q U) else 0) (q * 128) (2 ^ C))) := by
  have hm := H.2.1
  have hC := hm.2.2.2.2.1
  have hQ := hm.2.2.2.2.2
  have hh := hX.1
  have h2 : 2 ^ C ≤ 128 := Nat.pow_le_pow_right (n := 2) (by decide) hC
  have key := lp_eq (fun fu (s : aSt) i => F_X2_layMostWished_L51 n 5 h (nI q) K fu i s) K (fun m => stRow S 8 (fb_put (S.1 8) (fun U => if 0 < Aq C (alm L) q U then nI (mx C (alm L) wt (Q - q) q U) else 0) (q * 128) m)) (2 ^ C) (fun fu => ?_) (fun fu U hU => ?_) (2 ^ C) 0 n (by omega) (by omega)
  · rw [fb_put_0, stRow_id] at key
    exact key
  · show F_X2_layMostWished_L51 _ _ _ _ _ (fu + 1) _ _ = _
    rw [F_X2_layMostWished_L51, stRow_ne (by decide), hm.2.2.2.1, if_pos (Int32.le_refl _)]
  · show F_X2_layMostWished_L51 _ _ _ _ _ (fu + 1) _ _ = F_X2_layMostWished_L51 _ _ _ _ _ fu _ _
    have hA := Aq_le (al := alm L) hC (show q ≤ 7 by omega) U
    rw [← fb_put_succ]
    generalize hf : fb_put (S.1 8) (fun U => if 0 < Aq C (alm L) q U then nI (mx C (alm L) wt (Q - q) q U) else 0) (q * 128) U = f
    have m1 : Sm S (stRow S 8 f) := (Sm.refl S).row (by omega) f
    have H' : TB S0 (stRow S 8 f) C Q L Q := H.congr m1 ⟨by rw [stRow_ne (by decide)], by rw [stRow_ne (by decide)], by rw [stRow_ne (by decide)]⟩ (stRow_ne (by decide)) (stRow_ne (by decide))
    have hX' := hX.sm m1
    have ho' : TO (stRow S 8 f) C Q L (fun q U => mx C (alm L) wt (Q - q) q U) (q + 1) := fun W hW hz => by
      rw [stRow_self, ← hf, fb_put_out (by omega)]
      exact ho W hW hz
    have hm' := H'.2.1
    have h4 := H'.2.2.2.1 q (by omega) U hU
    have e7 := (hX'.2.2.2.1.2.2.2.1 q hq).2.2.2
    rw [F_X2_layMostWished_L51, hm'.2.2.2.1, if_neg (nI_ge hU (by omega))]
    simp only [nmE, jnE, li_128, nI_mulN, nI_add, hm'.r1, hm'.r2, SZ_7, SZ_8, inb_nI (show q * 128 + U < 1024 by omega) (by decide), grdT, nI_clamp (show q * 128 + U < 2 ^ 31 by omega), h4, nI_1, stI_stRow, hX'.r5, rfdS (tg6 hh), sg6 hh, inb_nI (show q < 7 by omega) (by decide), nI_clamp (show q < 2 ^ 31 by omega), e7]
    by_cases k : 0 < Aq C (alm L) q U
    · rw [if_neg (nI_nle k (by omega)), if_neg (by decide), ← hL q hq, X2_mostFrom_eq n (by omega) H' hwt hq hU k ho', bndS, if_pos k]
    · rw [show Aq C (alm L) q U = 0 by omega, if_pos (by decide), if_pos trivial, if_neg (by omega)]
theorem X2_L44_eq (n : Nat) (hn : 200 < n) {S0 : aSt} (hwt : ∀ q, wt q ≤ 9) (hL : ∀ q, q < Q → wt q = L 7 q) (K : aSt → Option (Int32 × aSt)) : ∀ (q fu : Nat) (S : aSt), q ≤ Q → q < fu → TB S0 S C Q L Q → CX S h C Q T L → (∀ p, q ≤ p → p ≤ Q → TO S C Q L (fun q U => mx C (alm L) wt (Q - q) q U) p) → ∃ S', F_X2_layMostWished_L44 n 5 h K fu (nI q - 1) S = K S' ∧ TW S0 S' C Q L wt ∧ CX S' h C Q T L := by
  intro q
  induction q with
  | zero =>
    intro fu S hq hf H hX ho
    obtain ⟨fu', rfl⟩ : ∃ k, fu = k + 1 := ⟨fu - 1, by omega⟩
    refine ⟨S, ?_, ⟨H, fun p hp => ho p (by omega) hp⟩, hX⟩
    rw [F_X2_layMostWished_L44, if_pos (by decide)]
  | succ q ih =>
    intro fu S hq hf H hX ho
    obtain ⟨fu', rfl⟩ : ∃ k, fu = k + 1 := ⟨fu - 1, by omega⟩
    have hm := H.2.1
    have hC := hm.2.2.2.2.1
    have hQ := hm.2.2.2.2.2
    have h2 : 2 ^ C ≤ 128 := Nat.pow_le_pow_right (n := 2) (by decide) hC
    generalize hS1 : stRow S 8 (fb_put (S.1 8) (fun U => if 0 < Aq C (alm L) q U then nI (mx C (alm L) wt (Q - q) q U) else 0) (q * 128) (2 ^ C)) = S1
    have m1 : Sm S S1 := by rw [← hS1]; exact (Sm.refl S).row (by omega) _
    have H1 : TB S0 S1 C Q L Q := by
      refine H.congr m1 ⟨?_, ?_, ?_⟩ ?_ ?_ <;> rw [← hS1, stRow_ne (by decide)]
    have ho1 : ∀ p, q ≤ p → p ≤ Q → TO S1 C Q L (fun q U => mx C (alm L) wt (Q - q) q U) p := by
      intro p hp1 hp2 U hU hz
      rw [← hS1, stRow_self]
      by_cases k : p = q
      · rw [k] at hz ⊢
        have k2 : 0 < Aq C (alm L) q U := by
          rcases hz with z | z
          · exact z
          · omega
        rw [fb_put_in (by omega) (by omega), show q * 128 + U - q * 128 = U by omega, if_pos k2]
      · rw [fb_put_out (by have := Nat.mul_le_mul_right 128 (show q + 1 ≤ p by omega); omega)]
        exact ho p (by omega) hp2 U hU hz
    obtain ⟨S', g1, g2, g3⟩ := ih fu' S1 (by omega) (by omega) H1 (hX.sm m1) ho1
    refine ⟨S', ?_, g2, g3⟩
    rw [nI_pred, F_X2_layMostWished_L44, if_neg (nI_pos (by omega))]
    simp only [jnE]
    rw [X2_L51_eq n hn H hX hwt hL (by omega) (ho (q + 1) (Nat.le_refl _) hq), hS1, ← Int32.sub_eq_add_neg]
    exact g1
theorem X2_L7_eq (n : Nat) (hn : 200 < n) {S0 S : aSt} (H : TB S0 S C Q L Q) (K : aSt → Option (Int32 × aSt)) : F_X2_layMostWished_L7 5 K n 0 S = K (stRow S 8 (fb_put (S.1 8) (fun _ => 0) (Q * 128) (2 ^ C))) := by
  have hm := H.2.1
  have hC := hm.2.2.2.2.1
  have hQ := hm.2.2.2.2.2
  have h2 : 2 ^ C ≤ 128 := Nat.pow_le_pow_right (n := 2) (by decide) hC
  have key := lp_eq (fun fu (s : aSt) i => F_X2_layMostWished_L7 5 K fu i s) K (fun m => stRow S 8 (fb_put (S.1 8) (fun _ => 0) (Q * 128) m)) (2 ^ C) (fun fu => ?_) (fun fu U hU => ?_) (2 ^ C) 0 n (by omega) (by omega)
  · rw [fb_put_0, stRow_id] at key
    exact key
  · show F_X2_layMostWished_L7 _ _ (fu + 1) _ _ = _
    rw [F_X2_layMostWished_L7, stRow_ne (by decide), hm.2.2.2.1, if_pos (Int32.le_refl _)]
  · show F_X2_layMostWished_L7 _ _ (fu + 1) _ _ = F_X2_layMostWished_L7 _ _ fu _ _
    rw [← fb_put_succ]
    generalize fb_put (S.1 8) (fun _ => 0) (Q * 128) U = f
    have hm' : MX (stRow S 8 f) C Q := hm.row (by decide) f
    rw [F_X2_layMostWished_L7, hm'.2.2.2.1, if_neg (nI_ge hU (by omega))]
    simp only [nmE, hm'.2.1, li_128, nI_mulN, nI_add, hm'.r2, SZ_8, inb_nI (show Q * 128 + U < 1024 by omega) (by decide), grdT, nI_clamp (show Q * 128 + U < 2 ^ 31 by omega), nI_1, stI_stRow]
theorem X2_firstWished_eq (n : Nat) (hn : 10 < n) {S0 S : aSt} (H : TW S0 S C Q L wt) (hwt : ∀ q, wt q ≤ 9) {M r q U w : Nat} (hq : r + 1 + q = Q) (hU : U < 2 ^ C) (hA : 0 < Aq C (alm L) q U) (hm : w + mx C (alm L) wt (r + 1) q U = M) : F_X2_firstWished n S 5 (nI q) (nI U) (nI (wt q)) = some (if ch C (alm L) wt M r q U w < C then nI (ch C (alm L) wt M r q U w) else -9) := by
  obtain ⟨⟨h1, hmx, h3, h4, h5⟩, ho⟩ := H
  have hC := hmx.2.2.2.2.1
  have hQ := hmx.2.2.2.2.2
  have hU1 := p128 hC hU
  have e8 : S.1 8 (q * 128 + U) = nI (mx C (alm L) wt (Q - q) q U) := ho q (by omega) U hU (Or.inl hA)
  rw [show Q - q = r + 1 by omega] at e8
  unfold F_X2_firstWished
  simp only [nmE, jnE, hmx.r0, hmx.r2, SZ_6, SZ_8, li_128, nI_mulN, nI_add, inb_nI (show q < 7 by omega) (by decide), inb_nI (show q * 128 + U < 1024 by omega) (by decide), grdT, nI_clamp (show q < 2 ^ 31 by omega), nI_clamp (show q * 128 + U < 2 ^ 31 by omega), h3 q (by omega), e8]
  have key := lp_first (fun fu i => F_X2_firstWished_L29 S 5 (nI q) (nI U) (nI (wt q)) 8 (nI (mx C (alm L) wt (r + 1) q U)) (nI (bs (alm L q) C) &&& (nI U ^^^ -1)) (some (-9)) fu i) (some (-9)) (fun c => some (nI c)) (fun c => av (alm L) U q c && decide (w + wt q + mx C (alm L) wt r (q + 1) (U ||| 2 ^ c) = M)) C n (by omega) (fun fu => ?_) (fun fu c hc => ?_)
  · refine key.trans ?_
    unfold ch
    split <;> rfl
  · show F_X2_firstWished_L29 _ _ _ _ _ _ _ _ _ (fu + 1) _ = _
    rw [F_X2_firstWished_L29, hmx.2.2.1, if_pos (Int32.le_refl _)]
  · show F_X2_firstWished_L29 _ _ _ _ _ _ _ _ _ (fu + 1) _ = if _ then _ else F_X2_firstWished_L29 _ _ _ _ _ _ _ _ _ fu _
    have hb := p128 hC (or_lt hU hc)
    have hcb := ch_bit (P := bs (alm L q) C) (U := U) (c := c) (by omega)
    rw [bs_av hc] at hcb
    have hwq := hwt q
    have hb1 := mx_le (C := C) (al := alm L) hwt (r + 1) q U
    have hb2 := mx_le (C := C) (al := alm L) hwt r (q + 1) (U ||| 2 ^ c)
    rw [F_X2_firstWished_L29, hmx.2.2.1, if_neg (nI_ge hc (by omega))]
    simp only [jnE, nI_1, li_128, nI_mulN, shl1 c (show c < 31 by omega), fa_or, nI_add, SZ_8, inb_nI (show (q + 1) * 128 + (U ||| 2 ^ c) < 1024 by omega) (by decide), grdT, nI_clamp (show (q + 1) * 128 + (U ||| 2 ^ c) < 2 ^ 31 by omega)]
    by_cases hv : av (alm L) U q c = true
    · have e8 : S.1 8 ((q + 1) * 128 + (U ||| 2 ^ c)) = nI (mx C (alm L) wt (Q - (q + 1)) (q + 1) (U ||| 2 ^ c)) := ho (q + 1) (by omega) _ (or_lt hU hc) (Or.inl (Aq_on2 hU hc hv hA))
      rw [show Q - (q + 1) = r by omega] at e8
      rw [if_neg (fun z => hcb.mp z hv), if_neg (by decide), e8, nI_add, hv, Bool.true_and]
      by_cases k : wt q + mx C (alm L) wt r (q + 1) (U ||| 2 ^ c) = mx C (alm L) wt (r + 1) q U
      · rw [if_pos (by rw [k]), if_pos (by rw [decide_eq_true_eq]; omega)]
      · rw [if_neg (by rw [nI_eq (by omega) (by omega)]; exact k), if_neg (by rw [decide_eq_true_eq]; omega)]
    · rw [if_pos (hcb.mpr hv), if_pos trivial, if_neg (by rw [Bool.and_eq_true]; exact fun z => hv z.1)]
theorem X2_layW_loop (n : Nat) (hn : 10 < n) (hwt : ∀ q, wt q ≤ 9) (hL : ∀ q, q < Q → wt q = L 7 q) {M k : Nat} (hk : 41 ≤ k) (hT : isT (k + 1) 7 = true) (hN : (SH (k + 1)).2 = 40) (K : aSt → Option (Int32 × aSt)) : ∀ (r q U w fu : Nat) (x : Nat → Nat) (S : aSt), r + q = Q → r < fu → U < 2 ^ C → 0 < Aq C (alm L) q U → w + mx C (alm L) wt r q U = M → TW S S C Q L wt → CX S h C Q T L → S.2.2 k 0 = some (k + 1) → S.1 k 1 = nI Q → F_X2_layMostWished_L145 n 5 h k K fu (nI U) (nI q) S = K (stRow S (k + 1) (fun i => if q ≤ i ∧ i < Q then bst C (gp C (alm L) wt M r q U w x) i else S.1 (k + 1) i)) := by
  intro r
  induction r with
  | zero =>
    intro q U w fu x S hq hf hU hA hm H hX hr h1
    obtain ⟨fu', rfl⟩ : ∃ z, fu = z + 1 := ⟨fu - 1, by omega⟩
    have e : (fun i => if q ≤ i ∧ i < Q then bst C (gp C (alm L) wt M 0 q U w x) i else S.1 (k + 1) i) = S.1 (k + 1) := by
      funext i
      rw [if_neg (by omega)]
    rw [e, stRow_id, F_X2_layMostWished_L145, H.1.2.1.2.1, if_pos (nI_le (by omega) (by have := H.1.2.1.2.2.2.2.2; omega))]
  | succ r ih =>
    intro q U w fu x S hq hf hU hA hm H hX hr h1
    obtain ⟨fu', rfl⟩ : ∃ z, fu = z + 1 := ⟨fu - 1, by omega⟩
    have hmx := H.1.2.1
    have hC := hmx.2.2.2.2.1
    have hQ := hmx.2.2.2.2.2
    have hh := hX.1
    have e7 := (hX.2.2.2.1.2.2.2.1 q (by omega)).2.2.2
    have hcl := ch_le C (alm L) wt M r q U w
    have hcy := ch_yes (C := C) (al := alm L) (wt := wt) (M := M) (r := r) (q := q) (U := U) (w := w)
    have hcn := ch_none (C := C) (al := alm L) (wt := wt) (M := M) (r := r) (q := q) (U := U) (w := w)
    rw [F_X2_layMostWished_L145, hmx.2.1, if_neg (nI_ge (by omega) (by omega)), hX.r5, rfdS (tg6 hh), sg6 hh, inb_nI (show q < 7 by omega) (by decide), grdT, nI_clamp (show q < 2 ^ 31 by omega), e7, ← hL q (by omega), X2_firstWished_eq n hn H hwt (by omega) hU hA hm, bndS, X4_layAt_eq n hr hT hN h1 (by omega) (by omega), bndS, gp]
    generalize ch C (alm L) wt M r q U w = c at hcl hcy hcn ⊢
    simp only [jnE, nmE, nI_1]
    by_cases k1 : c < C
    · obtain ⟨y1, y2⟩ := hcy k1
      rw [if_pos k1, if_pos k1, if_neg (nI_m9 (by omega)), shl1 c (by omega), fa_or]
      have H' : TW (stI S (k + 1) q (nI c)) (stI S (k + 1) q (nI c)) C Q L wt := H.mv rfl (fun j a b => stI_ne (by omega))
      rw [ih (q + 1) (U ||| 2 ^ c) (w + wt q) fu' (put1 x q c) _ (by omega) (by omega) (or_lt hU k1) (Aq_on2 hU k1 y1 hA) y2 H' (hX.congr rfl (fun j a b => stI_ne (by rcases hh with rfl | rfl <;> omega))) hr (by rw [stI_ne (by omega)]; exact h1)]
      refine congrArg K (lay_st ?_ (by omega))
      unfold bst
      rw [gp_lo _ _ _ _ _ _ (by omega), put1_s, if_pos k1]
    · have y := hcn k1 hm
      rw [if_neg k1, if_neg k1, if_pos rfl, or_0]
      have H' : TW (stI S (k + 1) q (-9)) (stI S (k + 1) q (-9)) C Q L wt := H.mv rfl (fun j a b => stI_ne (by omega))
      rw [ih (q + 1) U w fu' (put1 x q C) _ (by omega) (by omega) hU (Aq_on hU hA) y H' (hX.congr rfl (fun j a b => stI_ne (by rcases hh with rfl | rfl <;> omega))) hr (by rw [stI_ne (by omega)]; exact h1)]
      refine congrArg K (lay_st ?_ (by omega))
      unfold bst
      rw [gp_lo _ _ _ _ _ _ (by omega), put1_s, if_neg (by omega)]
theorem X2_layMostWished_eq (n : Nat) (hn : 2000 < n) {S : aSt} {d k : Nat} (hR : RfX S h d) (hX : CX S h C Q T L) (hwt : ∀ q, wt q ≤ 9) (hL : ∀ q, q < Q → wt q = L 7 q) (hk : 41 ≤ k) (hr : S.2.2 k 0 = some (k + 1)) (hT : isT (k + 1) 7 = true) (hN : (SH (k + 1)).2 = 40) : ∃ S', Sm S S' ∧ F_X2_layMostWished n S 5 h k = some (nI (mx C (alm L) wt Q 0 0), stRow (stI (stRow S' (k + 1) (fil (S'.1 (k + 1)) 0 40 (-9))) k 1 (nI Q)) (k + 1) (fun i => if 0 ≤ i ∧ i < Q then bst C (gp C (alm L) wt (mx C (alm L) wt Q 0 0) Q 0 0 0 (fun _ => 0)) i else (stI (stRow S' (k + 1) (fil (S'.1 (k + 1)) 0 40 (-9))) k 1 (nI Q)).1 (k + 1) i)) := by
  obtain ⟨S2, f1, f2⟩ := X2_countAhead_eq n hn hR hX
  have hm := f2.2.1
  have hC := hm.2.2.2.2.1
  have hQ := hm.2.2.2.2.2
  have hh := hX.1
  have h2 : 2 ^ C ≤ 128 := Nat.pow_le_pow_right (n := 2) (by decide) hC
  generalize hS3 : stRow S2 8 (fb_put (S2.1 8) (fun _ => 0) (Q * 128) (2 ^ C)) = S3
  have m3 : Sm S2 S3 := by rw [← hS3]; exact (Sm.refl S2).row (by omega) _
  have b3 : TB S S3 C Q L Q := by
    refine f2.congr m3 ⟨?_, ?_, ?_⟩ ?_ ?_ <;> rw [← hS3, stRow_ne (by decide)]
  have e33 : S3.1 5 3 = nI Q := b3.2.1.2.1
  obtain ⟨S4, g1, g2, g3⟩ := X2_L44_eq (S0 := S) (h := h) (T := T) n (by omega) hwt hL (fun x130S => (F_X4_begin n x130S k (x130S.1 5 3) (-9 : Int32)).bind fun S137 => F_X2_layMostWished_L145 n 5 h k (fun x202S => rfd (x202S.2.2 5 2) 7 fun k203 => grd (inb (0 : Int32) (SH k203).2) <| some ((x202S.1 k203 (0 : Int32).toNatClampNeg), x202S)) n (0 : Int32) (0 : Int32) S137) Q n S3 (Nat.le_refl _) (by omega) b3 (hX.sm (f2.1.trans m3)) (fun p hp1 hp2 U hU _ => by
    have : p = Q := by omega
    rw [this, ← hS3, stRow_self, fb_put_in (by omega) (by omega)]
    show 0 = nI (mx C (alm L) wt (Q - Q) Q U)
    rw [Nat.sub_self]
    rfl)
  refine ⟨S4, g2.1.1, ?_⟩
  have e43 : S4.1 5 3 = nI Q := g2.1.2.1.2.1
  have er : S4.2.2 = S.2.2 := by rw [g2.1.1.2.2.2]
  have hr4 : S4.2.2 k 0 = some (k + 1) := by rw [er]; exact hr
  have e0 : S4.1 8 0 = nI (mx C (alm L) wt Q 0 0) := g2.2 0 (Nat.zero_le _) 0 (Nat.two_pow_pos C) (Or.inl Aq_0)
  generalize hS5 : stI (stRow S4 (k + 1) (fil (S4.1 (k + 1)) 0 40 (-9))) k 1 (nI Q) = S5
  have hs5 : ∀ j, 5 ≤ j → j ≤ 40 → S5.1 j = S4.1 j := fun j a b => by rw [← hS5, stI_ne (by omega), stRow_ne (by omega)]
  have e5r : S5.2.2 = S4.2.2 := by rw [← hS5]; rfl
  have H5 : TW S5 S5 C Q L wt := g2.mv e5r (fun j a b => hs5 j a (by omega))
  have key := X2_layW_loop (h := h) (T := T) n (by omega) hwt hL hk hT hN (fun x202S => rfd (x202S.2.2 5 2) 7 fun k203 => grd (inb (0 : Int32) (SH k203).2) <| some ((x202S.1 k203 (0 : Int32).toNatClampNeg), x202S)) Q 0 0 0 n (fun _ => 0) S5 (by omega) (by omega) (Nat.two_pow_pos C) Aq_0 (Nat.zero_add _) H5 (g3.congr (by rw [e5r]) (fun j a b => hs5 j (by rcases hh with rfl | rfl <;> omega) (by rcases hh with rfl | rfl <;> omega))) (by rw [e5r]; exact hr4) (by rw [← hS5]; simp [stI_at])
  unfold F_X2_layMostWished
  rw [f1, bndS]
  simp only [nmE, jnE]
  rw [X2_L7_eq n (by omega) f2, hS3, e33, g1, e43, X4_begin_eq n hr4 hT hN (by decide) (by omega) (show Q ≤ 40 by omega), bndS, hS5]
  refine Eq.trans key ?_
  (try dsimp only)
  rw [stRow_22, e5r, g2.1.2.1.r2, SZ_8, show inb (0 : Int32) 1024 = true by decide, grdT, stRow_ne (by omega), hs5 8 (by omega) (by omega)]
  rw [show (0 : Int32).toNatClampNeg = 0 from rfl, e0]
end Wished
