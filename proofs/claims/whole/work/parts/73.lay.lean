/-! matchings: the first of the fullest, laid into a row. -/
theorem X4_layAt_eq (n : Nat) {S : aSt} {k m i : Nat} (hr : S.2.2 k 0 = some (k + 1)) (hT : isT (k + 1) 7 = true) (hN : (SH (k + 1)).2 = 40) (e : S.1 k 1 = nI m) (hm : m ≤ 40) (hi : i < m) (v : Int32) : F_X4_layAt n S k (nI i) v = some (stI S (k + 1) i v) := by
  unfold F_X4_layAt
  rw [X4_reaches_eq n (show m < 2 ^ 31 by omega) e, if_pos (inb_nI hi (by omega))]
  simp only [nmE, jnE, bn2S, bndS, grdT, stI_22, stL_22, stRow_22, reduceIte, Bool.false_eq_true, one_ne0, hr, rfdS hT, hN, inb_nI (show i < 40 by omega) (by decide), nI_clamp (show i < 2 ^ 31 by omega)]
theorem gp_lo {C : Nat} {al : Nat → Nat → Bool} {wt : Nat → Nat} {M : Nat} : ∀ (r q U w : Nat) (x : Nat → Nat) (i : Nat), i < q → gp C al wt M r q U w x i = x i
  | 0, q, U, w, x, i, h => rfl
  | r + 1, q, U, w, x, i, h => by
    rw [gp]
    split
    · rw [gp_lo r _ _ _ _ i (by omega), put1_ne (by omega)]
    · rw [gp_lo r _ _ _ _ i (by omega), put1_ne (by omega)]
theorem ch_le (C : Nat) (al : Nat → Nat → Bool) (wt : Nat → Nat) (M r q U w : Nat) : ch C al wt M r q U w ≤ C := fa_first_le _ _
theorem ch_yes {C : Nat} {al : Nat → Nat → Bool} {wt : Nat → Nat} {M r q U w : Nat} (h : ch C al wt M r q U w < C) : av al U q (ch C al wt M r q U w) = true ∧ w + wt q + mx C al wt r (q + 1) (U ||| 2 ^ ch C al wt M r q U w) = M := by
  have := fa_first_yes (fun c => av al U q c && decide (w + wt q + mx C al wt r (q + 1) (U ||| 2 ^ c) = M)) C h
  rw [Bool.and_eq_true, decide_eq_true_eq] at this
  exact this
theorem ch_none {C : Nat} {al : Nat → Nat → Bool} {wt : Nat → Nat} {M r q U w : Nat} (h : ¬ ch C al wt M r q U w < C) (hm : w + mx C al wt (r + 1) q U = M) : w + mx C al wt r (q + 1) U = M := by
  have f2 := fa_first_no (fun c => av al U q c && decide (w + wt q + mx C al wt r (q + 1) (U ||| 2 ^ c) = M)) C
  have h0 := mx_none (C := C) (al := al) (wt := wt) r q U
  have hc := ch_le C al wt M r q U w
  unfold ch at h hc
  generalize fa_first (fun c => av al U q c && decide (w + wt q + mx C al wt r (q + 1) (U ||| 2 ^ c) = M)) C = k at h hc f2
  rcases fmx_att (fun c => if av al U q c = true then wt q + mx C al wt r (q + 1) (U ||| 2 ^ c) else 0) (mx C al wt r (q + 1) U) C with z | ⟨c, hcc, z⟩
  · rw [mx_s, z] at hm; exact hm
  · have hc2 := f2 c (by omega)
    rw [mx_s, z] at hm h0
    by_cases hv : av al U q c = true
    · rw [if_pos hv] at hm
      rw [hv, Bool.true_and, decide_eq_false_iff_not] at hc2
      omega
    · rw [if_neg hv] at hm h0
      omega
theorem lay_st {S : aSt} {k q Q : Nat} {f : Nat → Int32} {v : Int32} (hv : f q = v) (hq : q < Q) : stRow (stI S k q v) k (fun i => if q + 1 ≤ i ∧ i < Q then f i else (stI S k q v).1 k i) = stRow S k (fun i => if q ≤ i ∧ i < Q then f i else S.1 k i) := by
  rw [stI_row, stRow2]
  refine congrArg (stRow S k) ?_
  funext i
  rw [stRow_self]
  unfold upd
  by_cases e : i = q
  · rw [if_neg (by omega), if_pos e, if_pos (by omega), e, hv]
  · by_cases h1 : q + 1 ≤ i ∧ i < Q
    · rw [if_pos h1, if_pos (by omega)]
    · rw [if_neg h1, if_neg e, if_neg (by omega)]
theorem TF.mv {S0 S S' : aSt} {C Q : Nat} {L : Nat → Nat → Nat} {M : Nat} (H : TF S0 S C Q L M) (er : S'.2.2 = S.2.2) (e : ∀ k, 5 ≤ k → k ≤ 8 → S'.1 k = S.1 k) : TF S' S' C Q L M := by
  obtain ⟨⟨h1, h2, h3, h4, h5⟩, h6, h7, h8, h9⟩ := H
  have e5 := e 5 (by omega) (by omega)
  have e6 := e 6 (by omega) (by omega)
  have e7 := e 7 (by omega) (by omega)
  have e8 := e 8 (by omega) (by omega)
  refine ⟨⟨Sm.refl _, h2.congr er ⟨by rw [e5], by rw [e5], by rw [e5]⟩, ?_, ?_, ?_⟩, ?_, ?_, ?_, h9⟩
  · rw [e6]; exact h3
  · rw [e7]; exact h4
  · rw [e7]; exact h5
  · intro p hp U hU hz
    rw [e8]; exact h6 p hp U hU hz
  · rw [e5]; exact h7
  · rw [e5]; exact h8
section Lay
variable {C Q : Nat} {L : Nat → Nat → Nat}
theorem X2_firstFullest_eq (n : Nat) (hn : 10 < n) {S0 S : aSt} {M : Nat} (H : TF S0 S C Q L M) {r q U : Nat} (hq : r + 1 + q = Q) (hU : U < 2 ^ C) (hA : 0 < Aq C (alm L) q U) (hm : pcn U + mx C (alm L) (fun _ => 1) (r + 1) q U = M) : F_X2_firstFullest n S 5 (nI q) (nI U) = some (if ch C (alm L) (fun _ => 1) M r q U (pcn U) < C then nI (ch C (alm L) (fun _ => 1) M r q U (pcn U)) else -9) := by
  obtain ⟨⟨h1, hmx, h3, h4, h5⟩, ho, -, -, -⟩ := H
  have hC := hmx.2.2.2.2.1
  have hQ := hmx.2.2.2.2.2
  unfold F_X2_firstFullest
  simp only [nmE, jnE, hmx.r0, SZ_6, inb_nI (show q < 7 by omega) (by decide), grdT, nI_clamp (show q < 2 ^ 31 by omega), h3 q (by omega)]
  have key := lp_first (fun fu i => F_X2_firstFullest_L14 S 5 (nI q) (nI U) (nI (bs (alm L q) C) &&& (nI U ^^^ -1)) (some (-9)) fu i) (some (-9)) (fun c => some (nI c)) (fun c => av (alm L) U q c && decide (pcn U + (fun _ => 1) q + mx C (alm L) (fun _ => 1) r (q + 1) (U ||| 2 ^ c) = M)) C n (by omega) (fun fu => ?_) (fun fu c hc => ?_)
  · refine key.trans ?_
    unfold ch
    split <;> rfl
  · show F_X2_firstFullest_L14 _ _ _ _ _ _ (fu + 1) _ = _
    rw [F_X2_firstFullest_L14, hmx.2.2.1, if_pos (Int32.le_refl _)]
  · show F_X2_firstFullest_L14 _ _ _ _ _ _ (fu + 1) _ = if _ then _ else F_X2_firstFullest_L14 _ _ _ _ _ _ fu _
    have hU1 := p128 hC hU
    have hb := p128 hC (or_lt hU hc)
    have hcb := ch_bit (P := bs (alm L q) C) (U := U) (c := c) (by omega)
    rw [bs_av hc] at hcb
    rw [F_X2_firstFullest_L14, hmx.2.2.1, if_neg (nI_ge hc (by omega))]
    simp only [jnE, nI_1, li_128, nI_mulN, shl1 c (show c < 31 by omega), fa_or, nI_add, hmx.r2, SZ_8, inb_nI (show (q + 1) * 128 + (U ||| 2 ^ c) < 1024 by omega) (by decide), grdT, nI_clamp (show (q + 1) * 128 + (U ||| 2 ^ c) < 2 ^ 31 by omega)]
    by_cases hv : av (alm L) U q c = true
    · have e8 : S.1 8 ((q + 1) * 128 + (U ||| 2 ^ c)) = nI (ev C (alm L) (b2n (isM M)) (Q - (q + 1)) (q + 1) (U ||| 2 ^ c)) := ho (q + 1) (by omega) _ (or_lt hU hc) (Or.inl (Aq_on2 hU hc hv hA))
      rw [show Q - (q + 1) = r by omega] at e8
      have hp := pcn_or (show c < 7 by omega) (av_t hv).2
      have hcd := mx_card (C := C) (al := alm L) (wt := fun _ => 1) (r := r) hc hv
      have hle : pcn (U ||| 2 ^ c) + mx C (alm L) (fun _ => 1) r (q + 1) (U ||| 2 ^ c) ≤ M := by
        (try dsimp only at hcd)
        omega
      have hon := on_pos hC (or_lt hU hc) hle
      have hel := ev_le (al := alm L) hC (isM M) (show r ≤ 7 by omega) (q + 1) (U ||| 2 ^ c)
      rw [if_neg (fun z => hcb.mp z hv), e8, hv, Bool.true_and]
      by_cases k : 0 < ev C (alm L) (b2n (isM M)) r (q + 1) (U ||| 2 ^ c)
      · have := hon.mp k
        rw [if_neg (nI_nle k (by omega)), if_pos (by rw [decide_eq_true_eq]; show pcn U + 1 + _ = M; omega)]
      · have : ¬ (pcn (U ||| 2 ^ c) + mx C (alm L) (fun _ => 1) r (q + 1) (U ||| 2 ^ c) = M) := fun z => k (hon.mpr z)
        rw [show ev C (alm L) (b2n (isM M)) r (q + 1) (U ||| 2 ^ c) = 0 by omega, if_pos (by decide), if_neg (by rw [decide_eq_true_eq]; show ¬ pcn U + 1 + _ = M; omega)]
    · rw [if_pos (hcb.mpr hv), if_neg (by rw [Bool.and_eq_true]; exact fun z => hv z.1)]
theorem X2_layF_loop (n : Nat) (hn : 10 < n) {M k : Nat} (hk : 9 ≤ k) (hT : isT (k + 1) 7 = true) (hN : (SH (k + 1)).2 = 40) (K : aSt → Option aSt) : ∀ (r q U fu : Nat) (x : Nat → Nat) (S : aSt), r + q = Q → r < fu → U < 2 ^ C → 0 < Aq C (alm L) q U → pcn U + mx C (alm L) (fun _ => 1) r q U = M → TF S S C Q L M → S.2.2 k 0 = some (k + 1) → S.1 k 1 = nI Q → F_X2_layFullest_L14 n 5 k K fu (nI U) (nI q) S = K (stRow S (k + 1) (fun i => if q ≤ i ∧ i < Q then bst C (gp C (alm L) (fun _ => 1) M r q U (pcn U) x) i else S.1 (k + 1) i)) := by
  intro r
  induction r with
  | zero =>
    intro q U fu x S hq hf hU hA hm H hr h1
    obtain ⟨fu', rfl⟩ : ∃ z, fu = z + 1 := ⟨fu - 1, by omega⟩
    have e : (fun i => if q ≤ i ∧ i < Q then bst C (gp C (alm L) (fun _ => 1) M 0 q U (pcn U) x) i else S.1 (k + 1) i) = S.1 (k + 1) := by
      funext i
      rw [if_neg (by omega)]
    rw [e, stRow_id, F_X2_layFullest_L14, H.1.2.1.2.1, if_pos (nI_le (by omega) (by have := H.1.2.1.2.2.2.2.2; omega))]
  | succ r ih =>
    intro q U fu x S hq hf hU hA hm H hr h1
    obtain ⟨fu', rfl⟩ : ∃ z, fu = z + 1 := ⟨fu - 1, by omega⟩
    have hmx := H.1.2.1
    have hC := hmx.2.2.2.2.1
    have hQ := hmx.2.2.2.2.2
    have hcl := ch_le C (alm L) (fun _ => 1) M r q U (pcn U)
    have hcy := ch_yes (C := C) (al := alm L) (wt := fun _ => 1) (M := M) (r := r) (q := q) (U := U) (w := pcn U)
    have hcn := ch_none (C := C) (al := alm L) (wt := fun _ => 1) (M := M) (r := r) (q := q) (U := U) (w := pcn U)
    rw [F_X2_layFullest_L14, hmx.2.1, if_neg (nI_ge (by omega) (by omega)), X2_firstFullest_eq n hn H (by omega) hU hA hm, bndS, X4_layAt_eq n hr hT hN h1 (by omega) (by omega), bndS, gp]
    generalize ch C (alm L) (fun _ => 1) M r q U (pcn U) = c at hcl hcy hcn ⊢
    simp only [jnE, nmE, nI_1]
    by_cases k1 : c < C
    · obtain ⟨y1, y2⟩ := hcy k1
      have hp := pcn_or (show c < 7 by omega) (av_t y1).2
      rw [if_pos k1, if_pos k1, if_neg (nI_m9 (by omega)), shl1 c (by omega), fa_or]
      have H' : TF (stI S (k + 1) q (nI c)) (stI S (k + 1) q (nI c)) C Q L M := H.mv rfl (fun j a b => stI_ne (by omega))
      rw [ih (q + 1) (U ||| 2 ^ c) fu' (put1 x q c) _ (by omega) (by omega) (or_lt hU k1) (Aq_on2 hU k1 y1 hA) (by rw [hp]; exact y2) H' hr (by rw [stI_ne (by omega)]; exact h1), hp]
      refine congrArg K (lay_st ?_ (by omega))
      unfold bst
      rw [gp_lo _ _ _ _ _ _ (by omega), put1_s, if_pos k1]
    · have y := hcn k1 hm
      rw [if_neg k1, if_neg k1, if_pos rfl, or_0]
      have H' : TF (stI S (k + 1) q (-9)) (stI S (k + 1) q (-9)) C Q L M := H.mv rfl (fun j a b => stI_ne (by omega))
      rw [ih (q + 1) U fu' (put1 x q C) _ (by omega) (by omega) hU (Aq_on hU hA) y H' hr (by rw [stI_ne (by omega)]; exact h1)]
      refine congrArg K (lay_st ?_ (by omega))
      unfold bst
      rw [gp_lo _ _ _ _ _ _ (by omega), put1_s, if_neg (by omega)]
theorem X2_layFullest_eq (n : Nat) (hn : 100 < n) {S0 S : aSt} {M k : Nat} (H : TF S0 S C Q L M) (hk : 9 ≤ k) (hr : S.2.2 k 0 = some (k + 1)) (hT : isT (k + 1) 7 = true) (hN : (SH (k + 1)).2 = 40) : F_X2_layFullest n S 5 k = some (stRow (stI (stRow S (k + 1) (fil (S.1 (k + 1)) 0 40 (-9))) k 1 (nI Q)) (k + 1) (fun i => if 0 ≤ i ∧ i < Q then bst C (gp C (alm L) (fun _ => 1) M Q 0 0 0 (fun _ => 0)) i else (stI (stRow S (k + 1) (fil (S.1 (k + 1)) 0 40 (-9))) k 1 (nI Q)).1 (k + 1) i)) := by
  have hmx := H.1.2.1
  have hC := hmx.2.2.2.2.1
  have hQ := hmx.2.2.2.2.2
  have hM := H.2.2.2.2
  unfold F_X2_layFullest
  rw [hmx.2.1, X4_begin_eq n hr hT hN (by decide) (by omega) (show Q ≤ 40 by omega), bndS, jnE]
  have H' : TF (stI (stRow S (k + 1) (fil (S.1 (k + 1)) 0 40 (-9))) k 1 (nI Q)) (stI (stRow S (k + 1) (fil (S.1 (k + 1)) 0 40 (-9))) k 1 (nI Q)) C Q L M := H.mv rfl (fun j a b => by rw [stI_ne (by omega), stRow_ne (by omega)])
  have key := X2_layF_loop n (by omega) hk hT hN (fun x => some x) Q 0 0 n (fun _ => 0) _ (by omega) (by omega) (Nat.two_pow_pos C) Aq_0 (by rw [p00, Nat.zero_add]; exact hM.symm) H' hr (by simp [stI_at])
  rw [p00] at key
  exact key
end Lay
