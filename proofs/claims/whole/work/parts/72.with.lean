/-! matchings: how many of the fullest have a pair. -/
def tot (L : Nat → Nat → Nat) (C Q : Nat) : Nat := (lvs C (alm L) (fun _ => 1) Q 0 0 0 (fun _ => 0)).countP (fun y => decide (y.2.1 = mx C (alm L) (fun _ => 1) Q 0 0))
def wi (L : Nat → Nat → Nat) (C Q i : Nat) : Nat := (lvs C (alm L) (fun _ => 1) Q 0 0 0 (fun _ => 0)).countP (fun y => decide (y.2.1 = mx C (alm L) (fun _ => 1) Q 0 0) && hit C Q y.2.2 i)
section With
variable {S0 S : aSt} {C Q : Nat} {L : Nat → Nat → Nat}
theorem p00 : pcn 0 = 0 := by decide
theorem tot_ev (hC : C ≤ 7) : tot L C Q = ev C (alm L) (b2n (isM (mx C (alm L) (fun _ => 1) Q 0 0))) Q 0 0 := by
  have h := lv_isM (al := alm L) hC (r := Q) (q := 0) (U := 0) (M := mx C (alm L) (fun _ => 1) Q 0 0) (x := fun _ => 0) (Nat.two_pow_pos C) (fun _ => true)
  simp only [Bool.and_true, p00] at h
  unfold tot
  rw [h, ev_lvs]
theorem tot_le (hC : C ≤ 7) (hQ : Q ≤ 7) : tot L C Q ≤ 2097152 := Nat.le_trans List.countP_le_length (Nat.le_trans (len_lvs ..) (p7 hC hQ))
theorem tot_pos (L : Nat → Nat → Nat) (C Q : Nat) : 0 < tot L C Q := by
  obtain ⟨V, hV⟩ := gp_find (C := C) (al := alm L) (wt := fun _ => 1) Q 0 0 0 (fun _ => 0) (Nat.zero_add _)
  unfold tot
  rw [List.countP_pos_iff]
  exact ⟨_, List.mem_of_find?_eq_some hV, by simp⟩
theorem wi_le (L : Nat → Nat → Nat) (C Q i : Nat) : wi L C Q i ≤ tot L C Q := by
  unfold wi tot
  refine List.countP_mono_left fun y _ h => ?_
  rw [Bool.and_eq_true] at h
  exact h.1
theorem wi_out {i : Nat} (h : Q ≤ i / 7 ∨ C ≤ i % 7) : wi L C Q i = 0 := by
  unfold wi
  refine List.countP_eq_zero.mpr fun y _ => ?_
  unfold hit
  simp only [Bool.and_eq_true, decide_eq_true_eq]
  omega
theorem wi_in (hC : C ≤ 7) {q c : Nat} (hq : q < Q) (hc : c < C) : wi L C Q (7 * q + c) = ev C (alm L) (gw C (alm L) (isM (mx C (alm L) (fun _ => 1) Q 0 0)) q c (Q - (q + 1))) q 0 0 := by
  have h := lv_isM (al := alm L) hC (r := Q) (q := 0) (U := 0) (M := mx C (alm L) (fun _ => 1) Q 0 0) (x := fun _ => 0) (Nat.two_pow_pos C) (fun y => hit C Q y.2.2 (7 * q + c))
  simp only [p00] at h
  unfold wi
  rw [h]
  have h2 := lv_with (al := alm L) (wt := fun _ => 1) (isM (mx C (alm L) (fun _ => 1) Q 0 0)) hc (Q - (q + 1)) q 0 0 0 (fun _ => 0)
  rw [show q + 1 + (Q - (q + 1)) = Q by omega, Nat.zero_add] at h2
  rw [← h2]
  refine List.countP_congr fun y _ => ?_
  unfold hit
  rw [show (7 * q + c) / 7 = q by omega, show (7 * q + c) % 7 = c by omega]
  simp only [Bool.and_eq_true, decide_eq_true_eq]
  constructor
  · rintro ⟨a, -, -, b⟩
    exact ⟨a, b⟩
  · rintro ⟨a, b⟩
    exact ⟨a, hq, by omega, b⟩
theorem ev_z {g : Nat → Nat} {al : Nat → Nat → Bool} (hg : ∀ V, g V = 0) (r q : Nat) : ev C al g r q 0 = 0 := by
  rw [ev_pair _ _ _ _ (Nat.two_pow_pos C)]
  exact sm_z (fun V _ => by rw [hg, Nat.mul_zero])
/-- two pairs of one question can't both be sure -/
theorem wi_one (hC : C ≤ 7) {q c c' : Nat} (hq : q < Q) (hc : c < 7) (hc' : c' < 7) (h : wi L C Q (7 * q + c) = tot L C Q) (h' : wi L C Q (7 * q + c') = tot L C Q) : c = c' := by
  have hp := tot_pos L C Q
  obtain ⟨V, hV⟩ := gp_find (C := C) (al := alm L) (wt := fun _ => 1) Q 0 0 0 (fun _ => 0) (Nat.zero_add _)
  have hm := List.mem_of_find?_eq_some hV
  have all : ∀ c, c < 7 → wi L C Q (7 * q + c) = tot L C Q → gp C (alm L) (fun _ => 1) (mx C (alm L) (fun _ => 1) Q 0 0) Q 0 0 0 (fun _ => 0) q = c := by
    intro c hc h
    unfold wi tot at h
    have h2 : ((lvs C (alm L) (fun _ => 1) Q 0 0 0 (fun _ => 0)).filter (fun y => decide (y.2.1 = mx C (alm L) (fun _ => 1) Q 0 0))).countP (fun y => hit C Q y.2.2 (7 * q + c)) = ((lvs C (alm L) (fun _ => 1) Q 0 0 0 (fun _ => 0)).filter (fun y => decide (y.2.1 = mx C (alm L) (fun _ => 1) Q 0 0))).length := by
      rw [List.countP_filter, ← List.countP_eq_length_filter]
      exact (List.countP_congr (fun y _ => by rw [Bool.and_comm])).trans h
    have h3 := List.countP_eq_length.mp h2 _ (List.mem_filter.mpr ⟨hm, by simp⟩)
    unfold hit at h3
    rw [show (7 * q + c) / 7 = q by omega, show (7 * q + c) % 7 = c by omega] at h3
    simp only [Bool.and_eq_true, decide_eq_true_eq] at h3
    exact h3.2.2
  rw [← all c hc h, ← all c' hc' h']
theorem X2_countWith_eq (n : Nat) (hn : 200 < n) (H : TF S0 S C Q L (mx C (alm L) (fun _ => 1) Q 0 0)) {q c : Nat} (hq : q < Q) (hc : c < C) : F_X2_countWith n S 5 (nI q) (nI c) = some (nI (wi L C Q (7 * q + c))) := by
  obtain ⟨⟨h1, hm, h3, h4, h5⟩, ho, -, -, -⟩ := H
  have hC := hm.2.2.2.2.1
  have hQ := hm.2.2.2.2.2
  have h2 : 2 ^ C ≤ 128 := Nat.pow_le_pow_right (n := 2) (by decide) hC
  rw [wi_in hC hq hc]
  generalize mx C (alm L) (fun _ => 1) Q 0 0 = M at ho ⊢
  unfold F_X2_countWith
  simp only [jnE, hm.r0, SZ_6, inb_nI (show q < 7 by omega) (by decide), grdT, nI_clamp (show q < 2 ^ 31 by omega), h3 q hq, shl1 c (show c < 31 by omega)]
  have hb : nI (bs (alm L q) C) &&& nI (2 ^ c) = 0 ↔ alm L q c = false := by
    rw [fa_bit (by omega), bs_test]
    simp [hc]
  by_cases k : alm L q c = true
  · rw [if_neg (fun z => by rw [hb.mp z] at k; cases k), ev_pair _ _ _ _ (Nat.two_pow_pos C)]
    refine lp_eq (fun fu a i => F_X2_countWith_L20 S 5 (nI q) (nI c) (fun x => some x) fu a i) (fun x => some x) (fun m => nI (fb_sm (fun V => ev C (alm L) (dl V) q 0 0 * gw C (alm L) (isM M) q c (Q - (q + 1)) V) m)) (2 ^ C) (fun fu => ?_) (fun fu U hU => ?_) (2 ^ C) 0 n (by omega) (by omega)
    · show F_X2_countWith_L20 _ _ _ _ _ (fu + 1) _ _ = _
      rw [F_X2_countWith_L20, hm.2.2.2.1, if_pos (Int32.le_refl _)]
    · show F_X2_countWith_L20 _ _ _ _ _ (fu + 1) _ _ = F_X2_countWith_L20 _ _ _ _ _ fu _ _
      have hA := Aq_le (al := alm L) hC (show q ≤ 7 by omega) U
      have hbb := p128 hC (or_lt hU hc)
      have hub : nI U &&& nI (2 ^ c) = 0 ↔ U.testBit c = false := fa_bit (by omega)
      rw [F_X2_countWith_L20, hm.2.2.2.1, if_neg (nI_ge hU (by omega)), fb_sm_succ]
      rw [show ev C (alm L) (dl U) q 0 0 = Aq C (alm L) q U from rfl]
      simp only [nmE, jnE, li_128, nI_1, nI_mulN, shl1 c (show c < 31 by omega), fa_or, nI_add, hm.r1, hm.r2, SZ_7, SZ_8, inb_nI (show q * 128 + U < 1024 by omega) (by decide), inb_nI (show (q + 1) * 128 + (U ||| 2 ^ c) < 1024 by omega) (by decide), grdT, nI_clamp (show q * 128 + U < 2 ^ 31 by omega), nI_clamp (show (q + 1) * 128 + (U ||| 2 ^ c) < 2 ^ 31 by omega), h4 q (by omega) U hU]
      by_cases k1 : 0 < Aq C (alm L) q U
      · rw [if_neg (nI_nle k1 (by omega))]
        by_cases k2 : U.testBit c = false
        · have hv : av (alm L) U q c = true := by unfold av; simp [k, k2]
          have e8 : S.1 8 ((q + 1) * 128 + (U ||| 2 ^ c)) = nI (ev C (alm L) (b2n (isM M)) (Q - (q + 1)) (q + 1) (U ||| 2 ^ c)) := ho (q + 1) (by omega) _ (or_lt hU hc) (Or.inl (Aq_on2 hU hc hv k1))
          rw [if_pos (hub.mpr k2), e8, nI_mulN, nI_add]
          unfold gw
          rw [if_pos hv]
        · rw [if_neg (fun z => k2 (hub.mp z))]
          unfold gw
          rw [if_neg (show ¬ av (alm L) U q c = true by unfold av; simp [k2]), Nat.mul_zero]
          rfl
      · rw [show Aq C (alm L) q U = 0 by omega, if_pos (by decide), Nat.zero_mul]
        rfl
  · have k' : alm L q c = false := by simpa using k
    rw [if_pos (hb.mpr k'), ev_z (fun V => by unfold gw; rw [if_neg (by unfold av; simp [k'])])]
    rfl
def sC (L : Nat → Nat → Nat) (C Q q : Nat) : Nat := fa_first (fun c => decide (wi L C Q (7 * q + c) = tot L C Q)) C
theorem lp_first {β : Type} (L : Nat → Int32 → Option β) (K : Option β) (F : Nat → Option β) (p : Nat → Bool) (C n : Nat) (hn : C < n) (hx : ∀ fu, L (fu + 1) (nI C) = K) (hs : ∀ fu c, c < C → L (fu + 1) (nI c) = if p c = true then F c else L fu (nI (c + 1))) : L n 0 = if fa_first p C < C then F (fa_first p C) else K := by
  have f1 := fa_first_le p C
  have f2 := fa_first_no p C
  have f3 := fa_first_yes p C
  generalize fa_first p C = k at f1 f2 f3 ⊢
  have key : ∀ (m c fu : Nat), c + m = k → m + (C - k) < fu → L fu (nI c) = if k < C then F k else K := by
    intro m
    induction m with
    | zero =>
      intro c fu hc hf
      obtain ⟨fu', rfl⟩ : ∃ z, fu = z + 1 := ⟨fu - 1, by omega⟩
      have e : c = k := by omega
      rw [e]
      by_cases h : k < C
      · rw [hs fu' k h, if_pos (f3 h), if_pos h]
      · rw [show k = C by omega, hx, if_neg (by omega)]
    | succ m ih =>
      intro c fu hc hf
      obtain ⟨fu', rfl⟩ : ∃ z, fu = z + 1 := ⟨fu - 1, by omega⟩
      rw [hs fu' c (by omega), f2 c (by omega), if_neg Bool.false_ne_true]
      exact ih (c + 1) fu' (by omega) (by omega)
  exact key k 0 n (by omega) (by omega)
theorem X2_sureCard_eq (n : Nat) (hn : 200 < n) (H : TF S0 S C Q L (mx C (alm L) (fun _ => 1) Q 0 0)) {q : Nat} (hq : q < Q) : F_X2_sureCard n S 5 (nI q) = some (if sC L C Q q < C then nI (sC L C Q q) else -9) := by
  have hm := H.1.2.1
  have hC := hm.2.2.2.2.1
  have hQ := hm.2.2.2.2.2
  have ht := tot_le (L := L) hC hQ
  unfold F_X2_sureCard
  simp only [jnE]
  have key := lp_first (fun fu i => F_X2_sureCard_L2 n S 5 (nI q) (some (-9)) fu i) (some (-9)) (fun c => some (nI c)) (fun c => decide (wi L C Q (7 * q + c) = tot L C Q)) C n (by omega) (fun fu => ?_) (fun fu c hc => ?_)
  · refine key.trans ?_
    unfold sC
    split <;> rfl
  · show F_X2_sureCard_L2 _ _ _ _ _ (fu + 1) _ = _
    rw [F_X2_sureCard_L2, hm.2.2.1, if_pos (Int32.le_refl _)]
  · show F_X2_sureCard_L2 _ _ _ _ _ (fu + 1) _ = if _ then _ else F_X2_sureCard_L2 _ _ _ _ _ fu _
    have hw := wi_le L C Q (7 * q + c)
    rw [F_X2_sureCard_L2, hm.2.2.1, if_neg (nI_ge hc (by omega)), X2_countWith_eq n hn H hq hc, bndS, H.2.2.2.1, ← tot_ev hC, nI_1]
    by_cases k : wi L C Q (7 * q + c) = tot L C Q
    · rw [if_pos (by rw [k]), if_pos (by simp [k])]
    · rw [if_neg (by rw [nI_eq (by omega) (by omega)]; exact k), if_neg (by simp [k])]
/-- the reference's cells behind its walk over the fullest -/
def CF (S : aSt) (C Q : Nat) (L : Nat → Nat → Nat) : Prop := S.1 82 18 = nI (mx C (alm L) (fun _ => 1) Q 0 0) ∧ S.1 82 17 = nI (tot L C Q) ∧ (∀ i, i < 49 → S.1 94 i = nI (wi L C Q i)) ∧ ∀ q, q < Q → S.1 93 q = bst C (gp C (alm L) (fun _ => 1) (mx C (alm L) (fun _ => 1) Q 0 0) Q 0 0 0 (fun _ => 0)) q
theorem X7_fullest_walk (n : Nat) (hn : 5000000 < n) {T : Nat} (H : CM S C Q T L) : ∃ S', F_X7_layMatchings n S 82 0 = some S' ∧ Sm S S' ∧ CF S' C Q L := by
  obtain ⟨S', f1, f2, f3⟩ := X7_layMatchings_eq n hn H 0
  have e : wtf L Q 0 = fun _ => 1 := by
    funext q
    unfold wtf
    rw [if_pos rfl]
  rw [e] at f3
  exact ⟨S', f1, f2, f3.full⟩
end With
