/-! matchings: the walk comes to each way once. -/
def Tw (C : Nat) : Nat → Nat
  | 0 => 1
  | r + 1 => 1 + (C + 1) * (Tw C r + 1)
theorem Tw_dec : ∀ C, C < 8 → ∀ r, r < 8 → Tw C r ≤ 4793489 := by decide +kernel
theorem nI_dec (q : Nat) : nI (q + 1) + (-1 : Int32) = nI q := by rw [← Int32.sub_eq_add_neg, nI_pred]
theorem inb_m1 (C : Nat) : inb (-1 : Int32) C = false := by
  unfold inb
  rw [show decide ((-1 : Int32) < 0) = true by decide]
  rfl
theorem inb_top {C : Nat} (h : C < 2 ^ 31) : inb (nI C) C = false := by
  rw [Bool.eq_false_iff]
  intro z
  have := inb_lt z
  rw [nI_clamp h] at this
  omega
section Walk3
variable {C Q T : Nat} {L : Nat → Nat → Nat}
theorem X7_walk (n : Nat) (hn : 60 < n) {a1 : Int32} {K : aSt → Option aSt} (hwt : ∀ q, wtf L Q a1 q ≤ 9) : ∀ (r q U w : Nat) (x : Nat → Nat) (l : List lf) (S : aSt), r + q = Q → U < 2 ^ C → CM S C Q T L → CS C Q l S → (∀ i, i < q → S.1 92 i = nI (x i) ∧ x i ≤ C) → (q < Q → S.1 92 q = -1) → w + 9 * r ≤ 63 → ∃ k S', k ≤ Tw C r ∧ (∀ fu, F_X7_layMatchings_L35 n 82 a1 (nI Q) (nI C) K (fu + k) (nI q) (nI U) (nI w) S = F_X7_layMatchings_L35 n 82 a1 (nI Q) (nI C) K fu (nI q + (-1 : Int32)) (nI U) (nI w) S') ∧ CS C Q (l ++ lvs C (alm L) (wtf L Q a1) r q U w x) S' ∧ Sm S S' ∧ ∀ i, i < q → S'.1 92 i = S.1 92 i := by
  intro r
  induction r with
  | zero =>
    intro q U w x l S hq hU H hl hx hm hw
    have e : q = Q := by omega
    subst e
    obtain ⟨S', f1, f2, f3, f4⟩ := X7_counts_eq n hn H hl hx (show w ≤ 63 by omega) U
    have hQ := H.2.2.2.1
    refine ⟨1, S', Nat.le_refl _, fun fu => ?_, f2, f3, fun i _ => by rw [f4]⟩
    rw [F_X7_layMatchings_L35, if_neg (nI_pos (by omega)), if_pos rfl, f1]
    rfl
  | succ r ih =>
    intro q U w x l S hq hU H hl hx hm hw
    have hq' : q < Q := by omega
    have hC := H.2.2.1
    have hQ := H.2.2.2.1
    have hwq := hwt q
    generalize hf : (fun c => if av (alm L) U q c = true then lvs C (alm L) (wtf L Q a1) r (q + 1) (U ||| 2 ^ c) (w + wtf L Q a1 q) (put1 x q c) else []) = f
    have inner : ∀ (m c : Nat) (S1 : aSt), c + m = C → CM S1 C Q T L → CS C Q (l ++ lct f c) S1 → (∀ i, i < q → S1.1 92 i = nI (x i)) → ∃ k S', k ≤ (m + 1) * (Tw C r + 1) ∧ (∀ fu, F_X7_layMatchings_L121 n 82 (nI C) (nI q) S1 (nI U) (L35_B n a1 (nI Q) (nI C) K (fu + k) (nI q) S1 (nI U) (nI w)) n (nI c) = F_X7_layMatchings_L35 n 82 a1 (nI Q) (nI C) K fu (nI q + (-1 : Int32)) (nI U) (nI w) S') ∧ CS C Q (l ++ (lct f C ++ lvs C (alm L) (wtf L Q a1) r (q + 1) U w (put1 x q C))) S' ∧ Sm S1 S' ∧ ∀ i, i < q → S'.1 92 i = S1.1 92 i := by
      intro m
      induction m using Nat.strongRecOn with
      | _ m ihm =>
        intro c S1 hc H1 hl1 hx1
        obtain ⟨c', d1, d2, d3, d4, d5⟩ := X7_L121_eq n (by omega) H1 hq' hU m c n hc (by omega)
        have hsk : lct f c' = lct f c := by
          have := lct_skip (f := f) (c := c) (m := c' - c) (fun i b1 b2 => by
            rw [← hf]
            (try dsimp only)
            rw [d3 i b1 (by omega), if_neg Bool.false_ne_true])
          rw [show c + (c' - c) = c' by omega] at this
          exact this
        have H2 := H1.sm (st2_sm S1 Q q c')
        have hl2 : CS C Q (l ++ lct f c') (st2 S1 Q q c') := by
          rw [hsk]
          exact hl1.congr (by rw [st2_ne (by decide)]) (by rw [st2_ne (by decide)]) (st2_ne (by decide)) (st2_ne (by decide))
        have hx2 : ∀ i, i < q + 1 → (st2 S1 Q q c').1 92 i = nI (put1 x q c' i) ∧ put1 x q c' i ≤ C := by
          intro i hi
          by_cases e : i = q
          · subst e
            rw [st2_at, put1_s]
            exact ⟨rfl, d2⟩
          · rw [st2_lo (by omega), put1_ne e]
            exact ⟨hx1 i (by omega), (hx i (by omega)).2⟩
        by_cases k : c' < C
        · have hv := d4 k
          obtain ⟨k1, S3, b1, b2, b3, b4, b5⟩ := ih (q + 1) (U ||| 2 ^ c') (w + wtf L Q a1 q) (put1 x q c') _ (st2 S1 Q q c') (by omega) (or_lt hU k) H2 hl2 hx2 (fun z => st2_hi z) (by omega)
          have hl3 : CS C Q (l ++ lct f (c' + 1)) S3 := by
            rw [lct, ← hf]
            (try dsimp only)
            rw [if_pos hv, hf, ← List.append_assoc]
            exact b3
          have e3 : S3.1 92 q = nI c' := by rw [b5 q (by omega), st2_at]
          obtain ⟨k2, S4, g1, g2, g3, g4, g5⟩ := ihm (C - (c' + 1)) (by omega) (c' + 1) S3 (by omega) (H2.sm b4) hl3 (fun i hi => by rw [b5 i (by omega), st2_lo hi]; exact hx1 i hi)
          have hb : k1 + 1 + k2 ≤ (m + 1) * (Tw C r + 1) := by
            have z1 : (C - (c' + 1) + 1) * (Tw C r + 1) ≤ m * (Tw C r + 1) := Nat.mul_le_mul_right _ (by omega)
            rw [Nat.succ_mul]
            omega
          refine ⟨k1 + 1 + k2, S4, hb, fun fu => ?_, g3, ((st2_sm S1 Q q c').trans b4).trans g4, fun i hi => ?_⟩
          · rw [d5, L35_B_eq n H1 hq' d2, if_pos k, if_pos k, show fu + (k1 + 1 + k2) = (fu + k2 + 1) + k1 by omega, b2, nI_dec, L35_st n (H2.sm b4) hq' hU (Or.inr ⟨c', k, (av_t hv).2, e3, rfl, rfl, rfl⟩), g2]
          · rw [g5 i hi, b5 i (by omega), st2_lo hi]
        · have e : c' = C := by omega
          subst e
          obtain ⟨k1, S3, b1, b2, b3, b4, b5⟩ := ih (q + 1) U w (put1 x q c') _ (st2 S1 Q q c') (by omega) hU H2 hl2 hx2 (fun z => st2_hi z) (by omega)
          have e3 : S3.1 92 q = nI c' := by rw [b5 q (by omega), st2_at]
          have H3 := H2.sm b4
          have hb : k1 + 1 ≤ (m + 1) * (Tw c' r + 1) := by
            rw [Nat.succ_mul]
            omega
          refine ⟨k1 + 1, stI S3 92 q (nI (c' + 1)), hb, fun fu => ?_, ?_, ((st2_sm S1 Q q c').trans b4).stI (by omega) _ _, fun i hi => ?_⟩
          · obtain ⟨n', rfl⟩ : ∃ z, n = z + 1 := ⟨n - 1, by omega⟩
            rw [d5, L35_B_eq _ H1 hq' d2, if_neg k, if_neg k, show fu + (k1 + 1) = (fu + 1) + k1 by omega, b2, nI_dec, L35_st _ H3 hq' hU (c0 := c' + 1) (Or.inl ⟨by rw [e3]; exact inb_top (by omega), by rw [e3, nI_1], rfl, rfl⟩), F_X7_layMatchings_L121, if_pos (nI_le (by omega) (by omega)), L35_B_back _ H3 hq']
          · rw [← List.append_assoc]
            exact b3.congr (by rw [stI_ne (by decide)]) (by rw [stI_ne (by decide)]) (stI_ne (by decide)) (stI_ne (by decide))
          · rw [stI_at, if_pos rfl, if_neg (by omega), b5 i (by omega), st2_lo hi]
    have hl0 : CS C Q (l ++ lct f 0) S := by
      rw [lct, List.append_nil]
      exact hl
    obtain ⟨k, S', g1, g2, g3, g4, g5⟩ := inner C 0 S (by omega) H hl0 (fun i hi => (hx i hi).1)
    have e0 := hm hq'
    refine ⟨k + 1, S', ?_, fun fu => ?_, ?_, g4, g5⟩
    · rw [Tw]
      omega
    · rw [show fu + (k + 1) = (fu + k) + 1 by omega, L35_st n H hq' hU (c0 := 0) (Or.inl ⟨by rw [e0]; exact inb_m1 C, by rw [e0]; decide, rfl, rfl⟩), g2]
    · rw [lvs, hf]
      exact g3
theorem wtf_le {S : aSt} (H : CM S C Q T L) (a1 : Int32) (q : Nat) : wtf L Q a1 q ≤ 9 := by
  unfold wtf
  split
  · decide
  · split
    · rename_i h
      exact (H.2.2.2.2.2.2.2.1 q h).2.2.2.2.1
    · omega
theorem X7_layMatchings_eq (n : Nat) (hn : 5000000 < n) {S : aSt} (H : CM S C Q T L) (a1 : Int32) : ∃ S', F_X7_layMatchings n S 82 a1 = some S' ∧ Sm S S' ∧ CS C Q (lvs C (alm L) (wtf L Q a1) Q 0 0 0 (fun _ => 0)) S' := by
  have hC := H.2.2.1
  have hQ := H.2.2.2.1
  generalize hS1 : stI (stI S 82 18 (-1)) 92 0 (-1) = S1
  have m0 : Sm S (stI S 82 18 (-1)) := by
    refine ⟨fun k q => ?_, ?_, ?_, rfl⟩
    · rw [stI_ne (by omega)]
    · simp [stI_at]
    · simp [stI_at]
  have m1 : Sm S S1 := by
    rw [← hS1]
    exact m0.stI (k := 92) (by omega) _ _
  have H1 := H.sm m1
  have e92 : S1.1 92 0 = -1 := by rw [← hS1]; simp [stI_at]
  have e82 : S1.1 82 18 = -1 := by rw [← hS1]; simp [stI_at]
  obtain ⟨k, S', g1, g2, g3, g4, g5⟩ := X7_walk n (by omega) (a1 := a1) (K := fun x => some x) (wtf_le H a1) Q 0 0 0 (fun _ => 0) [] S1 (by omega) (Nat.two_pow_pos C) H1 (Or.inl ⟨rfl, e82⟩) (fun i hi => by omega) (fun _ => e92) (by omega)
  have hk := Tw_dec C (by omega) Q (by omega)
  refine ⟨S', ?_, m1.trans g4, g3⟩
  unfold F_X7_layMatchings
  simp only [nmE, jnE, bn2S, bndS, grdT, stI_22, stL_22, stRow_22, HRm, rfdS T_83, rfdS T_84, rfdS T_85, rfdS T_86, rfdS T_87, rfdS T_88, rfdS T_89, rfdS T_90, rfdS T_91, rfdS T_92, rfdS T_93, rfdS T_94, rfdS T_95, rfdS T_96, SZ_83, SZ_84, SZ_85, SZ_86, SZ_87, SZ_88, SZ_89, SZ_90, SZ_91, SZ_92, SZ_93, SZ_94, SZ_95, SZ_96, H.1, in0, in1, H.v0, H.v1, show inb (0 : Int32) 7 = true by decide]
  have g := g2 (n - k)
  rw [show n - k + k = n by omega] at g
  obtain ⟨z, hz⟩ : ∃ z, n - k = z + 1 := ⟨n - k - 1, by omega⟩
  rw [hz] at g
  rw [show (0 : Int32).toNatClampNeg = 0 from rfl, hS1]
  refine Eq.trans g ?_
  rw [F_X7_layMatchings_L35, if_pos (by decide)]
/-- what stands in the reference's cells behind the walk -/
theorem CS.full {al : Nat → Nat → Bool} {wt : Nat → Nat} {S : aSt} {x : Nat → Nat} (H : CS C Q (lvs C al wt Q 0 0 0 x) S) : S.1 82 18 = nI (mx C al wt Q 0 0) ∧ S.1 82 17 = nI ((lvs C al wt Q 0 0 0 x).countP (fun y => decide (y.2.1 = mx C al wt Q 0 0))) ∧ (∀ i, i < 49 → S.1 94 i = nI ((lvs C al wt Q 0 0 0 x).countP (fun y => decide (y.2.1 = mx C al wt Q 0 0) && hit C Q y.2.2 i))) ∧ ∀ q, q < Q → S.1 93 q = bst C (gp C al wt (mx C al wt Q 0 0) Q 0 0 0 x) q := by
  rcases H with ⟨h1, -⟩ | ⟨mo, be, V, h1, h2, h3, h4, h5, h6, h7⟩
  · exact absurd h1 (lvs_ne _ _ _ _ _)
  · obtain ⟨V', hV⟩ := gp_find (C := C) (al := al) (wt := wt) Q 0 0 0 x (Nat.zero_add _)
    have m1 := mx_lvs _ _ _ _ _ _ (List.mem_of_find?_eq_some h4)
    have m2 := h3 _ (List.mem_of_find?_eq_some hV)
    (try dsimp only at m1 m2)
    have e : mo = mx C al wt Q 0 0 := by omega
    subst e
    rw [h4] at hV
    have hb : be = gp C al wt (mx C al wt Q 0 0) Q 0 0 0 x := by
      have := Option.some.inj hV
      exact congrArg (fun z => z.2.2) this
    refine ⟨h2, h5, h6, fun q hq => ?_⟩
    rw [h7 q hq, hb]
    rfl
end Walk3
