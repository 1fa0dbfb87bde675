/-! matchings: the class's tables, ahead. -/
theorem li_128 : (128 : Int32) = nI 128 := rfl
theorem tb32 : ∀ c, c < 31 → Nat.testBit 4294967295 c = true := by decide +kernel
theorem ch_bit {P U c : Nat} (hc : c < 31) : ((nI P &&& (nI U ^^^ (-1 : Int32))) &&& nI (2 ^ c) = 0) ↔ ¬ (P.testBit c && !U.testBit c) = true := by
  rw [show (-1 : Int32) = nI 4294967295 by decide +kernel, fb_xorI, fa_and, fa_bit hc, Nat.testBit_and, Nat.testBit_xor, tb32 c hc]
  cases U.testBit c <;> cases P.testBit c <;> simp
theorem stRow2 (S : aSt) (k : Nat) (f g : Nat → Int32) : stRow (stRow S k f) k g = stRow S k g := by
  refine Prod.ext ?_ rfl
  funext a b
  rw [stRow_at, stRow_at, stRow_at]
  by_cases q : a = k <;> simp [q]
def MX (S : aSt) (C Q : Nat) : Prop := S.2.2 5 = HRn 5 3 ∧ S.1 5 3 = nI Q ∧ S.1 5 4 = nI C ∧ S.1 5 5 = nI (2 ^ C) ∧ C ≤ 7 ∧ Q ≤ 7
theorem MX.r0 {S : aSt} {C Q : Nat} (H : MX S C Q) {β : Type} (f : Nat → Option β) : rfd (S.2.2 5 0) 7 f = f 6 := by rw [H.1]; exact rfdS T_6 f
theorem MX.r1 {S : aSt} {C Q : Nat} (H : MX S C Q) {β : Type} (f : Nat → Option β) : rfd (S.2.2 5 1) 7 f = f 7 := by rw [H.1]; exact rfdS T_7 f
theorem MX.r2 {S : aSt} {C Q : Nat} (H : MX S C Q) {β : Type} (f : Nat → Option β) : rfd (S.2.2 5 2) 7 f = f 8 := by rw [H.1]; exact rfdS T_8 f
theorem MX.congr {S S' : aSt} {C Q : Nat} (H : MX S C Q) (e1 : S'.2.2 = S.2.2) (e2 : S'.1 5 3 = S.1 5 3 ∧ S'.1 5 4 = S.1 5 4 ∧ S'.1 5 5 = S.1 5 5) : MX S' C Q := by
  unfold MX at *
  rw [e1, e2.1, e2.2.1, e2.2.2]
  exact H
theorem MX.row {S : aSt} {C Q : Nat} (H : MX S C Q) {k : Nat} (hk : 5 ≠ k) (f : Nat → Int32) : MX (stRow S k f) C Q := H.congr rfl ⟨by rw [stRow_ne hk], by rw [stRow_ne hk], by rw [stRow_ne hk]⟩
def sk (C : Nat) (al : Nat → Nat → Bool) (q U j : Nat) : Nat := (if j = (q + 1) * 128 + U then 1 else 0) + fb_sm (fun c => if av al U q c = true then (if j = (q + 1) * 128 + (U ||| 2 ^ c) then 1 else 0) else 0) C
theorem sk_lo {C : Nat} {al : Nat → Nat → Bool} {q U j : Nat} (h : j < (q + 1) * 128) : sk C al q U j = 0 := by
  unfold sk
  rw [if_neg (by omega), sm_z]
  intro c _
  rw [if_neg (show ¬ j = (q + 1) * 128 + (U ||| 2 ^ c) by omega)]
  split <;> rfl
theorem sk_hi {C : Nat} {al : Nat → Nat → Bool} {q U j : Nat} (hC : C ≤ 7) (hU : U < 2 ^ C) (h : (q + 2) * 128 ≤ j) : sk C al q U j = 0 := by
  have h1 := p128 hC hU
  unfold sk
  rw [if_neg (by omega), sm_z]
  intro c hc
  have h2 := p128 hC (or_lt hU hc)
  rw [if_neg (show ¬ j = (q + 1) * 128 + (U ||| 2 ^ c) by omega)]
  split <;> rfl
theorem sk_row (C : Nat) (al : Nat → Nat → Bool) (q U V : Nat) : sk C al q U ((q + 1) * 128 + V) = dl V U + fb_sm (fun c => if av al U q c = true then dl V (U ||| 2 ^ c) else 0) C := by
  have e : ∀ a, ((q + 1) * 128 + V = (q + 1) * 128 + a) = (a = V) := fun a => propext ⟨fun h => by omega, fun h => by omega⟩
  unfold sk dl
  simp only [e]
theorem bs_av {al : Nat → Nat → Bool} {C U q c : Nat} (hc : c < C) : ((bs (al q) C).testBit c && !U.testBit c) = av al U q c := by
  rw [bs_test]
  unfold av
  simp [hc]
theorem sp_add (A a s : Nat) (y : Int32) : y + nI (A * (a + s)) + nI A = y + nI (A * (a + (s + 1))) := by rw [Int32.add_assoc, nI_add, ← Nat.add_assoc, Nat.mul_succ]
section Ahead
variable {S : aSt} {C Q : Nat} {al : Nat → Nat → Bool}
theorem X2_spreadAhead_eq (n : Nat) (hn : 10 < n) (H : MX S C Q) {q U A : Nat} (hq : q + 1 ≤ 7) (hU : U < 2 ^ C) (hp : S.1 6 q = nI (bs (al q) C)) (hA : A < 2 ^ 31) : F_X2_spreadAhead n S 5 (nI q) (nI U) (nI A) = some (stRow S 7 (fun j => S.1 7 j + nI (A * sk C al q U j))) := by
  have hC := H.2.2.2.2.1
  have hU1 := p128 hC hU
  unfold F_X2_spreadAhead
  by_cases hA0 : A = 0
  · have e : (fun j => S.1 7 j + nI (A * sk C al q U j)) = S.1 7 := by
      funext j
      rw [hA0, Nat.zero_mul, nI_0]
      simp
    rw [e, stRow_id, hA0, if_pos nI_0]
  · rw [if_neg (nI_ne0 (by omega) hA)]
    simp only [nmE, jnE, grdT, nI_1, li_128, nI_mulN, nI_add, H.r1, SZ_7, inb_nI (show (q + 1) * 128 + U < 1024 by omega) (by decide), nI_clamp (show (q + 1) * 128 + U < 2 ^ 31 by omega), stI_row, stRow_22, H.r0, SZ_6, inb_nI (show q < 7 by omega) (by decide), nI_clamp (show q < 2 ^ 31 by omega), stRow_ne (show (6 : Nat) ≠ 7 by decide), hp]
    have key := lp_eq (fun fu (s : aSt) i => F_X2_spreadAhead_L42 5 (nI U) (nI A) (nI ((q + 1) * 128)) (nI (bs (al q) C) &&& (nI U ^^^ -1)) (fun x => some x) fu i s) (fun x => some x) (fun c => stRow S 7 (fun j => S.1 7 j + nI (A * ((if j = (q + 1) * 128 + U then 1 else 0) + fb_sm (fun c => if av al U q c = true then (if j = (q + 1) * 128 + (U ||| 2 ^ c) then 1 else 0) else 0) c)))) C (fun fu => ?_) (fun fu c hc => ?_) C 0 n (by omega) (by omega)
    · refine Eq.trans ?_ key
      have e : upd (S.1 7) ((q + 1) * 128 + U) (S.1 7 ((q + 1) * 128 + U) + nI A) = fun j => S.1 7 j + nI (A * ((if j = (q + 1) * 128 + U then 1 else 0) + fb_sm (fun c => if av al U q c = true then (if j = (q + 1) * 128 + (U ||| 2 ^ c) then 1 else 0) else 0) 0)) := by
        funext j
        unfold upd
        by_cases k : j = (q + 1) * 128 + U
        · rw [if_pos k, if_pos k, k]
          show _ = _ + nI (A * (1 + 0))
          rw [Nat.add_zero, Nat.mul_one]
        · rw [if_neg k, if_neg k]
          show _ = _ + nI (A * (0 + 0))
          rw [Nat.add_zero, Nat.mul_zero, nI_0]
          simp
      rw [e]
      rfl
    · show F_X2_spreadAhead_L42 _ _ _ _ _ _ (fu + 1) _ _ = _
      rw [F_X2_spreadAhead_L42, stRow_ne (by decide), H.2.2.1, if_pos (Int32.le_refl _)]
    · show F_X2_spreadAhead_L42 _ _ _ _ _ _ (fu + 1) _ _ = F_X2_spreadAhead_L42 _ _ _ _ _ _ fu _ _
      have hb := p128 hC (or_lt hU hc)
      have hcb := ch_bit (P := bs (al q) C) (U := U) (c := c) (by omega)
      rw [bs_av hc] at hcb
      rw [F_X2_spreadAhead_L42, stRow_ne (by decide), H.2.2.1, if_neg (nI_ge hc (by omega))]
      simp only [nmE, jnE, nI_1, shl1 c (show c < 31 by omega), fa_or, nI_add]
      by_cases hv : av al U q c = true
      · rw [if_neg (fun z => hcb.mp z hv)]
        simp only [stRow_22, H.r1, SZ_7, inb_nI (show (q + 1) * 128 + (U ||| 2 ^ c) < 1024 by omega) (by decide), grdT, nI_clamp (show (q + 1) * 128 + (U ||| 2 ^ c) < 2 ^ 31 by omega), stRow_self, stI_stRow]
        refine congrArg (fun z => F_X2_spreadAhead_L42 5 (nI U) (nI A) (nI ((q + 1) * 128)) (nI (bs (al q) C) &&& (nI U ^^^ -1)) (fun x => some x) fu (nI (c + 1)) (stRow S 7 z)) ?_
        funext j
        rw [fb_sm_succ, if_pos hv]
        unfold upd
        by_cases k : j = (q + 1) * 128 + (U ||| 2 ^ c)
        · rw [if_pos k, if_pos k, ← k]
          exact sp_add _ _ _ _
        · rw [if_neg k, if_neg k]
          rfl
      · rw [if_pos (hcb.mpr hv)]
        refine congrArg (fun z => F_X2_spreadAhead_L42 5 (nI U) (nI A) (nI ((q + 1) * 128)) (nI (bs (al q) C) &&& (nI U ^^^ -1)) (fun x => some x) fu (nI (c + 1)) (stRow S 7 z)) ?_
        funext j
        rw [fb_sm_succ, if_neg hv]
        rfl
theorem X2_L84_eq (n : Nat) (hn : 200 < n) (H : MX S C Q) {q : Nat} (hq : q + 1 ≤ 7) (hp : S.1 6 q = nI (bs (al q) C)) (ht : ∀ U, U < 2 ^ C → S.1 7 (q * 128 + U) = nI (Aq C al q U)) (K : aSt → Option aSt) : F_X2_countAhead_L84 n 5 (nI q) K n 0 S = K (stRow S 7 (fun j => S.1 7 j + nI (fb_sm (fun U => Aq C al q U * sk C al q U j) (2 ^ C)))) := by
  have hC := H.2.2.2.2.1
  have h2 : 2 ^ C ≤ 128 := Nat.pow_le_pow_right (n := 2) (by decide) hC
  have key := lp_eq (fun fu (s : aSt) i => F_X2_countAhead_L84 n 5 (nI q) K fu i s) K (fun m => stRow S 7 (fun j => S.1 7 j + nI (fb_sm (fun U => Aq C al q U * sk C al q U j) m))) (2 ^ C) (fun fu => ?_) (fun fu U hU => ?_) (2 ^ C) 0 n (by omega) (by omega)
  · have z : stRow S 7 (fun j => S.1 7 j + nI (fb_sm (fun U => Aq C al q U * sk C al q U j) 0)) = S := by
      have e : (fun j => S.1 7 j + nI (fb_sm (fun U => Aq C al q U * sk C al q U j) 0)) = S.1 7 := by
        funext j
        show _ + nI 0 = _
        rw [nI_0]
        simp
      rw [e]
      exact stRow_id S 7
    rw [z] at key
    exact key
  · show F_X2_countAhead_L84 _ _ _ _ (fu + 1) _ _ = _
    rw [F_X2_countAhead_L84, stRow_ne (by decide), H.2.2.2.1, if_pos (Int32.le_refl _)]
  · show F_X2_countAhead_L84 _ _ _ _ (fu + 1) _ _ = F_X2_countAhead_L84 _ _ _ _ fu _ _
    have hA := Aq_le (al := al) hC (show q ≤ 7 by omega) U
    generalize hg : (fun j => S.1 7 j + nI (fb_sm (fun U => Aq C al q U * sk C al q U j) U)) = g
    have er : g (q * 128 + U) = nI (Aq C al q U) := by
      rw [← hg]
      show S.1 7 (q * 128 + U) + nI (fb_sm (fun V => Aq C al q V * sk C al q V (q * 128 + U)) U) = _
      rw [sm_z (fun V _ => by rw [sk_lo (by omega), Nat.mul_zero]), nI_0, ht U hU]
      simp
    have H' : MX (stRow S 7 g) C Q := H.row (by decide) g
    rw [F_X2_countAhead_L84, H'.2.2.2.1, if_neg (nI_ge hU (by omega))]
    simp only [li_128, nI_mulN, nI_add, H'.r1, SZ_7, inb_nI (show q * 128 + U < 1024 by omega) (by decide), grdT, nI_clamp (show q * 128 + U < 2 ^ 31 by omega), stRow_self, er, nI_1]
    rw [X2_spreadAhead_eq n (by omega) H' hq hU (by rw [stRow_ne (by decide)]; exact hp) (by omega), bndS, stRow2, stRow_self]
    refine congrArg (fun z => F_X2_countAhead_L84 n 5 (nI q) K fu (nI (U + 1)) (stRow S 7 z)) ?_
    funext j
    rw [← hg, fb_sm_succ]
    show S.1 7 j + _ + _ = _
    rw [Int32.add_assoc, nI_add]
end Ahead
/-- the tables ahead, up to question q -/
def TB (S0 S : aSt) (C Q : Nat) (L : Nat → Nat → Nat) (q : Nat) : Prop := Sm S0 S ∧ MX S C Q ∧ (∀ p, p < q → S.1 6 p = nI (bs (alm L p) C)) ∧ (∀ p, p ≤ q → ∀ U, U < 2 ^ C → S.1 7 (p * 128 + U) = nI (Aq C (alm L) p U)) ∧ ∀ j, (q + 1) * 128 ≤ j → j < 1024 → S.1 7 j = 0
theorem TB.congr {S0 S S' : aSt} {C Q : Nat} {L : Nat → Nat → Nat} {q : Nat} (H : TB S0 S C Q L q) (h : Sm S S') (e5 : S'.1 5 3 = S.1 5 3 ∧ S'.1 5 4 = S.1 5 4 ∧ S'.1 5 5 = S.1 5 5) (e6 : S'.1 6 = S.1 6) (e7 : S'.1 7 = S.1 7) : TB S0 S' C Q L q := by
  obtain ⟨h1, h2, h3, h4, h5⟩ := H
  refine ⟨h1.trans h, h2.congr (by rw [h.2.2.2]) e5, ?_, ?_, ?_⟩
  · rw [e6]; exact h3
  · rw [e7]; exact h4
  · rw [e7]; exact h5
section Ahead2
variable {S : aSt} {h C Q T : Nat} {L : Nat → Nat → Nat}
theorem Aq_00 {al : Nat → Nat → Bool} {U : Nat} : Aq C al 0 U = if U = 0 then 1 else 0 := by
  unfold Aq ev dl
  by_cases k : U = 0
  · rw [if_pos k, if_pos k.symm]
  · rw [if_neg k, if_neg (fun z => k z.symm)]
theorem Sm.row {S S' : aSt} (H : Sm S S') {k : Nat} (hk : (5 ≤ k ∧ k ≤ 12) ∨ 91 ≤ k) (f : Nat → Int32) : Sm S (stRow S' k f) := by
  refine H.trans ⟨fun i q => ?_, ?_, ?_, rfl⟩
  · rw [stRow_ne (by omega)]
  · rw [stRow_ne (by omega)]
  · rw [stRow_ne (by omega)]
/-- one question more -/
theorem TB_step {s S3 : aSt} {q : Nat} (hC : C ≤ 7) (hq : q + 1 ≤ 7) (hs : TB S s C Q L q) (hS3 : stI s 6 q (nI (bs (alm L q) C)) = S3) : TB S (stRow S3 7 (fun j => S3.1 7 j + nI (fb_sm (fun U => Aq C (alm L) q U * sk C (alm L) q U j) (2 ^ C)))) C Q L (q + 1) := by
  obtain ⟨s1, s2, s3, s4, s5⟩ := hs
  have h2 : 2 ^ C ≤ 128 := Nat.pow_le_pow_right (n := 2) (by decide) hC
  have m3 : Sm S S3 := by rw [← hS3]; exact s1.stI (by omega) _ _
  have x3 : MX S3 C Q := by
    rw [← hS3]
    refine s2.congr rfl ⟨?_, ?_, ?_⟩ <;> rw [stI_ne (by decide)]
  have e37 : S3.1 7 = s.1 7 := by rw [← hS3, stI_ne (by decide)]
  have e36 : ∀ p, p < q + 1 → S3.1 6 p = nI (bs (alm L p) C) := by
    intro p hp
    rw [← hS3, stI_at, if_pos rfl]
    by_cases k : p = q
    · rw [if_pos k, k]
    · rw [if_neg k]
      exact s3 p (by omega)
  have hlo : ∀ j, j < (q + 1) * 128 → fb_sm (fun U => Aq C (alm L) q U * sk C (alm L) q U j) (2 ^ C) = 0 := fun j hj => sm_z (fun V _ => by rw [sk_lo hj, Nat.mul_zero])
  have hhi : ∀ j, (q + 2) * 128 ≤ j → fb_sm (fun U => Aq C (alm L) q U * sk C (alm L) q U j) (2 ^ C) = 0 := fun j hj => sm_z (fun V hV => by rw [sk_hi hC hV hj, Nat.mul_zero])
  have hmd : ∀ U, fb_sm (fun V => Aq C (alm L) q V * sk C (alm L) q V ((q + 1) * 128 + U)) (2 ^ C) = Aq C (alm L) (q + 1) U := fun U => by
    rw [Aq_s]
    exact fb_sm_cong (fun V _ => by rw [sk_row])
  clear hS3 s1 s2 s3
  refine ⟨m3.row (by omega) _, x3.row (by decide) _, ?_, ?_, ?_⟩
  · intro p hp
    rw [stRow_ne (by decide)]
    exact e36 p hp
  · intro p hp U hU
    rw [stRow_self, e37]
    show s.1 7 (p * 128 + U) + nI (fb_sm (fun V => Aq C (alm L) q V * sk C (alm L) q V (p * 128 + U)) (2 ^ C)) = nI (Aq C (alm L) p U)
    by_cases k : p = q + 1
    · have z1 : (q + 1) * 128 ≤ p * 128 + U := by rw [k]; exact Nat.le_add_right _ _
      have z2 : p * 128 + U < 1024 := by omega
      have z3 := s5 (p * 128 + U) z1 z2
      rw [z3, k, hmd U]
      simp
    · have z1 : p * 128 + U < (q + 1) * 128 := by omega
      rw [hlo _ z1, nI_0, s4 p (by omega) U hU]
      simp
  · intro j a b
    have a' : (q + 2) * 128 ≤ j := a
    have a2 : (q + 1) * 128 ≤ j := Nat.le_trans (Nat.mul_le_mul_right 128 (Nat.le_succ (q + 1))) a'
    have z3 := s5 j a2 b
    rw [stRow_self, e37]
    show s.1 7 j + nI (fb_sm (fun V => Aq C (alm L) q V * sk C (alm L) q V j) (2 ^ C)) = 0
    rw [z3, hhi j a', nI_0]
    rfl
theorem X2_countAhead_eq (n : Nat) (hn : 2000 < n) {d : Nat} (hX : RfX S h d) (H : CX S h C Q T L) : ∃ S', F_X2_countAhead n S 5 h = some S' ∧ TB S S' C Q L Q := by
  have hw := H.2.2.2.2
  have hC := hw.1
  have hQ := hw.2.1
  have hh := H.1
  have h2 : 2 ^ C ≤ 128 := Nat.pow_le_pow_right (n := 2) (by decide) hC
  have hp2 : 0 < 2 ^ C := Nat.two_pow_pos C
  have e5 : S.2.2 5 = HRn 5 3 := hX.2.2.2.2.2.2.1
  generalize hS1 : stI (stI (stI S 5 3 (nI Q)) 5 4 (nI C)) 5 5 (nI (2 ^ C)) = S1
  have m1 : Sm S S1 := by
    rw [← hS1]
    exact (((Sm.refl S).stI (by omega) _ _).stI (by omega) _ _).stI (by omega) _ _
  have x1 : MX S1 C Q := by
    rw [← hS1]
    refine ⟨e5, ?_, ?_, ?_, hC, hQ⟩ <;> simp [stI_at]
  have H1 := H.sm m1
  generalize hS2 : stI (stRow S1 7 (fil (S1.1 7) 0 1024 0)) 7 0 1 = S2
  have m2 : Sm S S2 := by
    rw [← hS2]
    exact (m1.row (by omega) _).stI (by omega) _ _
  have x2 : MX S2 C Q := by
    rw [← hS2]
    refine x1.congr rfl ⟨?_, ?_, ?_⟩ <;> rw [stI_ne (by decide), stRow_ne (by decide)]
  have t0 : ∀ j, j < 1024 → S2.1 7 j = if j = 0 then 1 else 0 := by
    intro j hj
    rw [← hS2, stI_at, if_pos rfl, stRow_self]
    unfold fil
    rw [if_pos (show 0 ≤ j ∧ j < 0 + 1024 by omega)]
  have b0 : TB S S2 C Q L 0 := by
    refine ⟨m2, x2, fun p hp => by omega, fun p hp U hU => ?_, fun j a b => ?_⟩
    · have : p = 0 := by omega
      rw [this, Nat.zero_mul, Nat.zero_add, t0 U (by omega), Aq_00]
      split <;> rfl
    · rw [t0 j b, if_neg (by omega)]
  have key := lp_ex (fun fu i (s : aSt) => F_X2_countAhead_L48 n 5 h (nI (bs (fun c => decide (aq L c = 99)) C)) (fun x => some x) fu i s) (fun x => some x) (fun q s => TB S s C Q L q) Q (fun fu s hs => ?_) (fun fu q s hq hs => ?_) Q 0 n S2 (by omega) (by omega) b0
  · obtain ⟨z, hz, e⟩ := key
    refine ⟨z, ?_, hz⟩
    refine Eq.trans ?_ e
    have e8 : S.1 h 8 = nI Q := H.2.2.2.1.2.1
    have e7 : S.1 h 7 = nI C := H.2.2.2.1.1
    have e7' : (stI S 5 3 (nI Q)).1 h 7 = nI C := by rw [stI_ne (by rcases hh with rfl | rfl <;> omega)]; exact e7
    have e54 : (stI (stI S 5 3 (nI Q)) 5 4 (nI C)).1 5 4 = nI C := by simp [stI_at]
    unfold F_X2_countAhead
    simp only [nmE, jnE, e8, e7', e54, shl1 C (show C < 31 by omega), hS1, X1_freeCards_eq n (show 10 < n by omega) H1, bndS, x1.r1, J7_fill_eq n S1 SZ_7 (show 1024 < 2 ^ 31 by decide) (show 1024 < n by omega), stRow_22, SZ_7, show inb (0 : Int32) 1024 = true by decide, grdT, show (0 : Int32).toNatClampNeg = 0 from rfl, hS2]
    rfl
  · show F_X2_countAhead_L48 _ _ _ _ _ (fu + 1) _ _ = _
    rw [F_X2_countAhead_L48, hs.2.1.2.1, if_pos (Int32.le_refl _)]
  · obtain ⟨s1, s2, s3, s4, s5⟩ := hs
    have Hs := H.sm s1
    generalize hv : nI (bs (alm L q) C) = v
    generalize hS3 : stI s 6 q v = S3
    have m3 : Sm S S3 := by rw [← hS3]; exact s1.stI (by omega) _ _
    have x3 : MX S3 C Q := by
      rw [← hS3]
      refine s2.congr rfl ⟨?_, ?_, ?_⟩ <;> rw [stI_ne (by decide)]
    have e36 : S3.1 6 q = nI (bs (alm L q) C) := by rw [← hS3, hv]; simp [stI_at]
    have e37 : S3.1 7 = s.1 7 := by rw [← hS3, stI_ne (by decide)]
    refine ⟨stRow S3 7 (fun j => S3.1 7 j + nI (fb_sm (fun U => Aq C (alm L) q U * sk C (alm L) q U j) (2 ^ C))), TB_step hC (by omega) ⟨s1, s2, s3, s4, s5⟩ (by rw [hv]; exact hS3), ?_⟩
    · show F_X2_countAhead_L48 _ _ _ _ _ (fu + 1) _ _ = F_X2_countAhead_L48 _ _ _ _ _ fu _ _
      have hal : ∀ b : Bool, decide (L 9 q = 99) = b → bs (alm L q) C = if b = true then bs (fun c => tc L q c && decide (aq L c = 99)) C else 0 := by
        intro b hb
        cases b with
        | true =>
          rw [if_pos rfl]
          refine bs_cong fun c _ => ?_
          unfold alm
          rw [hb, Bool.true_and, Bool.and_comm]
        | false =>
          rw [if_neg Bool.false_ne_true, bs_0]
          intro c _
          unfold alm
          rw [hb, Bool.false_and]
      have ef := X2_L84_eq n (by omega) x3 (q := q) (al := alm L) (by omega) e36 (fun U hU => by rw [e37]; exact s4 q (Nat.le_refl _) U hU) (fun x119S => F_X2_countAhead_L48 n 5 h (nI (bs (fun c => decide (aq L c = 99)) C)) (fun x => some x) fu (nI q + 1) x119S)
      rw [F_X2_countAhead_L48, s2.2.1, if_neg (nI_ge hq (by omega))]
      simp only [nmE, jnE, s2.r0, X1_isFreeQuestion_eq n Hs (show q < 7 by omega), bndS, if10', SZ_6, inb_nI (show q < 7 by omega) (by decide), grdT, nI_clamp (show q < 2 ^ 31 by omega), X1_trueCards_eq n (show 10 < n by omega) Hs hq, fa_and, bs_and]
      by_cases k : L 9 q = 99
      · have hb := hal true (by simp [k])
        rw [if_pos rfl] at hb
        rw [if_pos k, ← hb, hv, hS3, ef, nI_1]
      · have hb := hal false (by simp [k])
        rw [if_neg Bool.false_ne_true] at hb
        rw [hb] at hv
        rw [if_neg k, show stI s 6 q 0 = S3 by rw [← hS3, ← hv]; rfl, ef, nI_1]
end Ahead2
