/-! finds. -/
theorem cp_dec : ∀ x, x < 128 → ∀ a, a < 128 → nI x &&& (nI a ^^^ -1) = nI (x &&& (127 ^^^ a)) := by decide +kernel
theorem on_dec : ∀ x, x < 128 → 0 < x → F_X7_isOne 0 (fun _ _ => 0, fun _ _ => 0, fun _ _ => none) (nI x) = some (if pcn x = 1 then 1 else 0) := by decide +kernel
theorem X7_isOne_eq (n : Nat) (S : aSt) {x : Nat} (h : x < 128) (h0 : 0 < x) : F_X7_isOne n S (nI x) = some (if pcn x = 1 then 1 else 0) := on_dec x h h0
theorem pcn_pos : ∀ x, x < 128 → 0 < x → 0 < pcn x := by decide +kernel
theorem pcn_7 (x : Nat) : pcn x ≤ 7 := fb_ct_le _ _
theorem tb127 : ∀ i, i < 7 → (127 : Nat).testBit i = true := by decide
theorem pcn_part (x f : Nat) : pcn (x &&& f) + pcn (x &&& (127 ^^^ f)) = pcn x := by
  unfold pcn
  rw [← fb_ct_or]
  · refine fb_ct_cong fun i hi => ?_
    simp only [Nat.testBit_and, Nat.testBit_xor, tb127 i hi]
    cases x.testBit i <;> cases f.testBit i <;> rfl
  · intro i hi
    simp only [Nat.testBit_and, Nat.testBit_xor, tb127 i hi]
    cases x.testBit i <;> cases f.testBit i <;> simp
theorem and_cp (x f : Nat) (hx : x < 128) : x &&& (127 ^^^ (x &&& f)) = x &&& (127 ^^^ f) := by
  refine Nat.eq_of_testBit_eq fun i => ?_
  simp only [Nat.testBit_and, Nat.testBit_xor]
  cases x.testBit i <;> simp
def fs (f t : Nat → Nat) (x q : Nat) (w : Nat × Nat) : Nat × Nat := if x &&& f q = 0 ∨ x &&& (127 ^^^ f q) = 0 ∨ t (x &&& f q) = 99 ∨ t (x &&& (127 ^^^ f q)) = 99 then w else if w.1 ≤ 1 + max (t (x &&& f q)) (t (x &&& (127 ^^^ f q))) then w else (1 + max (t (x &&& f q)) (t (x &&& (127 ^^^ f q))), q)
def fv (f t : Nat → Nat) (Q x : Nat) : Nat × Nat := if pcn x = 1 then (0, 99) else itr (fs f t x) (99, 99) Q
def fV (f : Nat → Nat) (Q x : Nat) : Nat × Nat := fv f (fun y => if h : y < x then (fV f Q y).1 else 99) Q x
termination_by x
decreasing_by exact h
theorem fV_eq (f : Nat → Nat) (Q x : Nat) : fV f Q x = fv f (fun y => if y < x then (fV f Q y).1 else 99) Q x := by
  rw [fV]
  rfl
/-- a question parts the cards in two, both fewer -/
theorem cut_lt {x f : Nat} (hx : x < 128) (h1 : ¬ x &&& f = 0) (h2 : ¬ x &&& (127 ^^^ f) = 0) : x &&& f < x ∧ x &&& (127 ^^^ f) < x := by
  have l1 : x &&& f ≤ x := Nat.and_le_left
  have l2 : x &&& (127 ^^^ f) ≤ x := Nat.and_le_left
  have p := pcn_part x f
  have p1 := pcn_pos (x &&& f) (by omega) (by omega)
  have p2 := pcn_pos (x &&& (127 ^^^ f)) (by omega) (by omega)
  constructor
  · rcases Nat.lt_or_ge (x &&& f) x with z | z
    · exact z
    · have : x &&& f = x := by omega
      rw [this] at p; omega
  · rcases Nat.lt_or_ge (x &&& (127 ^^^ f)) x with z | z
    · exact z
    · have : x &&& (127 ^^^ f) = x := by omega
      rw [this] at p; omega
def Vb (Q x : Nat) (w : Nat × Nat) : Prop := (w.1 = 99 ∨ w.1 ≤ pcn x) ∧ (w.2 = 99 ∨ w.2 < Q)
theorem fs_b {f t : Nat → Nat} {Q x q : Nat} {w : Nat × Nat} (hx : x < 128) (ht : ∀ y, 0 < y → y < x → t y = 99 ∨ t y ≤ pcn y) (hq : q < Q) (hw : Vb Q x w) : Vb Q x (fs f t x q w) := by
  unfold fs
  by_cases h : x &&& f q = 0 ∨ x &&& (127 ^^^ f q) = 0 ∨ t (x &&& f q) = 99 ∨ t (x &&& (127 ^^^ f q)) = 99
  · rw [if_pos h]; exact hw
  · rw [if_neg h]
    by_cases h2 : w.1 ≤ 1 + max (t (x &&& f q)) (t (x &&& (127 ^^^ f q)))
    · rw [if_pos h2]; exact hw
    · rw [if_neg h2]
      have h3 := cut_lt hx (fun z => h (Or.inl z)) (fun z => h (Or.inr (Or.inl z)))
      have p := pcn_part x (f q)
      have p1 := pcn_pos (x &&& f q) (by omega) (by omega)
      have p2 := pcn_pos (x &&& (127 ^^^ f q)) (by omega) (by omega)
      have t1 := ht (x &&& f q) (by omega) h3.1
      have t2 := ht (x &&& (127 ^^^ f q)) (by omega) h3.2
      refine ⟨Or.inr ?_, Or.inr hq⟩
      show 1 + max _ _ ≤ _
      omega
theorem itr_b {f t : Nat → Nat} {Q x : Nat} (hx : x < 128) (ht : ∀ y, 0 < y → y < x → t y = 99 ∨ t y ≤ pcn y) : ∀ q, q ≤ Q → Vb Q x (itr (fs f t x) (99, 99) q)
  | 0, _ => ⟨Or.inl rfl, Or.inl rfl⟩
  | q + 1, h => fs_b hx ht (by omega) (itr_b hx ht q (by omega))
theorem fV_b (f : Nat → Nat) (Q : Nat) : ∀ m x, x < m → 0 < x → x < 128 → Vb Q x (fV f Q x) := by
  intro m
  induction m with
  | zero => intro x h; omega
  | succ m ih =>
    intro x h h0 hx
    rw [fV_eq]
    unfold fv
    split
    · exact ⟨Or.inr (Nat.zero_le _), Or.inl rfl⟩
    · refine itr_b hx (fun y y0 yx => ?_) Q (Nat.le_refl _)
      rw [if_pos yx]
      exact (ih y (by omega) y0 (by omega)).1
theorem fV_bd (f : Nat → Nat) (Q : Nat) {x : Nat} (h0 : 0 < x) (hx : x < 128) : (fV f Q x).1 = 99 ∨ (fV f Q x).1 ≤ pcn x := (fV_b f Q (x + 1) x (by omega) h0 hx).1
theorem fV_lt (f : Nat → Nat) (Q : Nat) {x : Nat} (h0 : 0 < x) (hx : x < 128) : (fV f Q x).1 < 100 := by
  have := fV_bd f Q h0 hx
  have := pcn_7 x
  omega
theorem en_lt {x : Nat} (h : x < 99) : en x = nI x := en_nI (by omega)
theorem mx_d : ∀ a, a < 10 → ∀ b, b < 10 → (1 : Int32) + (if nI a < nI b then nI b else nI a) = nI (1 + max a b) := by decide +kernel
section Lib14
variable {S : aSt} {h C Q T : Nat} {L : Nat → Nat → Nat}
/-- the class: what one set of cards asks, from the tables of the smaller -/
theorem X3_fewestFor_eq (n : Nat) (hn : 20 < n) (hQ : Q ≤ 7) {f : Nat → Nat} (hf : ∀ q, q < Q → f q < 128) (hr : S.2.2 9 = HRn 9 3) {x c : Nat} (h0 : 0 < x) (hx : x < 128) (hc : x &&& c = 0) (h1 : ∀ q, q < Q → S.1 11 q = nI (f q)) (h2 : ∀ y, 0 < y → y < x → y &&& c = 0 → S.1 12 y = en (fV f Q y).1) : ∃ S', F_X3_fewestFor n S 9 (nI x) (nI Q) = some (en (fV f Q x).1, S') ∧ S'.1 9 3 = en (fV f Q x).2 ∧ (∀ k, k ≠ 9 → S'.1 k = S.1 k) ∧ S'.2 = S.2 := by
  have r1 : HRn 9 3 1 = some 11 := rfl
  have r2 : HRn 9 3 2 = some 12 := rfl
  unfold F_X3_fewestFor
  simp only [nmE, jnE, bn2S, bndS, grdT, stI_22, stL_22, stRow_22, J6_bitCount_eq n _ hx]
  rw [fV_eq]
  unfold fv
  by_cases k : pcn x = 1
  · rw [if_pos k, k, if_pos (show nI 1 = 1 from rfl)]
    exact ⟨_, rfl, by simp [stI_at]; rfl, fun k hk => stI_ne hk, rfl⟩
  · rw [if_neg k, if_neg (show ¬ nI (pcn x) = 1 from fun z => k ((nI_eq (b := 1) (by have := pcn_7 x; omega) (by decide)).mp z))]
    generalize ht : (fun y => if y < x then (fV f Q y).1 else 99) = t
    have ht1 : ∀ y, y < x → t y = (fV f Q y).1 := fun y hy => by rw [← ht]; exact if_pos hy
    have htb : ∀ y, 0 < y → y < x → t y = 99 ∨ t y ≤ pcn y := fun y y0 yx => by rw [ht1 y yx]; exact fV_bd f Q y0 (by omega)
    have key := lp_ex (fun fu i (s : Int32 × aSt) => F_X3_fewestFor_L22 9 (nI x) (nI Q) (fun a b => some (a, b)) fu s.1 i s.2) (fun s => some (s.1, s.2)) (fun q s => s.1 = en (itr (fs f t x) (99, 99) q).1 ∧ s.2.1 9 3 = en (itr (fs f t x) (99, 99) q).2 ∧ (∀ k, k ≠ 9 → s.2.1 k = S.1 k) ∧ s.2.2 = S.2) Q (fun fu s hP => ?_) (fun fu q s hq hP => ?_) Q 0 n (-9, stI S 9 3 (-9)) (by omega) (by omega) ⟨rfl, by simp [stI_at]; rfl, fun k hk => stI_ne hk, rfl⟩
    · obtain ⟨z, hz, e⟩ := key
      exact ⟨z.2, by rw [← hz.1]; exact e, hz.2⟩
    · show F_X3_fewestFor_L22 _ _ _ _ (fu + 1) _ _ _ = _
      rw [F_X3_fewestFor_L22, if_pos (Int32.le_refl _)]
    · show ∃ z : Int32 × aSt, _ ∧ F_X3_fewestFor_L22 _ _ _ _ (fu + 1) _ _ _ = F_X3_fewestFor_L22 _ _ _ _ fu z.1 _ z.2
      obtain ⟨v, S'⟩ := s
      obtain ⟨p1, p2, p3, p4⟩ := hP
      dsimp only at p1 p2 p3 p4 ⊢
      have hb := itr_b (f := f) hx htb q (Nat.le_of_lt hq)
      show ∃ z : Int32 × aSt, (z.1 = en (fs f t x q (itr (fs f t x) (99, 99) q)).1 ∧ z.2.1 9 3 = en (fs f t x q (itr (fs f t x) (99, 99) q)).2 ∧ _) ∧ _
      generalize itr (fs f t x) (99, 99) q = w at p1 p2 hb
      subst p1
      have hr' : S'.2.2 9 = HRn 9 3 := by rw [p4]; exact hr
      rw [F_X3_fewestFor_L22, if_neg (nI_ge hq (by omega))]
      have e1 : S'.1 11 q = nI (f q) := by rw [p3 11 (by decide)]; exact h1 q hq
      simp only [nmE, jnE, bn2S, bndS, grdT, stI_22, stL_22, stRow_22, hr', r1, r2, rfdS T_11, rfdS T_12, SZ_11, SZ_12, inb_nI (show q < 7 by omega) (by decide), nI_clamp (show q < 2 ^ 31 by omega), e1, fa_and, cp_dec x hx (f q) (hf q hq), nI_1]
      have l1 : x &&& f q ≤ x := Nat.and_le_left
      have l2 : x &&& (127 ^^^ f q) ≤ x := Nat.and_le_left
      have n1 : ∀ b, b < 128 → (nI b = 0 ↔ b = 0) := fun b hb => nI_eq (b := 0) (by omega) (by decide)
      by_cases k1 : x &&& f q = 0
      · exact ⟨(en w.1, S'), by rw [show fs f t x q w = w from if_pos (Or.inl k1)]; exact ⟨rfl, p2, p3, p4⟩, by rw [if_pos ((n1 _ (by omega)).mpr k1)]⟩
      · rw [if_neg (fun z => k1 ((n1 _ (by omega)).mp z))]
        by_cases k2 : x &&& (127 ^^^ f q) = 0
        · exact ⟨(en w.1, S'), by rw [show fs f t x q w = w from if_pos (Or.inr (Or.inl k2))]; exact ⟨rfl, p2, p3, p4⟩, by rw [if_pos ((n1 _ (by omega)).mpr k2)]⟩
        · rw [if_neg (fun z => k2 ((n1 _ (by omega)).mp z))]
          have h3 := cut_lt hx k1 k2
          have c1 : (x &&& f q) &&& c = 0 := by rw [Nat.and_assoc, Nat.and_comm (f q), ← Nat.and_assoc, hc, Nat.zero_and]
          have c2 : (x &&& (127 ^^^ f q)) &&& c = 0 := by rw [Nat.and_assoc, Nat.and_comm (127 ^^^ f q), ← Nat.and_assoc, hc, Nat.zero_and]
          have g1 : S'.1 12 (x &&& f q) = en (t (x &&& f q)) := by rw [p3 12 (by decide), ht1 _ h3.1]; exact h2 _ (by omega) h3.1 c1
          have g2 : S'.1 12 (x &&& (127 ^^^ f q)) = en (t (x &&& (127 ^^^ f q))) := by rw [p3 12 (by decide), ht1 _ h3.2]; exact h2 _ (by omega) h3.2 c2
          have b1 := htb _ (by omega) h3.1
          have b2 := htb _ (by omega) h3.2
          have b3 := pcn_7 (x &&& f q)
          have b4 := pcn_7 (x &&& (127 ^^^ f q))
          have b5 := pcn_7 x
          simp only [inb_nI (show x &&& f q < 128 by omega) (by decide), inb_nI (show x &&& (127 ^^^ f q) < 128 by omega) (by decide), nI_clamp (show x &&& f q < 2 ^ 31 by omega), nI_clamp (show x &&& (127 ^^^ f q) < 2 ^ 31 by omega), g1, g2, grdT]
          have hfs : fs f t x q w = if x &&& f q = 0 ∨ x &&& (127 ^^^ f q) = 0 ∨ t (x &&& f q) = 99 ∨ t (x &&& (127 ^^^ f q)) = 99 then w else if w.1 ≤ 1 + max (t (x &&& f q)) (t (x &&& (127 ^^^ f q))) then w else (1 + max (t (x &&& f q)) (t (x &&& (127 ^^^ f q))), q) := rfl
          generalize fs f t x q w = z at hfs
          generalize t (x &&& f q) = ta at b1 hfs
          generalize t (x &&& (127 ^^^ f q)) = tb at b2 hfs
          by_cases k3 : ta = 99
          · exact ⟨(en w.1, S'), by rw [show z = w from hfs.trans (if_pos (Or.inr (Or.inr (Or.inl k3))))]; exact ⟨rfl, p2, p3, p4⟩, by rw [if_pos ((en_m9 (by omega)).mpr k3)]⟩
          · rw [if_neg (fun y => k3 ((en_m9 (by omega)).mp y))]
            by_cases k4 : tb = 99
            · exact ⟨(en w.1, S'), by rw [show z = w from hfs.trans (if_pos (Or.inr (Or.inr (Or.inr k4))))]; exact ⟨rfl, p2, p3, p4⟩, by rw [if_pos ((en_m9 (by omega)).mpr k4)]⟩
            · rw [if_neg (fun y => k4 ((en_m9 (by omega)).mp y)), en_nI k3, en_nI k4, mx_d ta (by omega) tb (by omega)]
              have hcond : ¬ (x &&& f q = 0 ∨ x &&& (127 ^^^ f q) = 0 ∨ ta = 99 ∨ tb = 99) := by
                rintro (z | z | z | z)
                · exact k1 z
                · exact k2 z
                · exact k3 z
                · exact k4 z
              rw [if_neg hcond] at hfs
              have w1 := hb.1
              by_cases k5 : w.1 ≤ 1 + max ta tb
              · have k6 : ¬ w.1 = 99 := by omega
                refine ⟨(en w.1, S'), by rw [show z = w from hfs.trans (if_pos k5)]; exact ⟨rfl, p2, p3, p4⟩, ?_⟩
                rw [if_neg (fun z => k6 ((en_m9 (by omega)).mp z)), en_nI k6, if_pos (nI_le k5 (by omega))]
              · refine ⟨(nI (1 + max ta tb), stI S' 9 3 (nI q)), ?_, ?_⟩
                · rw [show z = (1 + max ta tb, q) from hfs.trans (if_neg k5)]
                  refine ⟨(en_nI (show ¬ 1 + max ta tb = 99 by omega)).symm, ?_, fun k hk => by rw [stI_ne hk]; exact p3 k hk, p4⟩
                  dsimp only
                  rw [en_nI (show ¬ q = 99 by omega)]
                  simp [stI_at]
                · by_cases k6 : w.1 = 99
                  · rw [if_pos ((en_m9 (by omega)).mpr k6)]
                  · rw [if_neg (fun z => k6 ((en_m9 (by omega)).mp z)), en_nI k6, if_neg (nI_ge (by omega) (by omega))]
end Lib14
