/-! texts that tell a library: what is read, item by item. -/
def fig (tx : Nat → Int32) (m p lo hi : Nat) : Nat := if p < m ∧ nI lo ≤ tx p - 48 ∧ tx p - 48 ≤ nI hi then (tx p - 48).toNatClampNeg else 99
def ltr (b : Int32) : Nat := if b = 110 then 0 else if b = 121 then 1 else if b = 112 then 2 else if b = 118 then 3 else if b = 116 then 4 else if b = 98 then 5 else 99
abbrev prR : Type := Nat × Nat × Nat × (Nat → Nat → Nat)
def itm (tx : Nat → Int32) (m p C Q : Nat) (L : Nat → Nat → Nat) : prR :=
  if tx p = 113 then
    (if C = 0 ∨ 7 ≤ Q then (p, C, Q, L) else if fig tx m (p + 1) 0 5 = 99 then (p + 1, C, Q, L) else if fig tx m (p + 2) 0 9 = 99 then (p + 2, C, Q, L) else if fig tx m (p + 3) (fig tx m (p + 2) 0 9) 9 = 99 then (p + 3, C, Q, L) else if fig tx m (p + 4) 1 9 = 99 then (p + 4, C, Q, L) else (99, C, Q + 1, uL (uL (uL (uL L 4 Q (fig tx m (p + 1) 0 5)) 5 Q (fig tx m (p + 2) 0 9)) 6 Q (fig tx m (p + 3) (fig tx m (p + 2) 0 9) 9)) 7 Q (fig tx m (p + 4) 1 9)))
  else
    (if ltr (tx p) = 99 ∨ 0 < Q ∨ 7 ≤ C then (p, C, Q, L) else if fig tx m (p + 1) 0 9 = 99 then (p + 1, C, Q, L) else if fig tx m (p + 2) 0 3 = 99 then (p + 2, C, Q, L) else if fig tx m (p + 3) 0 9 = 99 then (p + 3, C, Q, L) else (99, C + 1, Q, uL (uL (uL (uL L 0 C (ltr (tx p))) 1 C (fig tx m (p + 1) 0 9)) 2 C (fig tx m (p + 2) 0 3)) 3 C (fig tx m (p + 3) 0 9)))
def prs (tx : Nat → Int32) (m : Nat) : Nat → Nat → Nat → Nat → (Nat → Nat → Nat) → Option prR
  | 0, _, _, _, _ => none
  | fu + 1, p, C, Q, L => if m ≤ p then some (if C = 0 then p else 99, C, Q, L) else if tx p = 32 then prs tx m fu (p + 1) C Q L else if (itm tx m p C Q L).1 = 99 then prs tx m fu (p + (if tx p = 113 then 5 else 4)) (itm tx m p C Q L).2.1 (itm tx m p C Q L).2.2.1 (itm tx m p C Q L).2.2.2 else some ((itm tx m p C Q L).1, C, Q, L)
theorem fig_no {tx : Nat → Int32} {m p lo hi : Nat} (h : ¬ (p < m ∧ nI lo ≤ tx p - 48 ∧ tx p - 48 ≤ nI hi)) : fig tx m p lo hi = 99 := by unfold fig; rw [if_neg h]
theorem fig_yes {tx : Nat → Int32} {m p lo hi : Nat} (hlo : lo ≤ 9) (hhi : hi ≤ 9) (h : p < m ∧ nI lo ≤ tx p - 48 ∧ tx p - 48 ≤ nI hi) : nI (fig tx m p lo hi) = tx p - 48 ∧ lo ≤ fig tx m p lo hi ∧ fig tx m p lo hi ≤ hi := by
  have h1 := Int32.le_iff_toInt_le.mp h.2.1
  have h2 := Int32.le_iff_toInt_le.mp h.2.2
  rw [nI_toInt (by omega)] at h1 h2
  have hb : inb (tx p - 48) (hi + 1) = true := inb_iff.mpr ⟨by omega, by omega⟩
  have e : nI (tx p - 48).toNatClampNeg = tx p - 48 := inb_self hb
  have hl := inb_lt hb
  unfold fig
  rw [if_pos h]
  refine ⟨e, ?_, by omega⟩
  rw [← e, nI_toInt (by omega)] at h1
  omega
theorem fig_le {tx : Nat → Int32} {m p lo hi : Nat} (hlo : lo ≤ 9) (hhi : hi ≤ 9) (h : fig tx m p lo hi ≠ 99) : p < m ∧ nI (fig tx m p lo hi) = tx p - 48 ∧ lo ≤ fig tx m p lo hi ∧ fig tx m p lo hi ≤ hi := by
  by_cases k : p < m ∧ nI lo ≤ tx p - 48 ∧ tx p - 48 ≤ nI hi
  · exact ⟨k.1, fig_yes hlo hhi k⟩
  · exact absurd (fig_no k) h
theorem fig_b {tx : Nat → Int32} {m p lo hi : Nat} (hlo : lo ≤ 9) (hhi : hi ≤ 9) : fig tx m p lo hi = 99 ∨ fig tx m p lo hi ≤ 9 := by
  by_cases k : fig tx m p lo hi = 99
  · exact Or.inl k
  · have := fig_le hlo hhi k
    exact Or.inr (by omega)
theorem ltr_b (b : Int32) : ltr b = 99 ∨ ltr b ≤ 5 := by
  unfold ltr
  (repeat' split) <;> omega
/-- what has been read so far -/
def LI (C Q : Nat) (L : Nat → Nat → Nat) : Prop := WL C Q 0 L ∧ (∀ q, L 8 q = 99 ∧ L 9 q = 99)
theorem LI.zero : LI 0 0 (fun _ _ => 99) := by
  refine ⟨⟨by omega, by omega, by omega, fun _ => ⟨rfl, rfl⟩, fun c hc => by omega, fun q hq => by omega, fun q _ => Or.inl rfl, fun t ht => by omega⟩, fun q => ⟨rfl, rfl⟩⟩
section Parse
variable {tx : Nat → Int32} {m p C Q : Nat} {L : Nat → Nat → Nat}
theorem itm_ok (hI : LI C Q L) (h : (itm tx m p C Q L).1 = 99) (hp : p < m) (hm : m ≤ 80) : LI (itm tx m p C Q L).2.1 (itm tx m p C Q L).2.2.1 (itm tx m p C Q L).2.2.2 ∧ p + (if tx p = 113 then 5 else 4) ≤ m ∧ 0 < (itm tx m p C Q L).2.1 := by
  obtain ⟨⟨w1, w2, w3, w4, w5, w6, w7, w8⟩, l8⟩ := hI
  unfold itm at h ⊢
  by_cases k : tx p = 113
  · simp only [if_pos k] at h ⊢
    by_cases k0 : C = 0 ∨ 7 ≤ Q
    · rw [if_pos k0] at h
      have : p = 99 := h
      omega
    · rw [if_neg k0] at h ⊢
      by_cases k1 : fig tx m (p + 1) 0 5 = 99
      · rw [if_pos k1] at h
        have : p + 1 = 99 := h
        omega
      · rw [if_neg k1] at h ⊢
        by_cases k2 : fig tx m (p + 2) 0 9 = 99
        · rw [if_pos k2] at h
          have : p + 2 = 99 := h
          omega
        · rw [if_neg k2] at h ⊢
          have f2 := fig_le (by omega) (by omega) k2
          by_cases k3 : fig tx m (p + 3) (fig tx m (p + 2) 0 9) 9 = 99
          · rw [if_pos k3] at h
            have : p + 3 = 99 := h
            omega
          · rw [if_neg k3] at h ⊢
            by_cases k4 : fig tx m (p + 4) 1 9 = 99
            · rw [if_pos k4] at h
              have : p + 4 = 99 := h
              omega
            · rw [if_neg k4]
              have f1 := fig_le (by omega) (by omega) k1
              have f3 := fig_le (by omega) (by omega) k3
              have f4 := fig_le (by omega) (by omega) k4
              generalize fig tx m (p + 3) (fig tx m (p + 2) 0 9) 9 = g3 at f3
              generalize fig tx m (p + 1) 0 5 = g1 at f1
              generalize fig tx m (p + 2) 0 9 = g2 at f2 f3
              generalize fig tx m (p + 4) 1 9 = g4 at f4
              refine ⟨⟨⟨w1, ?_, by omega, ?_, fun c hc => ?_, fun q hq => ?_, fun q hq => ?_, fun t ht => by omega⟩, fun q => ?_⟩, by omega, ?_⟩
              · show Q + 1 ≤ 7; omega
              · intro z
                have : C = 0 := z
                omega
              · simp only [uL]
                simp
                exact w5 c hc
              · have hq' : q < Q + 1 := hq
                simp only [uL]
                by_cases e : q = Q
                · subst e
                  simp
                  have := (l8 q).1
                  omega
                · simp [e]
                  exact w6 q (by omega)
              · simp only [uL]
                simp
                exact Or.inl (l8 q).2
              · simp only [uL]
                simp
                exact l8 q
              · show 0 < C; omega
  · simp only [if_neg k] at h ⊢
    by_cases k0 : ltr (tx p) = 99 ∨ 0 < Q ∨ 7 ≤ C
    · rw [if_pos k0] at h
      have : p = 99 := h
      omega
    · rw [if_neg k0] at h ⊢
      by_cases k1 : fig tx m (p + 1) 0 9 = 99
      · rw [if_pos k1] at h
        have : p + 1 = 99 := h
        omega
      · rw [if_neg k1] at h ⊢
        by_cases k2 : fig tx m (p + 2) 0 3 = 99
        · rw [if_pos k2] at h
          have : p + 2 = 99 := h
          omega
        · rw [if_neg k2] at h ⊢
          by_cases k3 : fig tx m (p + 3) 0 9 = 99
          · rw [if_pos k3] at h
            have : p + 3 = 99 := h
            omega
          · rw [if_neg k3]
            have f0 := ltr_b (tx p)
            have f1 := fig_le (by omega) (by omega) k1
            have f2 := fig_le (by omega) (by omega) k2
            have f3 := fig_le (by omega) (by omega) k3
            generalize ltr (tx p) = g0 at f0 k0
            generalize fig tx m (p + 1) 0 9 = g1 at f1
            generalize fig tx m (p + 2) 0 3 = g2 at f2
            generalize fig tx m (p + 3) 0 9 = g3 at f3
            refine ⟨⟨⟨?_, w2, by omega, ?_, fun c hc => ?_, fun q hq => ?_, fun q hq => ?_, fun t ht => by omega⟩, fun q => ?_⟩, by omega, ?_⟩
            · show C + 1 ≤ 7; omega
            · intro z
              have : C + 1 = 0 := z
              omega
            · have hc' : c < C + 1 := hc
              simp only [uL]
              by_cases e : c = C
              · subst e
                simp
                omega
              · simp [e]
                exact w5 c (by omega)
            · have : q < Q := hq
              omega
            · simp only [uL]
              simp
              exact Or.inl (l8 q).2
            · simp only [uL]
              simp
              exact l8 q
            · show 0 < C + 1; omega
theorem itm_f (h : (itm tx m p C Q L).1 ≠ 99) (hp : p < m) : (itm tx m p C Q L).1 ≤ m := by
  unfold itm at h ⊢
  by_cases k : tx p = 113
  · simp only [if_pos k] at h ⊢
    by_cases k0 : C = 0 ∨ 7 ≤ Q
    · rw [if_pos k0]; show p ≤ m; omega
    · rw [if_neg k0] at h ⊢
      by_cases k1 : fig tx m (p + 1) 0 5 = 99
      · rw [if_pos k1]; show p + 1 ≤ m; omega
      · have f1 := fig_le (by omega) (by omega) k1
        rw [if_neg k1] at h ⊢
        by_cases k2 : fig tx m (p + 2) 0 9 = 99
        · rw [if_pos k2]; show p + 2 ≤ m; omega
        · rw [if_neg k2] at h ⊢
          have f2 := fig_le (by omega) (by omega) k2
          by_cases k3 : fig tx m (p + 3) (fig tx m (p + 2) 0 9) 9 = 99
          · rw [if_pos k3]; show p + 3 ≤ m; omega
          · have f3 := fig_le (by omega) (by omega) k3
            rw [if_neg k3] at h ⊢
            by_cases k4 : fig tx m (p + 4) 1 9 = 99
            · rw [if_pos k4]; show p + 4 ≤ m; omega
            · rw [if_neg k4] at h
              exact absurd rfl h
  · simp only [if_neg k] at h ⊢
    by_cases k0 : ltr (tx p) = 99 ∨ 0 < Q ∨ 7 ≤ C
    · rw [if_pos k0]; show p ≤ m; omega
    · rw [if_neg k0] at h ⊢
      by_cases k1 : fig tx m (p + 1) 0 9 = 99
      · rw [if_pos k1]; show p + 1 ≤ m; omega
      · have f1 := fig_le (by omega) (by omega) k1
        rw [if_neg k1] at h ⊢
        by_cases k2 : fig tx m (p + 2) 0 3 = 99
        · rw [if_pos k2]; show p + 2 ≤ m; omega
        · have f2 := fig_le (by omega) (by omega) k2
          rw [if_neg k2] at h ⊢
          by_cases k3 : fig tx m (p + 3) 0 9 = 99
          · rw [if_pos k3]; show p + 3 ≤ m; omega
          · rw [if_neg k3] at h
            exact absurd rfl h
end Parse
theorem prs_ex {tx : Nat → Int32} {m : Nat} (hm : m ≤ 80) : ∀ (k p C Q : Nat) (L : Nat → Nat → Nat), m - p ≤ k → p ≤ m → LI C Q L → ∃ r, prs tx m (k + 1) p C Q L = some r ∧ (r.1 = 99 → LI r.2.1 r.2.2.1 r.2.2.2 ∧ 0 < r.2.1) ∧ (r.1 = 99 ∨ r.1 ≤ 80) := by
  intro k
  induction k with
  | zero =>
    intro p C Q L hk hp hI
    refine ⟨_, by rw [prs, if_pos (by omega)], fun h => ?_, ?_⟩
    · refine ⟨hI, ?_⟩
      by_cases k : C = 0
      · rw [if_pos k] at h
        have : p = 99 := h
        omega
      · show 0 < C; omega
    · show (if C = 0 then p else 99) = 99 ∨ (if C = 0 then p else 99) ≤ 80
      split <;> omega
  | succ k ih =>
    intro p C Q L hk hp hI
    by_cases h0 : m ≤ p
    · refine ⟨_, by rw [prs, if_pos h0], fun h => ?_, ?_⟩
      · refine ⟨hI, ?_⟩
        by_cases k : C = 0
        · rw [if_pos k] at h
          have : p = 99 := h
          omega
        · show 0 < C; omega
      · show (if C = 0 then p else 99) = 99 ∨ (if C = 0 then p else 99) ≤ 80
        split <;> omega
    · by_cases h1 : tx p = 32
      · obtain ⟨r, g1, g2⟩ := ih (p + 1) C Q L (by omega) (by omega) hI
        exact ⟨r, by rw [prs, if_neg h0, if_pos h1, g1], g2⟩
      · by_cases h2 : (itm tx m p C Q L).1 = 99
        · obtain ⟨i1, i2, i3⟩ := itm_ok hI h2 (by omega) hm
          have i4 : p + 1 ≤ p + (if tx p = 113 then 5 else 4) := by split <;> omega
          obtain ⟨r, g1, g2⟩ := ih (p + (if tx p = 113 then 5 else 4)) _ _ _ (by omega) i2 i1
          exact ⟨r, by rw [prs, if_neg h0, if_neg h1, if_pos h2, g1], g2⟩
        · have := itm_f h2 (show p < m by omega)
          refine ⟨((itm tx m p C Q L).1, C, Q, L), by rw [prs, if_neg h0, if_neg h1, if_neg h2], fun h => absurd h h2, Or.inr ?_⟩
          show (itm tx m p C Q L).1 ≤ 80
          omega
