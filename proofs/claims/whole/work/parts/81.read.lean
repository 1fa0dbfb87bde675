/-! the class reads a text into its draft. -/
def TX (S : aSt) (k m : Nat) (tx : Nat → Int32) : Prop := S.2.2 k 0 = some (k + 1) ∧ isT (k + 1) 7 = true ∧ (SH (k + 1)).2 = 80 ∧ S.1 k 1 = nI m ∧ m ≤ 80 ∧ (∀ i, i < m → S.1 (k + 1) i = tx i) ∧ 41 ≤ k
def DX (S : aSt) (d : Nat) : Prop := (d = 13 ∨ d = 27) ∧ S.2.2 d = HRn d 7 ∧ S.2.2 (d + 7) = HRn (d + 7) 6
/-- only the draft has changed -/
def Dr (d : Nat) (S S' : aSt) : Prop := S'.2 = S.2 ∧ ∀ k, ¬ (d ≤ k ∧ k ≤ d + 13) → S'.1 k = S.1 k
theorem Dr.refl (d : Nat) (S : aSt) : Dr d S S := ⟨rfl, fun _ _ => rfl⟩
theorem Dr.trans {d : Nat} {A B D : aSt} (h : Dr d A B) (k : Dr d B D) : Dr d A D := ⟨k.1.trans h.1, fun i q => (k.2 i q).trans (h.2 i q)⟩
theorem Dr.sI {d : Nat} {S S' : aSt} (h : Dr d S S') {k : Nat} (hk : d ≤ k ∧ k ≤ d + 13) (j : Nat) (v : Int32) : Dr d S (stI S' k j v) := h.trans ⟨rfl, fun i q => stI_ne (fun e => q (by omega))⟩
theorem Dr.sR {d : Nat} {S S' : aSt} (h : Dr d S S') {k : Nat} (hk : d ≤ k ∧ k ≤ d + 13) (f : Nat → Int32) : Dr d S (stRow S' k f) := h.trans ⟨rfl, fun i q => stRow_ne (fun e => q (by omega))⟩
theorem TX.dr {d : Nat} {S S' : aSt} {k m : Nat} {tx : Nat → Int32} (H : TX S k m tx) (hd : d = 13 ∨ d = 27) (h : Dr d S S') : TX S' k m tx := by
  obtain ⟨h1, h2, h3, h4, h5, h6, h7⟩ := H
  have e1 := h.2 k (by omega)
  have e2 := h.2 (k + 1) (by omega)
  refine ⟨?_, h2, h3, ?_, h5, ?_, h7⟩
  · rw [h.1]; exact h1
  · rw [e1]; exact h4
  · rw [e2]; exact h6
theorem DX.dr {d : Nat} {S S' : aSt} (H : DX S d) (h : Dr d S S') : DX S' d := by
  unfold DX at *
  rw [h.1]
  exact H
section Refs
variable {S : aSt} {d : Nat} {β : Type}
theorem DX.a0 (H : DX S d) (f : Nat → Option β) : rfd (S.2.2 d 0) 7 f = f (d + 1) := by rw [H.2.1]; simp [HRn]; exact rfdS (tg1 H.1) f
theorem DX.a1 (H : DX S d) (f : Nat → Option β) : rfd (S.2.2 d 1) 7 f = f (d + 2) := by rw [H.2.1]; simp [HRn]; exact rfdS (tg2 H.1) f
theorem DX.a2 (H : DX S d) (f : Nat → Option β) : rfd (S.2.2 d 2) 7 f = f (d + 3) := by rw [H.2.1]; simp [HRn]; exact rfdS (tg3 H.1) f
theorem DX.a3 (H : DX S d) (f : Nat → Option β) : rfd (S.2.2 d 3) 7 f = f (d + 4) := by rw [H.2.1]; simp [HRn]; exact rfdS (tg4 H.1) f
theorem DX.a4 (H : DX S d) (f : Nat → Option β) : rfd (S.2.2 d 4) 7 f = f (d + 5) := by rw [H.2.1]; simp [HRn]; exact rfdS (tg5 H.1) f
theorem DX.a5 (H : DX S d) (f : Nat → Option β) : rfd (S.2.2 d 5) 7 f = f (d + 6) := by rw [H.2.1]; simp [HRn]; exact rfdS (tg6 H.1) f
theorem DX.a6 (H : DX S d) (f : Nat → Option β) : rfd (S.2.2 d 6) 4 f = f (d + 7) := by rw [H.2.1]; simp [HRn]; exact rfdS (tg7 H.1) f
theorem DX.b0 (H : DX S d) (f : Nat → Option β) : rfd (S.2.2 (d + 7) 0) 7 f = f (d + 7 + 1) := by rw [H.2.2]; simp [HRn]; exact rfdS (tgs1 H.1) f
theorem DX.b1 (H : DX S d) (f : Nat → Option β) : rfd (S.2.2 (d + 7) 1) 7 f = f (d + 7 + 2) := by rw [H.2.2]; simp [HRn]; exact rfdS (tgs2 H.1) f
theorem DX.b2 (H : DX S d) (f : Nat → Option β) : rfd (S.2.2 (d + 7) 2) 7 f = f (d + 7 + 3) := by rw [H.2.2]; simp [HRn]; exact rfdS (tgs3 H.1) f
theorem DX.b3 (H : DX S d) (f : Nat → Option β) : rfd (S.2.2 (d + 7) 3) 7 f = f (d + 7 + 4) := by rw [H.2.2]; simp [HRn]; exact rfdS (tgs4 H.1) f
end Refs
section Read
variable {S : aSt} {d k m C Q : Nat} {tx : Nat → Int32} {L : Nat → Nat → Nat}
theorem X1_figure_eq (n : Nat) (H : TX S k m tx) {p lo hi : Nat} (hp : p < 100) (hlo : lo ≤ 9) (hhi : hi ≤ 9) : F_X1_figure n S k (nI p) (nI lo) (nI hi) = some (en (fig tx m p lo hi)) := by
  obtain ⟨h1, h2, h3, h4, h5, h6, h7⟩ := H
  unfold F_X1_figure
  rw [X4_reaches_eq n (show m < 2 ^ 31 by omega) h4, bndS, if10']
  by_cases k1 : p < m
  · rw [if_pos (inb_nI k1 (by omega)), h1, rfdS h2, h3, inb_nI (show p < 80 by omega) (by decide), grdT, nI_clamp (show p < 2 ^ 31 by omega), h6 p k1, nmE, if_neg (nI_pos (show lo < 2 ^ 31 by omega))]
    by_cases k2 : nI lo ≤ tx p - 48
    · rw [if_neg (Int32.not_lt.mpr k2)]
      by_cases k3 : tx p - 48 ≤ nI hi
      · have hy := fig_yes hlo hhi ⟨k1, k2, k3⟩
        rw [if_neg (Int32.not_lt.mpr k3), en_nI (by omega), hy.1]
      · rw [if_pos (Int32.not_le.mp k3), fig_no (fun z => k3 z.2.2)]
        rfl
    · rw [if_pos (Int32.not_le.mp k2), fig_no (fun z => k2 z.2.1)]
      rfl
  · rw [if_neg (by rw [inb_iff, nI_toInt (by omega)]; omega), fig_no (fun z => k1 z.1)]
    rfl
theorem let_dec : ∀ i, i < 6 → am_let i = [110, 121, 112, 118, 116, 98].getD i 0 := by decide +kernel
theorem X0_ofLetter_eq (n : Nat) (hn : 10 < n) (S : aSt) (b : Int32) : F_X0_ofLetter n S b = some (en (ltr b)) := by
  obtain ⟨n', rfl⟩ : ∃ z, n = z + 7 := ⟨n - 7, by omega⟩
  unfold F_X0_ofLetter
  rw [jnE]
  have l0 : am_let (0 : Int32).toNatClampNeg = 110 := rfl
  have l1 : am_let ((0 : Int32) + 1).toNatClampNeg = 121 := rfl
  have l2 : am_let ((0 : Int32) + 1 + 1).toNatClampNeg = 112 := rfl
  have l3 : am_let ((0 : Int32) + 1 + 1 + 1).toNatClampNeg = 118 := rfl
  have l4 : am_let ((0 : Int32) + 1 + 1 + 1 + 1).toNatClampNeg = 116 := rfl
  have l5 : am_let ((0 : Int32) + 1 + 1 + 1 + 1 + 1).toNatClampNeg = 98 := rfl
  rw [F_X0_ofLetter_L2, if_neg (show ¬ (6 : Int32) ≤ (0 : Int32) by decide), show inb (0 : Int32) 6 = true by decide, grdT, l0]
  rw [F_X0_ofLetter_L2, if_neg (show ¬ (6 : Int32) ≤ (0 : Int32) + 1 by decide), show inb ((0 : Int32) + 1) 6 = true by decide, grdT, l1]
  rw [F_X0_ofLetter_L2, if_neg (show ¬ (6 : Int32) ≤ (0 : Int32) + 1 + 1 by decide), show inb ((0 : Int32) + 1 + 1) 6 = true by decide, grdT, l2]
  rw [F_X0_ofLetter_L2, if_neg (show ¬ (6 : Int32) ≤ (0 : Int32) + 1 + 1 + 1 by decide), show inb ((0 : Int32) + 1 + 1 + 1) 6 = true by decide, grdT, l3]
  rw [F_X0_ofLetter_L2, if_neg (show ¬ (6 : Int32) ≤ (0 : Int32) + 1 + 1 + 1 + 1 by decide), show inb ((0 : Int32) + 1 + 1 + 1 + 1) 6 = true by decide, grdT, l4]
  rw [F_X0_ofLetter_L2, if_neg (show ¬ (6 : Int32) ≤ (0 : Int32) + 1 + 1 + 1 + 1 + 1 by decide), show inb ((0 : Int32) + 1 + 1 + 1 + 1 + 1) 6 = true by decide, grdT, l5]
  rw [F_X0_ofLetter_L2, if_pos (show (6 : Int32) ≤ (0 : Int32) + 1 + 1 + 1 + 1 + 1 + 1 by decide)]
  unfold ltr
  by_cases k0 : b = 110
  · rw [if_pos k0.symm, if_pos k0]; rfl
  · rw [if_neg (fun z => k0 z.symm), if_neg k0]
    by_cases k1 : b = 121
    · rw [if_pos k1.symm, if_pos k1]; rfl
    · rw [if_neg (fun z => k1 z.symm), if_neg k1]
      by_cases k2 : b = 112
      · rw [if_pos k2.symm, if_pos k2]; rfl
      · rw [if_neg (fun z => k2 z.symm), if_neg k2]
        by_cases k3 : b = 118
        · rw [if_pos k3.symm, if_pos k3]; rfl
        · rw [if_neg (fun z => k3 z.symm), if_neg k3]
          by_cases k4 : b = 116
          · rw [if_pos k4.symm, if_pos k4]; rfl
          · rw [if_neg (fun z => k4 z.symm), if_neg k4]
            by_cases k5 : b = 98
            · rw [if_pos k5.symm, if_pos k5]; rfl
            · rw [if_neg (fun z => k5 z.symm), if_neg k5]; rfl
theorem X1_pastBlanks_eq (n : Nat) (H : TX S k m tx) : ∀ (j p fu : Nat), p + j = m → j < fu → ∃ p', p ≤ p' ∧ p' ≤ m ∧ (∀ i, p ≤ i → i < p' → tx i = 32) ∧ (p' < m → tx p' ≠ 32) ∧ F_X1_pastBlanks_L2 S k (some (S.1 k 1)) fu (nI p) = some (nI p') := by
  obtain ⟨h1, h2, h3, h4, h5, h6, h7⟩ := H
  intro j
  induction j with
  | zero =>
    intro p fu hp hf
    obtain ⟨fu', rfl⟩ : ∃ z, fu = z + 1 := ⟨fu - 1, by omega⟩
    refine ⟨p, Nat.le_refl _, by omega, fun i a b => by omega, fun a => by omega, ?_⟩
    rw [F_X1_pastBlanks_L2, h4, if_pos (nI_le (by omega) (by omega)), show p = m by omega]
  | succ j ih =>
    intro p fu hp hf
    obtain ⟨fu', rfl⟩ : ∃ z, fu = z + 1 := ⟨fu - 1, by omega⟩
    by_cases k1 : tx p = 32
    · obtain ⟨p', a1, a2, a3, a4, a5⟩ := ih (p + 1) fu' (by omega) (by omega)
      refine ⟨p', by omega, a2, fun i b1 b2 => ?_, a4, ?_⟩
      · by_cases z : i = p
        · rw [z]; exact k1
        · exact a3 i (by omega) b2
      · rw [F_X1_pastBlanks_L2, h4, if_neg (nI_ge (by omega) (by omega)), h1, rfdS h2, h3, inb_nI (show p < 80 by omega) (by decide), grdT, nI_clamp (show p < 2 ^ 31 by omega), h6 p (by omega), if_pos k1, nI_1, ← h4]
        exact a5
    · refine ⟨p, Nat.le_refl _, by omega, fun i a b => by omega, fun _ => k1, ?_⟩
      rw [F_X1_pastBlanks_L2, h4, if_neg (nI_ge (by omega) (by omega)), h1, rfdS h2, h3, inb_nI (show p < 80 by omega) (by decide), grdT, nI_clamp (show p < 2 ^ 31 by omega), h6 p (by omega), if_neg k1]
/-- the draft holds what has been read -/
def PD (S : aSt) (d C Q : Nat) (L : Nat → Nat → Nat) : Prop := PX S d C Q 0 L ∧ ∀ q, q < 7 → S.1 (d + 7 + 3) q = -9
end Read
