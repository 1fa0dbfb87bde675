/-! bring, take, undo, right. -/
theorem WL.set9 {C Q T : Nat} {L : Nat → Nat → Nat} (H : WL C Q T L) {a : Nat → Nat} (ha : AnsOK C Q a) : WL C Q T (fun f i => if f = 9 then a i else L f i) := by
  obtain ⟨h1, h2, h3, h4, h5, h6, h7, h8⟩ := H
  exact ⟨h1, h2, h3, h4, h5, h6, ha, h8⟩
theorem AnsOK.clear {C Q : Nat} {a : Nat → Nat} (H : AnsOK C Q a) (q : Nat) : AnsOK C Q (fun i => if i = q then 99 else a i) := by
  intro p hp
  show (if p = q then 99 else a p) = 99 ∨ _
  by_cases e : p = q
  · left; rw [if_pos e]
  · rcases H p hp with h | ⟨h1, h2, h3⟩
    · left; rw [if_neg e]; exact h
    · by_cases e9 : a p = 99
      · left; rw [if_neg e]; exact e9
      · right
        dsimp only
        rw [if_neg e]
        refine ⟨h1, h2, fun r hr hrr => ?_⟩
        by_cases e2 : r = q
        · exfalso
          have : (if r = q then 99 else a r) = a p := hrr
          rw [if_pos e2] at this
          exact e9 this.symm
        · have : (if r = q then 99 else a r) = a p := hrr
          rw [if_neg e2] at this
          exact h3 r hr this
theorem AnsOK.put {C Q : Nat} {a : Nat → Nat} (H : AnsOK C Q a) (hC : C ≤ 7) {q c : Nat} (hq : q < Q) (hc : c < C) (hf : ∀ p, p < 7 → a p ≠ c) : AnsOK C Q (fun i => if i = q then c else a i) := by
  intro p hp
  show (if p = q then c else a p) = 99 ∨ _
  by_cases e : p = q
  · right
    subst e
    dsimp only
    rw [if_pos rfl]
    refine ⟨hq, hc, fun r hr hrr => ?_⟩
    by_cases e2 : r = p
    · exact e2
    · have : (if r = p then c else a r) = c := hrr
      rw [if_neg e2] at this
      exact absurd this (hf r hr)
  · rcases H p hp with h | ⟨h1, h2, h3⟩
    · left; rw [if_neg e]; exact h
    · right
      dsimp only
      rw [if_neg e]
      refine ⟨h1, h2, fun r hr hrr => ?_⟩
      by_cases e2 : r = q
      · have : (if r = q then c else a r) = a p := hrr
        rw [if_pos e2] at this
        exact absurd this.symm (hf p hp)
      · have : (if r = q then c else a r) = a p := hrr
        rw [if_neg e2] at this
        exact h3 r hr this
theorem uL9 (L : Nat → Nat → Nat) (q x : Nat) : uL L 9 q x = fun f i => if f = 9 then (if i = q then x else L 9 i) else L f i := by
  funext f i
  unfold uL
  by_cases e : f = 9
  · subst e
    by_cases e2 : i = q <;> simp [e2]
  · simp [e]
theorem op_bring (n : Nat) {S : aSt} (H : OK S) (q : Int32) : Both S (F_X6_bring n S 0 q) (fun S1 => F_X7_bring n S1 82 q) := by
  obtain ⟨h, d, C, Q, T, L, hX, hM, hCX, hCM, hk⟩ := H.get
  have hh := hCX.1
  have hC := hCM.2.2.1
  have hQ := hCM.2.2.2.1
  by_cases hc : inb q Q = true
  · obtain ⟨q, hc', rfl⟩ := inb_ex hc (by omega)
    by_cases hf : L 9 q = 99
    · refine Both.same H (-4) ?_ ?_
      · unfold F_X6_bring
        simp only [nmE, jnE, bn2S, bndS, grdT, stI_22, stL_22, stRow_22, X0_here hX, X1_isQuestion_eq n hCX, if10', reduceIte, Bool.false_eq_true, one_ne0, if_pos hc, X1_isFreeQuestion_eq n hCX (show q < 7 by omega), if_pos hf]
      · unfold F_X7_bring
        simp only [nmE, jnE, bn2S, bndS, grdT, stI_22, stL_22, stRow_22, X7_isQuestion_eq n hCM, if10', reduceIte, Bool.false_eq_true, one_ne0, if_pos hc, X7_isFree_eq n hCM (show q < Q by omega), if_pos hf]
    · have hi := inb_nI (show q < 7 by omega) (by decide)
      have hcl : (nI q).toNatClampNeg = q := nI_clamp (by omega)
      have a2 := hCX.2.2.2.1.2.2.2.2.2.2.2.1 q (by omega)
      refine ⟨en (L 9 q), stI S (h + 7 + 4) q (en 99), stI (stI S (h + 7 + 4) q (en 99)) 87 (66 + q) (en 99), ?_, ?_, ?_⟩
      · unfold F_X6_bring
        simp only [nmE, jnE, bn2S, bndS, grdT, stI_22, stL_22, stRow_22, reduceIte, Bool.false_eq_true, one_ne0, X0_here hX, X1_isQuestion_eq n hCX, if10', if_pos hc, X1_isFreeQuestion_eq n hCX (show q < 7 by omega), if_neg hf, hCX.r6, hCX.s3, rfdS (tg7 hh), rfdS (tgs4 hh), sgs4 hh, hi, hcl, a2, en_99]
      · have hCM1 : CM (stI S (h + 7 + 4) q (en 99)) C Q T L := hCM.congr rfl (stI_ne (by omega))
        have hM1 : RfM (stI S (h + 7 + 4) q (en 99)) := hM
        have ei : (66 : Int32) + nI q = nI (66 + q) := nI_add 66 q
        show F_X7_bring n (stI S (h + 7 + 4) q (en 99)) 82 (nI q) = _
        unfold F_X7_bring
        rw [show (-9 : Int32) = en 99 from rfl]
        simp only [nmE, jnE, bn2S, bndS, grdT, stI_22, stL_22, stRow_22, X7_isQuestion_eq n hCM1, if10', reduceIte, Bool.false_eq_true, one_ne0, if_pos hc, X7_isFree_eq n hCM1 (show q < Q by omega), if_neg hf, ei, X7_puts_eq n hM1 (show 66 + q < 393 by omega), stI_ne (show 87 ≠ h + 7 + 4 by omega), hCM.2.1.2.2.2.2.2.1 q (show q < 7 by omega) (hCM.2.2.pos hc')]
      · refine H.lib (T' := T) (L' := uL L 9 q 99) hX hk rfl rfl (fun k k1 k2 => ?_) ?_ ?_ ?_ (fun i => ⟨uL_f (by decide), uL_f (by decide), uL_f (by decide), uL_f (by decide), uL_f (by decide), uL_f (by decide)⟩)
        · rw [stI_ne (by omega), stI_ne (by omega)]
        · rw [uL9]; exact hCM.2.2.set9 (hCM.2.2.ans.clear q)
        · exact (hCX.2.2.2.1.set9 (c := q) (x := 99)).congr (fun k a b => by rw [stI_ne (by omega)])
        · rw [stI_self, stI_ne (by omega)]
          exact hCM.2.1.set9 hC hCM.2.2.2.1 (by omega)
  · refine Both.same H (-1) ?_ ?_
    · unfold F_X6_bring
      simp only [X0_here hX, X1_isQuestion_eq n hCX, bndS, if10', reduceIte, Bool.false_eq_true, one_ne0, if_neg hc]
    · unfold F_X7_bring
      simp only [X7_isQuestion_eq n hCM, bndS, if10', reduceIte, Bool.false_eq_true, one_ne0, if_neg hc]
/-! takings -/
def tk (L : Nat → Nat → Nat) (T q c : Nat) : Nat → Nat → Nat := fun a b => if a = 11 then (if 7 * T ≤ b ∧ b < 7 * T + 7 then L 9 (b - 7 * T) else L 11 b) else if a = 10 then (if b = T then 10 * q + c else L 10 b) else if a = 9 then (if b = q then c else L 9 b) else L a b
theorem tk_o {L : Nat → Nat → Nat} {T q c a b : Nat} (h : a < 9) : tk L T q c a b = L a b := by
  unfold tk
  rw [if_neg (by omega), if_neg (by omega), if_neg (by omega)]
theorem tk_9 {L : Nat → Nat → Nat} {T q c b : Nat} : tk L T q c 9 b = if b = q then c else L 9 b := rfl
theorem tk_10 {L : Nat → Nat → Nat} {T q c b : Nat} : tk L T q c 10 b = if b = T then 10 * q + c else L 10 b := rfl
theorem tk_11 {L : Nat → Nat → Nat} {T q c b : Nat} : tk L T q c 11 b = if 7 * T ≤ b ∧ b < 7 * T + 7 then L 9 (b - 7 * T) else L 11 b := rfl
theorem WL.take {C Q T : Nat} {L : Nat → Nat → Nat} (H : WL C Q T L) {q c : Nat} (hq : q < Q) (hc : c < C) (hT : T < 40) (hf : ∀ p, p < 7 → L 9 p ≠ c) : WL C Q (T + 1) (tk L T q c) := by
  obtain ⟨h1, h2, h3, h4, h5, h6, h7, h8⟩ := H
  refine ⟨h1, h2, by omega, fun z => by omega, fun b hb => ?_, fun b hb => ?_, ?_, fun t ht => ?_⟩
  · simp only [tk_o (L := L) (show 0 < 9 by decide), tk_o (L := L) (show 1 < 9 by decide), tk_o (L := L) (show 2 < 9 by decide), tk_o (L := L) (show 3 < 9 by decide)]
    exact h5 b hb
  · simp only [tk_o (L := L) (show 4 < 9 by decide), tk_o (L := L) (show 5 < 9 by decide), tk_o (L := L) (show 6 < 9 by decide), tk_o (L := L) (show 7 < 9 by decide), tk_o (L := L) (show 8 < 9 by decide)]
    exact h6 b hb
  · exact h7.put h1 hq hc hf
  · by_cases e : t = T
    · subst e
      refine ⟨?_, ?_⟩
      · rw [tk_10, if_pos rfl]; omega
      · intro p hp
        have hh := h7 p hp
        have e1 : ∀ r, r < 7 → tk L t q c 11 (7 * t + r) = L 9 r := fun r hr => by
          rw [tk_11, if_pos (by omega)]
          exact congrArg (L 9) (by omega)
        show tk L t q c 11 (7 * t + p) = 99 ∨ (p < Q ∧ tk L t q c 11 (7 * t + p) < C ∧ ∀ r, r < 7 → tk L t q c 11 (7 * t + r) = tk L t q c 11 (7 * t + p) → r = p)
        rw [e1 p hp]
        rcases hh with hh | ⟨a1, a2, a3⟩
        · exact Or.inl hh
        · exact Or.inr ⟨a1, a2, fun r hr => by rw [e1 r hr]; exact a3 r hr⟩
    · obtain ⟨b1, b2⟩ := h8 t (by omega)
      refine ⟨?_, ?_⟩
      · rw [tk_10, if_neg e]; exact b1
      · intro p hp
        have hh := b2 p hp
        have e1 : ∀ r, r < 7 → tk L T q c 11 (7 * t + r) = L 11 (7 * t + r) := fun r hr => by
          rw [tk_11, if_neg (by omega)]
        show tk L T q c 11 (7 * t + p) = 99 ∨ (p < Q ∧ tk L T q c 11 (7 * t + p) < C ∧ ∀ r, r < 7 → tk L T q c 11 (7 * t + r) = tk L T q c 11 (7 * t + p) → r = p)
        rw [e1 p hp]
        rcases hh with hh | ⟨a1, a2, a3⟩
        · exact Or.inl hh
        · exact Or.inr ⟨a1, a2, fun r hr => by rw [e1 r hr]; exact a3 r hr⟩
def xTk (S : aSt) (s T q c : Nat) : aSt := stI (stI (stI (stRow S (s + 6) (va_cpy (S.1 (s + 4)) (S.1 (s + 6)) 0 (T * 7) 7)) (s + 5) T (nI (10 * q + c))) s 6 (nI (T + 1))) (s + 4) q (nI c)
def mTk (S : aSt) (T q c : Nat) : aSt := stRow S 87 (upd (upd (upd (va_cpy (S.1 87) (S.1 87) 66 (113 + 7 * T) 7) (73 + T) (nI (10 * q + c))) (66 + q) (nI c)) 2 (nI (T + 1)))
theorem PS.take {S : aSt} {s C Q T : Nat} {L : Nat → Nat → Nat} (H : PS S s C Q T L) (hC : C ≤ 7) {q c : Nat} (hc : c < C) : PS (xTk S s T q c) s C Q (T + 1) (tk L T q c) := by
  obtain ⟨h1, h2, h3, h4, h5⟩ := H
  unfold xTk
  refine ⟨?_, fun b hb => ⟨?_, ?_⟩, fun b hb => ?_, fun b hb => ?_, fun t ht => ⟨?_, fun b hb => ?_⟩⟩
  · rw [stI_ne (by omega), stI_self, pk_us]
  · rw [stI_ne (by omega), stI_ne (by omega), stI_ne (by omega), stRow_ne (by omega), tk_o (by decide)]; exact (h2 b hb).1
  · rw [stI_ne (by omega), stI_ne (by omega), stI_ne (by omega), stRow_ne (by omega), tk_o (by decide)]; exact (h2 b hb).2
  · rw [stI_ne (by omega), stI_ne (by omega), stI_ne (by omega), stRow_ne (by omega), tk_o (by decide)]; exact h3 b hb
  · rw [stI_self, tk_9]
    by_cases e : b = q
    · subst e; rw [pk_us, if_pos rfl, en_nI (by omega)]
    · rw [pk_un e, if_neg e, stI_ne (by omega), stI_ne (by omega), stRow_ne (by omega)]; exact h4 b hb
  · rw [stI_ne (by omega), stI_ne (by omega), stI_self, tk_10]
    by_cases e : t = T
    · subst e; rw [pk_us, if_pos rfl]
    · rw [pk_un e, if_neg e, stRow_ne (by omega)]; exact (h5 t (by omega)).1
  · rw [stI_ne (by omega), stI_ne (by omega), stI_ne (by omega), stRow_self, tk_11]
    unfold va_cpy
    by_cases e : t = T
    · subst e
      rw [if_pos (by omega), if_pos (by omega)]
      have : 0 + (7 * t + b - t * 7) = b := by omega
      rw [this, h4 b hb]
      exact congrArg (fun z => en (L 9 z)) (by omega)
    · rw [if_neg (by omega), if_neg (by omega)]; exact (h5 t (by omega)).2 b hb
theorem PM.take {v : Nat → Int32} {C Q T : Nat} {L : Nat → Nat → Nat} (hC : C ≤ 7) (hQ : Q ≤ 7) (hT : T < 40) (H : PM v C Q T L) {q c : Nat} (hq : q < 7) (hc : c < C) : PM (upd (upd (upd (va_cpy v v 66 (113 + 7 * T) 7) (73 + T) (nI (10 * q + c))) (66 + q) (nI c)) 2 (nI (T + 1))) C Q (T + 1) (tk L T q c) := by
  obtain ⟨h1, h2, h3, h4, h5, h6, h7⟩ := H
  have old : ∀ k, k < 66 → k ≠ 2 → upd (upd (upd (va_cpy v v 66 (113 + 7 * T) 7) (73 + T) (nI (10 * q + c))) (66 + q) (nI c)) 2 (nI (T + 1)) k = v k := by
    intro k hk hk2
    rw [pk_un hk2, pk_un (by omega), pk_un (by omega)]
    unfold va_cpy
    rw [if_neg (by omega)]
  refine ⟨?_, ?_, ?_, fun b hb => ⟨?_, ?_, ?_, ?_⟩, fun b hb => ⟨?_, ?_, ?_, ?_, ?_⟩, fun b hb h0 => ?_, fun t ht => ⟨?_, fun b hb => ?_⟩⟩
  · rw [old _ (by omega) (by omega)]; exact h1
  · rw [old _ (by omega) (by omega)]; exact h2
  · rw [pk_us]
  · rw [old _ (by omega) (by omega), tk_o (by decide)]; exact (h4 b hb).1
  · rw [old _ (by omega) (by omega), tk_o (by decide)]; exact (h4 b hb).2.1
  · rw [old _ (by omega) (by omega), tk_o (by decide)]; exact (h4 b hb).2.2.1
  · rw [old _ (by omega) (by omega), tk_o (by decide)]; exact (h4 b hb).2.2.2
  · rw [old _ (by omega) (by omega), tk_o (by decide)]; exact (h5 b hb).1
  · rw [old _ (by omega) (by omega), tk_o (by decide)]; exact (h5 b hb).2.1
  · rw [old _ (by omega) (by omega), tk_o (by decide)]; exact (h5 b hb).2.2.1
  · rw [old _ (by omega) (by omega), tk_o (by decide)]; exact (h5 b hb).2.2.2.1
  · rw [old _ (by omega) (by omega), tk_o (by decide)]; exact (h5 b hb).2.2.2.2
  · rw [pk_un (by omega), tk_9]
    by_cases e : b = q
    · subst e; rw [pk_us, if_pos rfl, en_nI (by omega)]
    · rw [pk_un (by omega), pk_un (by omega), if_neg e]
      unfold va_cpy
      rw [if_neg (by omega)]
      exact h6 b hb h0
  · rw [pk_un (by omega), pk_un (by omega), tk_10]
    by_cases e : t = T
    · subst e; rw [pk_us, if_pos rfl]
    · rw [pk_un (by omega), if_neg e]
      unfold va_cpy
      rw [if_neg (by omega)]
      exact (h7 t (by omega)).1
  · rw [pk_un (by omega), pk_un (by omega), pk_un (by omega), tk_11]
    unfold va_cpy
    by_cases e : t = T
    · subst e
      rw [if_pos (by omega), if_pos (by omega)]
      have : 66 + (113 + (7 * t + b) - (113 + 7 * t)) = 66 + b := by omega
      rw [this, h6 b hb (by omega)]
      exact congrArg (fun z => en (L 9 z)) (by omega)
    · rw [if_neg (by omega), if_neg (by omega)]; exact (h7 t (by omega)).2 b hb
