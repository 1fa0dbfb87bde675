/-! Cards and questions: card, question, shelve, age, truth, fits. -/
def uL (L : Nat → Nat → Nat) (f i v : Nat) : Nat → Nat → Nat := fun a b => if a = f ∧ b = i then v else L a b
theorem uL_f {L : Nat → Nat → Nat} {f i v a b : Nat} (h : a ≠ f) : uL L f i v a b = L a b := by unfold uL; rw [if_neg (fun z => h z.1)]
theorem uL_i {L : Nat → Nat → Nat} {f i v a b : Nat} (h : b ≠ i) : uL L f i v a b = L a b := by unfold uL; rw [if_neg (fun z => h z.2)]
theorem uL_s {L : Nat → Nat → Nat} {f i v : Nat} : uL L f i v f i = v := by unfold uL; rw [if_pos ⟨rfl, rfl⟩]
theorem OK.get {S : aSt} (H : OK S) : ∃ (h d C Q T : Nat) (L : Nat → Nat → Nat), RfX S h d ∧ RfM S ∧ CX S h C Q T L ∧ CM S C Q T L ∧ PK S C Q L := by
  obtain ⟨h, d, hX, hM, hA, hR, hT, C, Q, T, L, hw, hx, hm, hk⟩ := H
  exact ⟨h, d, C, Q, T, L, hX, hM, ⟨hX.hd, (hX.2.2.2.2.2.2.2.2.1 h hX.hd).1, (hX.2.2.2.2.2.2.2.2.1 h hX.hd).2, hx, hw⟩, ⟨hM, hm, hw⟩, hk⟩
theorem CM.congr {S S' : aSt} {C Q T : Nat} {L : Nat → Nat → Nat} (H : CM S C Q T L) (er : S'.2.2 82 = S.2.2 82) (e : S'.1 87 = S.1 87) : CM S' C Q T L := by
  obtain ⟨h1, h2, h3⟩ := H
  exact ⟨by rw [er]; exact h1, by rw [e]; exact h2, h3⟩
theorem PK.static {S : aSt} {C Q : Nat} {L L' : Nat → Nat → Nat} (hs : ∀ i, L' 0 i = L 0 i ∧ L' 1 i = L 1 i ∧ L' 4 i = L 4 i ∧ L' 5 i = L 5 i ∧ L' 6 i = L 6 i ∧ L' 7 i = L 7 i) (H : PK S C Q L) : PK S C Q L' := by
  intro k hk
  rcases H k hk with h | ⟨h1, h2, T', L2, h3, h4, h5, h6⟩
  · exact Or.inl h
  · refine Or.inr ⟨h1, h2, T', L2, h3, fun i => ?_, h5, h6⟩
    obtain ⟨a0, a1, a2, a3, a4, a5⟩ := hs i
    obtain ⟨b0, b1, b2, b3, b4, b5⟩ := h4 i
    exact ⟨b0.trans a0.symm, b1.trans a1.symm, b2.trans a2.symm, b3.trans a3.symm, b4.trans a4.symm, b5.trans a5.symm⟩
theorem OK.lib {S S' : aSt} {h d C Q T' : Nat} {L L' : Nat → Nat → Nat} (H : OK S) (hX : RfX S h d) (hk : PK S C Q L) (er : S'.2.2 = S.2.2) (e2 : S'.2.1 = S.2.1) (ec : ∀ k, ¬ (h ≤ k ∧ k ≤ h + 13) → k ≠ 87 → S'.1 k = S.1 k) (hw' : WL C Q T' L') (hx' : PX S' h C Q T' L') (hm' : PM (S'.1 87) C Q T' L') (hs : ∀ i, L' 0 i = L 0 i ∧ L' 1 i = L 1 i ∧ L' 4 i = L 4 i ∧ L' 5 i = L 5 i ∧ L' 6 i = L 6 i ∧ L' 7 i = L 7 i) : OK S' := by
  have hh := hX.hd
  obtain ⟨h0, d0, hX0, hM, hA, hR, hT, -⟩ := H
  refine ⟨h, d, ?_, ?_, ?_, hR.congr (fun k q => ec k (by omega) (by omega)), hT.congr (fun k q => ec k (by omega) (by omega)), C, Q, T', L', hw', hx', hm', (hk.static hs).congr (fun k q => ec k (by omega) (by omega))⟩
  · unfold RfX at *; rw [er]; exact hX
  · unfold RfM at *; rw [er]; exact hM
  · unfold PA at *
    rw [ec 0 (by omega) (by omega), ec 82 (by omega) (by omega), ec 4 (by omega) (by omega), ec 90 (by omega) (by omega), e2]
    exact hA
theorem PM.set2 {v : Nat → Int32} {C Q T : Nat} {L : Nat → Nat → Nat} (hC : C ≤ 7) (hQ : Q ≤ 7) (H : PM v C Q T L) {c x : Nat} (hc : c < C) : PM (upd v (17 + c) (nI x)) C Q T (uL L 2 c x) := by
  obtain ⟨h1, h2, h3, h4, h5, h6, h7⟩ := H
  refine ⟨?_, ?_, ?_, fun b hb => ⟨?_, ?_, ?_, ?_⟩, fun b hb => ⟨?_, ?_, ?_, ?_, ?_⟩, fun b hb h0 => ?_, fun t ht => ⟨?_, fun b hb => ?_⟩⟩
  · rw [pk_un (by omega)]; exact h1
  · rw [pk_un (by omega)]; exact h2
  · rw [pk_un (by omega)]; exact h3
  · rw [pk_un (by omega), uL_f (by decide)]; exact (h4 b hb).1
  · rw [pk_un (by omega), uL_f (by decide)]; exact (h4 b hb).2.1
  · by_cases e : b = c
    · subst e; rw [pk_us, uL_s]
    · rw [pk_un (by omega), uL_i e]; exact (h4 b hb).2.2.1
  · rw [pk_un (by omega), uL_f (by decide)]; exact (h4 b hb).2.2.2
  · rw [pk_un (by omega), uL_f (by decide)]; exact (h5 b hb).1
  · rw [pk_un (by omega), uL_f (by decide)]; exact (h5 b hb).2.1
  · rw [pk_un (by omega), uL_f (by decide)]; exact (h5 b hb).2.2.1
  · rw [pk_un (by omega), uL_f (by decide)]; exact (h5 b hb).2.2.2.1
  · rw [pk_un (by omega), uL_f (by decide)]; exact (h5 b hb).2.2.2.2
  · rw [pk_un (by omega), uL_f (by decide)]; exact h6 b hb h0
  · rw [pk_un (by omega), uL_f (by decide)]; exact (h7 t ht).1
  · rw [pk_un (by omega), uL_f (by decide)]; exact (h7 t ht).2 b hb
theorem PM.set3 {v : Nat → Int32} {C Q T : Nat} {L : Nat → Nat → Nat} (hC : C ≤ 7) (hQ : Q ≤ 7) (H : PM v C Q T L) {c x : Nat} (hc : c < C) : PM (upd v (24 + c) (nI x)) C Q T (uL L 3 c x) := by
  obtain ⟨h1, h2, h3, h4, h5, h6, h7⟩ := H
  refine ⟨?_, ?_, ?_, fun b hb => ⟨?_, ?_, ?_, ?_⟩, fun b hb => ⟨?_, ?_, ?_, ?_, ?_⟩, fun b hb h0 => ?_, fun t ht => ⟨?_, fun b hb => ?_⟩⟩
  · rw [pk_un (by omega)]; exact h1
  · rw [pk_un (by omega)]; exact h2
  · rw [pk_un (by omega)]; exact h3
  · rw [pk_un (by omega), uL_f (by decide)]; exact (h4 b hb).1
  · rw [pk_un (by omega), uL_f (by decide)]; exact (h4 b hb).2.1
  · rw [pk_un (by omega), uL_f (by decide)]; exact (h4 b hb).2.2.1
  · by_cases e : b = c
    · subst e; rw [pk_us, uL_s]
    · rw [pk_un (by omega), uL_i e]; exact (h4 b hb).2.2.2
  · rw [pk_un (by omega), uL_f (by decide)]; exact (h5 b hb).1
  · rw [pk_un (by omega), uL_f (by decide)]; exact (h5 b hb).2.1
  · rw [pk_un (by omega), uL_f (by decide)]; exact (h5 b hb).2.2.1
  · rw [pk_un (by omega), uL_f (by decide)]; exact (h5 b hb).2.2.2.1
  · rw [pk_un (by omega), uL_f (by decide)]; exact (h5 b hb).2.2.2.2
  · rw [pk_un (by omega), uL_f (by decide)]; exact h6 b hb h0
  · rw [pk_un (by omega), uL_f (by decide)]; exact (h7 t ht).1
  · rw [pk_un (by omega), uL_f (by decide)]; exact (h7 t ht).2 b hb
theorem PM.set8 {v : Nat → Int32} {C Q T : Nat} {L : Nat → Nat → Nat} (hC : C ≤ 7) (hQ : Q ≤ 7) (H : PM v C Q T L) {c x : Nat} (hc : c < Q) : PM (upd v (59 + c) (en x)) C Q T (uL L 8 c x) := by
  obtain ⟨h1, h2, h3, h4, h5, h6, h7⟩ := H
  refine ⟨?_, ?_, ?_, fun b hb => ⟨?_, ?_, ?_, ?_⟩, fun b hb => ⟨?_, ?_, ?_, ?_, ?_⟩, fun b hb h0 => ?_, fun t ht => ⟨?_, fun b hb => ?_⟩⟩
  · rw [pk_un (by omega)]; exact h1
  · rw [pk_un (by omega)]; exact h2
  · rw [pk_un (by omega)]; exact h3
  · rw [pk_un (by omega), uL_f (by decide)]; exact (h4 b hb).1
  · rw [pk_un (by omega), uL_f (by decide)]; exact (h4 b hb).2.1
  · rw [pk_un (by omega), uL_f (by decide)]; exact (h4 b hb).2.2.1
  · rw [pk_un (by omega), uL_f (by decide)]; exact (h4 b hb).2.2.2
  · rw [pk_un (by omega), uL_f (by decide)]; exact (h5 b hb).1
  · rw [pk_un (by omega), uL_f (by decide)]; exact (h5 b hb).2.1
  · rw [pk_un (by omega), uL_f (by decide)]; exact (h5 b hb).2.2.1
  · rw [pk_un (by omega), uL_f (by decide)]; exact (h5 b hb).2.2.2.1
  · by_cases e : b = c
    · subst e; rw [pk_us, uL_s]
    · rw [pk_un (by omega), uL_i e]; exact (h5 b hb).2.2.2.2
  · rw [pk_un (by omega), uL_f (by decide)]; exact h6 b hb h0
  · rw [pk_un (by omega), uL_f (by decide)]; exact (h7 t ht).1
  · rw [pk_un (by omega), uL_f (by decide)]; exact (h7 t ht).2 b hb
theorem PM.set9 {v : Nat → Int32} {C Q T : Nat} {L : Nat → Nat → Nat} (hC : C ≤ 7) (hQ : Q ≤ 7) (H : PM v C Q T L) {c x : Nat} (hc : c < 7) : PM (upd v (66 + c) (en x)) C Q T (uL L 9 c x) := by
  obtain ⟨h1, h2, h3, h4, h5, h6, h7⟩ := H
  refine ⟨?_, ?_, ?_, fun b hb => ⟨?_, ?_, ?_, ?_⟩, fun b hb => ⟨?_, ?_, ?_, ?_, ?_⟩, fun b hb h0 => ?_, fun t ht => ⟨?_, fun b hb => ?_⟩⟩
  · rw [pk_un (by omega)]; exact h1
  · rw [pk_un (by omega)]; exact h2
  · rw [pk_un (by omega)]; exact h3
  · rw [pk_un (by omega), uL_f (by decide)]; exact (h4 b hb).1
  · rw [pk_un (by omega), uL_f (by decide)]; exact (h4 b hb).2.1
  · rw [pk_un (by omega), uL_f (by decide)]; exact (h4 b hb).2.2.1
  · rw [pk_un (by omega), uL_f (by decide)]; exact (h4 b hb).2.2.2
  · rw [pk_un (by omega), uL_f (by decide)]; exact (h5 b hb).1
  · rw [pk_un (by omega), uL_f (by decide)]; exact (h5 b hb).2.1
  · rw [pk_un (by omega), uL_f (by decide)]; exact (h5 b hb).2.2.1
  · rw [pk_un (by omega), uL_f (by decide)]; exact (h5 b hb).2.2.2.1
  · rw [pk_un (by omega), uL_f (by decide)]; exact (h5 b hb).2.2.2.2
  · by_cases e : b = c
    · subst e; rw [pk_us, uL_s]
    · rw [pk_un (by omega), uL_i e]; exact h6 b hb h0
  · rw [pk_un (by omega), uL_f (by decide)]; exact (h7 t ht).1
  · rw [pk_un (by omega), uL_f (by decide)]; exact (h7 t ht).2 b hb
theorem PS.set2 {S : aSt} {s C Q T : Nat} {L : Nat → Nat → Nat} (H : PS S s C Q T L) {c x : Nat} : PS (stI S (s + 1) c (nI x)) s C Q T (uL L 2 c x) := by
  obtain ⟨h1, h2, h3, h4, h5⟩ := H
  refine ⟨?_, fun b hb => ⟨?_, ?_⟩, fun b hb => ?_, fun b hb => ?_, fun t ht => ⟨?_, fun b hb => ?_⟩⟩
  · rw [stI_ne (by omega)]; exact h1
  · rw [stI_self]; by_cases e : b = c
    · subst e; rw [pk_us, uL_s]
    · rw [pk_un e, uL_i e]; exact (h2 b hb).1
  · rw [stI_ne (by omega), uL_f (by decide)]; exact (h2 b hb).2
  · rw [stI_ne (by omega), uL_f (by decide)]; exact h3 b hb
  · rw [stI_ne (by omega), uL_f (by decide)]; exact h4 b hb
  · rw [stI_ne (by omega), uL_f (by decide)]; exact (h5 t ht).1
  · rw [stI_ne (by omega), uL_f (by decide)]; exact (h5 t ht).2 b hb
theorem PS.set3 {S : aSt} {s C Q T : Nat} {L : Nat → Nat → Nat} (H : PS S s C Q T L) {c x : Nat} : PS (stI S (s + 2) c (nI x)) s C Q T (uL L 3 c x) := by
  obtain ⟨h1, h2, h3, h4, h5⟩ := H
  refine ⟨?_, fun b hb => ⟨?_, ?_⟩, fun b hb => ?_, fun b hb => ?_, fun t ht => ⟨?_, fun b hb => ?_⟩⟩
  · rw [stI_ne (by omega)]; exact h1
  · rw [stI_ne (by omega), uL_f (by decide)]; exact (h2 b hb).1
  · rw [stI_self]; by_cases e : b = c
    · subst e; rw [pk_us, uL_s]
    · rw [pk_un e, uL_i e]; exact (h2 b hb).2
  · rw [stI_ne (by omega), uL_f (by decide)]; exact h3 b hb
  · rw [stI_ne (by omega), uL_f (by decide)]; exact h4 b hb
  · rw [stI_ne (by omega), uL_f (by decide)]; exact (h5 t ht).1
  · rw [stI_ne (by omega), uL_f (by decide)]; exact (h5 t ht).2 b hb
theorem PS.set8 {S : aSt} {s C Q T : Nat} {L : Nat → Nat → Nat} (H : PS S s C Q T L) {c x : Nat} : PS (stI S (s + 3) c (en x)) s C Q T (uL L 8 c x) := by
  obtain ⟨h1, h2, h3, h4, h5⟩ := H
  refine ⟨?_, fun b hb => ⟨?_, ?_⟩, fun b hb => ?_, fun b hb => ?_, fun t ht => ⟨?_, fun b hb => ?_⟩⟩
  · rw [stI_ne (by omega)]; exact h1
  · rw [stI_ne (by omega), uL_f (by decide)]; exact (h2 b hb).1
  · rw [stI_ne (by omega), uL_f (by decide)]; exact (h2 b hb).2
  · rw [stI_self]; by_cases e : b = c
    · subst e; rw [pk_us, uL_s]
    · rw [pk_un e, uL_i e]; exact h3 b hb
  · rw [stI_ne (by omega), uL_f (by decide)]; exact h4 b hb
  · rw [stI_ne (by omega), uL_f (by decide)]; exact (h5 t ht).1
  · rw [stI_ne (by omega), uL_f (by decide)]; exact (h5 t ht).2 b hb
theorem PS.set9 {S : aSt} {s C Q T : Nat} {L : Nat → Nat → Nat} (H : PS S s C Q T L) {c x : Nat} : PS (stI S (s + 4) c (en x)) s C Q T (uL L 9 c x) := by
  obtain ⟨h1, h2, h3, h4, h5⟩ := H
  refine ⟨?_, fun b hb => ⟨?_, ?_⟩, fun b hb => ?_, fun b hb => ?_, fun t ht => ⟨?_, fun b hb => ?_⟩⟩
  · rw [stI_ne (by omega)]; exact h1
  · rw [stI_ne (by omega), uL_f (by decide)]; exact (h2 b hb).1
  · rw [stI_ne (by omega), uL_f (by decide)]; exact (h2 b hb).2
  · rw [stI_ne (by omega), uL_f (by decide)]; exact h3 b hb
  · rw [stI_self]; by_cases e : b = c
    · subst e; rw [pk_us, uL_s]
    · rw [pk_un e, uL_i e]; exact h4 b hb
  · rw [stI_ne (by omega), uL_f (by decide)]; exact (h5 t ht).1
  · rw [stI_ne (by omega), uL_f (by decide)]; exact (h5 t ht).2 b hb
theorem PX.set2 {S : aSt} {h C Q T : Nat} {L : Nat → Nat → Nat} (H : PX S h C Q T L) {c x : Nat} : PX (stI S (h + 7 + 1) c (nI x)) h C Q T (uL L 2 c x) := by
  obtain ⟨h1, h2, h3, h4, h5⟩ := H
  refine ⟨?_, ?_, fun b hb => ⟨?_, ?_⟩, fun b hb => ⟨?_, ?_, ?_, ?_⟩, h5.set2⟩
  · rw [stI_ne (by omega)]; exact h1
  · rw [stI_ne (by omega)]; exact h2
  · rw [stI_ne (by omega), uL_f (by decide)]; exact (h3 b hb).1
  · rw [stI_ne (by omega), uL_f (by decide)]; exact (h3 b hb).2
  · rw [stI_ne (by omega), uL_f (by decide)]; exact (h4 b hb).1
  · rw [stI_ne (by omega), uL_f (by decide)]; exact (h4 b hb).2.1
  · rw [stI_ne (by omega), uL_f (by decide)]; exact (h4 b hb).2.2.1
  · rw [stI_ne (by omega), uL_f (by decide)]; exact (h4 b hb).2.2.2
theorem PX.set3 {S : aSt} {h C Q T : Nat} {L : Nat → Nat → Nat} (H : PX S h C Q T L) {c x : Nat} : PX (stI S (h + 7 + 2) c (nI x)) h C Q T (uL L 3 c x) := by
  obtain ⟨h1, h2, h3, h4, h5⟩ := H
  refine ⟨?_, ?_, fun b hb => ⟨?_, ?_⟩, fun b hb => ⟨?_, ?_, ?_, ?_⟩, h5.set3⟩
  · rw [stI_ne (by omega)]; exact h1
  · rw [stI_ne (by omega)]; exact h2
  · rw [stI_ne (by omega), uL_f (by decide)]; exact (h3 b hb).1
  · rw [stI_ne (by omega), uL_f (by decide)]; exact (h3 b hb).2
  · rw [stI_ne (by omega), uL_f (by decide)]; exact (h4 b hb).1
  · rw [stI_ne (by omega), uL_f (by decide)]; exact (h4 b hb).2.1
  · rw [stI_ne (by omega), uL_f (by decide)]; exact (h4 b hb).2.2.1
  · rw [stI_ne (by omega), uL_f (by decide)]; exact (h4 b hb).2.2.2
theorem PX.set8 {S : aSt} {h C Q T : Nat} {L : Nat → Nat → Nat} (H : PX S h C Q T L) {c x : Nat} : PX (stI S (h + 7 + 3) c (en x)) h C Q T (uL L 8 c x) := by
  obtain ⟨h1, h2, h3, h4, h5⟩ := H
  refine ⟨?_, ?_, fun b hb => ⟨?_, ?_⟩, fun b hb => ⟨?_, ?_, ?_, ?_⟩, h5.set8⟩
  · rw [stI_ne (by omega)]; exact h1
  · rw [stI_ne (by omega)]; exact h2
  · rw [stI_ne (by omega), uL_f (by decide)]; exact (h3 b hb).1
  · rw [stI_ne (by omega), uL_f (by decide)]; exact (h3 b hb).2
  · rw [stI_ne (by omega), uL_f (by decide)]; exact (h4 b hb).1
  · rw [stI_ne (by omega), uL_f (by decide)]; exact (h4 b hb).2.1
  · rw [stI_ne (by omega), uL_f (by decide)]; exact (h4 b hb).2.2.1
  · rw [stI_ne (by omega), uL_f (by decide)]; exact (h4 b hb).2.2.2
theorem PX.set9 {S : aSt} {h C Q T : Nat} {L : Nat → Nat → Nat} (H : PX S h C Q T L) {c x : Nat} : PX (stI S (h + 7 + 4) c (en x)) h C Q T (uL L 9 c x) := by
  obtain ⟨h1, h2, h3, h4, h5⟩ := H
  refine ⟨?_, ?_, fun b hb => ⟨?_, ?_⟩, fun b hb => ⟨?_, ?_, ?_, ?_⟩, h5.set9⟩
  · rw [stI_ne (by omega)]; exact h1
  · rw [stI_ne (by omega)]; exact h2
  · rw [stI_ne (by omega), uL_f (by decide)]; exact (h3 b hb).1
  · rw [stI_ne (by omega), uL_f (by decide)]; exact (h3 b hb).2
  · rw [stI_ne (by omega), uL_f (by decide)]; exact (h4 b hb).1
  · rw [stI_ne (by omega), uL_f (by decide)]; exact (h4 b hb).2.1
  · rw [stI_ne (by omega), uL_f (by decide)]; exact (h4 b hb).2.2.1
  · rw [stI_ne (by omega), uL_f (by decide)]; exact (h4 b hb).2.2.2
theorem nin {x : Int32} {N : Nat} (hN : N < 2 ^ 31) (h : ¬ inb x N = true) : x < 0 ∨ ¬ x < nI N := by
  by_cases h0 : x < 0
  · exact Or.inl h0
  · right
    intro h1
    rw [lt0] at h0
    rw [Int32.lt_iff_toInt_lt, nI_toInt hN] at h1
    exact h (inb_iff.mpr ⟨by omega, h1⟩)
theorem yin {w N : Nat} (h : w < N) (hN : N < 2 ^ 31) : ¬ nI w < 0 ∧ nI w < nI N := ⟨nI_pos (by omega), nI_lt h hN⟩
/-- the class's two tests of a range, as one -/
theorem if2 {α : Type} {x : Int32} {N : Nat} (hN : N < 2 ^ 31) (a b : α) : (if x < 0 then a else if x < nI N then b else a) = if inb x N = true then b else a := by
  by_cases h : inb x N = true
  · obtain ⟨w, hw, rfl⟩ := inb_ex h hN
    rw [if_neg (yin hw hN).1, if_pos (yin hw hN).2, if_pos h]
  · rw [if_neg h]
    rcases nin hN h with h1 | h1
    · rw [if_pos h1]
    · rw [if_neg h1]
      split <;> rfl
def cf (L : Nat → Nat → Nat) (c w : Nat) : Int32 := match w with
  | 0 => nI (L 0 c)
  | 1 => nI (L 1 c)
  | 2 => nI (me L c)
  | 3 => nI (L 2 c)
  | 4 => nI (L 3 c)
  | _ => en (aq L c)
def qf (L : Nat → Nat → Nat) (q w : Nat) : Int32 := match w with
  | 0 => nI (L 4 q)
  | 1 => nI (L 5 q)
  | 2 => nI (L 6 q)
  | 3 => nI (L 7 q)
  | 4 => en (L 8 q)
  | _ => en (L 9 q)
section Lib3
variable {S : aSt} {h C Q T : Nat} {L : Nat → Nat → Nat}
theorem X1_cardFact_eq (n : Nat) (hn : 10 < n) (H : CX S h C Q T L) {c w : Nat} (hc : c < C) (hw : w < 6) : F_X1_cardFact n S h (nI c) (nI w) = some (cf L c w) := by
  have hW := H.2.2.2.2
  have h7 := hW.1
  have hx := H.2.2.2.1
  have a1 := hx.2.2.1 c hc
  have a2 := hx.2.2.2.2.2.1 c hc
  have hi := inb_nI (show c < 7 by omega) (by decide)
  have hcl : (nI c).toNatClampNeg = c := nI_clamp (by omega)
  have hq := X1_questionOf_eq n hn H (show c < 99 by omega)
  have hmm := X1_meaningOf_eq n H hc
  unfold F_X1_cardFact
  obtain rfl | rfl | rfl | rfl | rfl | rfl : w = 0 ∨ w = 1 ∨ w = 2 ∨ w = 3 ∨ w = 4 ∨ w = 5 := by omega
  all_goals simp (decide := true) only [nmE, jnE, bn2S, bndS, grdT, stI_22, stL_22, stRow_22, reduceIte, Bool.false_eq_true, one_ne0, H.r0, H.r1, H.r6, H.s0, H.s1, rfdS (tg1 H.1), rfdS (tg2 H.1), rfdS (tg7 H.1), rfdS (tgs1 H.1), rfdS (tgs2 H.1), sg1 H.1, sg2 H.1, sgs1 H.1, sgs2 H.1, hi, hcl, a1.1, a1.2, a2.1, a2.2, hmm, hq, cf]
theorem X7_toldCard_eq (n : Nat) (hn : 10 < n) (H : CM S C Q T L) {c w : Nat} (hc : c < C) (hw : w < 6) : F_X7_toldCard n S 82 (nI c) (nI w) = some (cf L c w) := by
  have H0 := H
  obtain ⟨hM1, hm, hW⟩ := H
  have h7 := hW.1
  obtain ⟨a0, a1, a2, a3⟩ := hm.2.2.2.1 c hc
  have e0 : (3 : Int32) + nI c = nI (3 + c) := nI_add 3 c
  have e1 : (10 : Int32) + nI c = nI (10 + c) := nI_add 10 c
  have e2 : (17 : Int32) + nI c = nI (17 + c) := nI_add 17 c
  have e3 : (24 : Int32) + nI c = nI (24 + c) := nI_add 24 c
  have hq := X7_answers_eq n hn H0 (show c < 99 by omega)
  have hmm := X7_means_eq n H0 hc
  unfold F_X7_toldCard
  obtain rfl | rfl | rfl | rfl | rfl | rfl : w = 0 ∨ w = 1 ∨ w = 2 ∨ w = 3 ∨ w = 4 ∨ w = 5 := by omega
  all_goals simp (decide := true) only [nmE, jnE, bn2S, bndS, grdT, stI_22, stL_22, stRow_22, HRm, rfdS T_83, rfdS T_84, rfdS T_85, rfdS T_86, rfdS T_87, rfdS T_88, rfdS T_89, rfdS T_90, rfdS T_91, rfdS T_92, rfdS T_93, rfdS T_94, rfdS T_95, rfdS T_96, SZ_83, SZ_84, SZ_85, SZ_86, SZ_87, SZ_88, SZ_89, SZ_90, SZ_91, SZ_92, SZ_93, SZ_94, SZ_95, SZ_96, reduceIte, Bool.false_eq_true, one_ne0, hM1, e0, e1, e2, e3, inb_nI (show 3 + c < 393 by omega) (by decide), inb_nI (show 10 + c < 393 by omega) (by decide), inb_nI (show 17 + c < 393 by omega) (by decide), inb_nI (show 24 + c < 393 by omega) (by decide), nI_clamp (show 3 + c < 2 ^ 31 by omega), nI_clamp (show 10 + c < 2 ^ 31 by omega), nI_clamp (show 17 + c < 2 ^ 31 by omega), nI_clamp (show 24 + c < 2 ^ 31 by omega), a0, a1, a2, a3, hmm, hq, cf]
theorem X1_questionFact_eq (n : Nat) (H : CX S h C Q T L) {q w : Nat} (hq : q < Q) (hw : w < 6) : F_X1_questionFact n S h (nI q) (nI w) = some (qf L q w) := by
  have hW := H.2.2.2.2
  have h7 := hW.2.1
  have hx := H.2.2.2.1
  have a1 := hx.2.2.2.1 q hq
  have a2 := hx.2.2.2.2.2.2.1 q hq
  have a3 := hx.2.2.2.2.2.2.2.1 q (by omega)
  have hi := inb_nI (show q < 7 by omega) (by decide)
  have hcl : (nI q).toNatClampNeg = q := nI_clamp (by omega)
  unfold F_X1_questionFact
  obtain rfl | rfl | rfl | rfl | rfl | rfl : w = 0 ∨ w = 1 ∨ w = 2 ∨ w = 3 ∨ w = 4 ∨ w = 5 := by omega
  all_goals simp (decide := true) only [nmE, jnE, bn2S, bndS, grdT, stI_22, stL_22, stRow_22, reduceIte, Bool.false_eq_true, one_ne0, H.r2, H.r3, H.r4, H.r5, H.r6, H.s2, H.s3, rfdS (tg3 H.1), rfdS (tg4 H.1), rfdS (tg5 H.1), rfdS (tg6 H.1), rfdS (tg7 H.1), rfdS (tgs3 H.1), rfdS (tgs4 H.1), sg3 H.1, sg4 H.1, sg5 H.1, sg6 H.1, sgs3 H.1, sgs4 H.1, hi, hcl, a1.1, a1.2.1, a1.2.2.1, a1.2.2.2, a2, a3, qf]
theorem PM.qf {v : Nat → Int32} (hm : PM v C Q T L) {q w : Nat} (hQ : Q ≤ 7) (h0 : 0 < C) (hq : q < Q) (hw : w < 6) : v (31 + 7 * w + q) = qf L q w := by
  obtain ⟨a0, a1, a2, a3, a4⟩ := hm.2.2.2.2.1 q hq
  have a5 := hm.2.2.2.2.2.1 q (by omega) h0
  obtain rfl | rfl | rfl | rfl | rfl | rfl : w = 0 ∨ w = 1 ∨ w = 2 ∨ w = 3 ∨ w = 4 ∨ w = 5 := by omega
  · exact a0
  · exact a1
  · exact a2
  · exact a3
  · exact a4
  · exact a5
end Lib3
theorem if10' {p : Prop} [Decidable p] {α : Type} (a b : α) : (if (if p then (1 : Int32) else 0) = 0 then a else b) = if p then b else a := by
  by_cases h : p <;> simp [h]
theorem X0_here {S : aSt} {h d : Nat} {β : Type} (hX : RfX S h d) (f : Nat → Option β) : rfd (S.2.2 0 6) 0 f = f h := by
  rw [hX.2.1]
  exact rfdS (tg0 hX.hd) f
theorem X7_puts_eq (n : Nat) {S : aSt} (hM : RfM S) {k : Nat} (hk : k < 393) (v : Int32) : F_X7_puts n S 82 (nI k) v = some (S.1 87 k, stI S 87 k v) := by
  have hM1 : S.2.2 82 = HRm := hM
  unfold F_X7_puts
  simp only [nmE, jnE, bn2S, bndS, grdT, stI_22, stL_22, stRow_22, HRm, rfdS T_83, rfdS T_84, rfdS T_85, rfdS T_86, rfdS T_87, rfdS T_88, rfdS T_89, rfdS T_90, rfdS T_91, rfdS T_92, rfdS T_93, rfdS T_94, rfdS T_95, rfdS T_96, SZ_83, SZ_84, SZ_85, SZ_86, SZ_87, SZ_88, SZ_89, SZ_90, SZ_91, SZ_92, SZ_93, SZ_94, SZ_95, SZ_96, hM1, inb_nI hk (by decide), nI_clamp (show k < 2 ^ 31 by omega)]
theorem op_card (n : Nat) (hn : 100 < n) {S : aSt} (H : OK S) (c w : Int32) : Both S (F_X6_card n S 0 c w) (fun S1 => F_X7_card n S1 82 c w) := by
  obtain ⟨h, d, C, Q, T, L, hX, hM, hCX, hCM, hk⟩ := H.get
  have e5 := fun S => X7_in_sz n S w (m := 6) (by decide)
  by_cases hc : inb c C = true
  · by_cases hw : inb w 6 = true
    · obtain ⟨c, hc', rfl⟩ := inb_ex hc (by have := hCM.2.2.1; omega)
      obtain ⟨w, hw', rfl⟩ := inb_ex hw (by decide)
      refine Both.tell H (cf L c w) 1 ?_ ?_
      · unfold F_X6_card
        simp only [X0_here hX, X1_isCard_eq n hCX, bndS, if10', reduceIte, Bool.false_eq_true, one_ne0, if_pos hc, if_pos hw, show (6 : Int32) = nI 6 from rfl, if2 (show 6 < 2 ^ 31 by decide), X1_cardFact_eq n (by omega) hCX hc' hw', nmE]
        rfl
      · have hCM1 : CM (xTell S (cf L c w)) C Q T L := hCM.congr rfl (xTell_m (by decide))
        show F_X7_card n (xTell S (cf L c w)) 82 (nI c) (nI w) = _
        unfold F_X7_card
        rw [show (5 : Int64) = (nI 6 - 1).toInt64 from rfl]
        simp only [X7_isCard_eq n hCM1, e5, bndS, if10', reduceIte, Bool.false_eq_true, one_ne0, if_pos hc, if_pos hw, X7_toldCard_eq n (by omega) hCM1 hc' hw', X7_tell_eq, bn2S]
    · refine Both.same H (-1) ?_ ?_
      · unfold F_X6_card
        simp only [X0_here hX, X1_isCard_eq n hCX, bndS, if10', reduceIte, Bool.false_eq_true, one_ne0, if_pos hc, if_neg hw, show (6 : Int32) = nI 6 from rfl, if2 (show 6 < 2 ^ 31 by decide)]
      · unfold F_X7_card
        rw [show (5 : Int64) = (nI 6 - 1).toInt64 from rfl]
        simp only [X7_isCard_eq n hCM, e5, bndS, if10', reduceIte, Bool.false_eq_true, one_ne0, if_pos hc, if_neg hw]
  · refine Both.same H (-1) ?_ ?_
    · unfold F_X6_card
      simp only [X0_here hX, X1_isCard_eq n hCX, bndS, if10', reduceIte, Bool.false_eq_true, one_ne0, if_neg hc]
    · unfold F_X7_card
      simp only [X7_isCard_eq n hCM, bndS, if10', reduceIte, Bool.false_eq_true, one_ne0, if_neg hc]
theorem op_question (n : Nat) {S : aSt} (H : OK S) (q w : Int32) : Both S (F_X6_question n S 0 q w) (fun S1 => F_X7_question n S1 82 q w) := by
  obtain ⟨h, d, C, Q, T, L, hX, hM, hCX, hCM, hk⟩ := H.get
  have e5 := fun S => X7_in_sz n S w (m := 6) (by decide)
  have hQ := hCM.2.2.2.1
  by_cases hc : inb q Q = true
  · by_cases hw : inb w 6 = true
    · obtain ⟨q, hc', rfl⟩ := inb_ex hc (by omega)
      obtain ⟨w, hw', rfl⟩ := inb_ex hw (by decide)
      refine Both.tell H (qf L q w) 1 ?_ ?_
      · unfold F_X6_question
        simp only [X0_here hX, X1_isQuestion_eq n hCX, bndS, if10', reduceIte, Bool.false_eq_true, one_ne0, if_pos hc, if_pos hw, show (6 : Int32) = nI 6 from rfl, if2 (show 6 < 2 ^ 31 by decide), X1_questionFact_eq n hCX hc' hw', nmE]
        rfl
      · have hCM1 : CM (xTell S (qf L q w)) C Q T L := hCM.congr rfl (xTell_m (by decide))
        have hM1 : (xTell S (qf L q w)).2.2 82 = HRm := hM
        have ei : (31 : Int32) + (7 : Int32) * nI w + nI q = nI (31 + 7 * w + q) := by
          rw [li_31, li_7, pk_mul, nI_add, nI_add]
        show F_X7_question n (xTell S (qf L q w)) 82 (nI q) (nI w) = _
        unfold F_X7_question
        rw [show (5 : Int64) = (nI 6 - 1).toInt64 from rfl]
        simp only [nmE, jnE, bn2S, bndS, grdT, stI_22, stL_22, stRow_22, HRm, rfdS T_83, rfdS T_84, rfdS T_85, rfdS T_86, rfdS T_87, rfdS T_88, rfdS T_89, rfdS T_90, rfdS T_91, rfdS T_92, rfdS T_93, rfdS T_94, rfdS T_95, rfdS T_96, SZ_83, SZ_84, SZ_85, SZ_86, SZ_87, SZ_88, SZ_89, SZ_90, SZ_91, SZ_92, SZ_93, SZ_94, SZ_95, SZ_96, X7_isQuestion_eq n hCM1, e5, if10', reduceIte, Bool.false_eq_true, one_ne0, if_pos hc, if_pos hw, hM1, ei, inb_nI (show 31 + 7 * w + q < 393 by omega) (by decide), nI_clamp (show 31 + 7 * w + q < 2 ^ 31 by omega), xTell_m (show 1 ≤ 87 by decide), hCM.2.1.qf hQ (hCM.2.2.pos hc') hc' hw', X7_tell_eq]
    · refine Both.same H (-1) ?_ ?_
      · unfold F_X6_question
        simp only [X0_here hX, X1_isQuestion_eq n hCX, bndS, if10', reduceIte, Bool.false_eq_true, one_ne0, if_pos hc, if_neg hw, show (6 : Int32) = nI 6 from rfl, if2 (show 6 < 2 ^ 31 by decide)]
      · unfold F_X7_question
        rw [show (5 : Int64) = (nI 6 - 1).toInt64 from rfl]
        simp only [X7_isQuestion_eq n hCM, e5, bndS, if10', reduceIte, Bool.false_eq_true, one_ne0, if_pos hc, if_neg hw]
  · refine Both.same H (-1) ?_ ?_
    · unfold F_X6_question
      simp only [X0_here hX, X1_isQuestion_eq n hCX, bndS, if10', reduceIte, Bool.false_eq_true, one_ne0, if_neg hc]
    · unfold F_X7_question
      simp only [X7_isQuestion_eq n hCM, bndS, if10', reduceIte, Bool.false_eq_true, one_ne0, if_neg hc]
