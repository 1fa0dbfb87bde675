/-! What holds between two calls: class and reference hold the same. -/
theorem lp_eq {α β : Type} (L : Nat → α → Int32 → Option β) (K : α → Option β) (g : Nat → α) (C : Nat) (hx : ∀ fu, L (fu + 1) (g C) (nI C) = K (g C)) (hs : ∀ fu c, c < C → L (fu + 1) (g c) (nI c) = L fu (g (c + 1)) (nI (c + 1))) : ∀ (m c fu : Nat), c + m = C → m < fu → L fu (g c) (nI c) = K (g C) := by
  intro m
  induction m with
  | zero =>
    intro c fu hc hf
    obtain ⟨fu', rfl⟩ : ∃ k, fu = k + 1 := ⟨fu - 1, by omega⟩
    have : c = C := by omega
    subst this
    exact hx _
  | succ m ih =>
    intro c fu hc hf
    obtain ⟨fu', rfl⟩ : ∃ k, fu = k + 1 := ⟨fu - 1, by omega⟩
    rw [hs fu' c (by omega)]
    exact ih (c + 1) fu' (by omega) (by omega)
def en (x : Nat) : Int32 := if x = 99 then -9 else nI x
def AnsOK (C Q : Nat) (a : Nat → Nat) : Prop := ∀ q, q < 7 → a q = 99 ∨ (q < Q ∧ a q < C ∧ ∀ p, p < 7 → a p = a q → p = q)
/-- a library: 0 kinds, 1 says, 2 shelves, 3 ages, 4 asks, 5 from, 6 to, 7 wished, 8 truths (99: none), 9 answers (99: none), 10 takings, 11 answers ahead -/
def WL (C Q T : Nat) (L : Nat → Nat → Nat) : Prop := C ≤ 7 ∧ Q ≤ 7 ∧ T ≤ 40 ∧ (C = 0 → Q = 0 ∧ T = 0) ∧ (∀ c, c < C → L 0 c ≤ 5 ∧ L 1 c ≤ 9 ∧ L 2 c ≤ 3 ∧ L 3 c ≤ 9) ∧ (∀ q, q < Q → L 4 q ≤ 5 ∧ L 5 q ≤ L 6 q ∧ L 6 q ≤ 9 ∧ 1 ≤ L 7 q ∧ L 7 q ≤ 9 ∧ (L 8 q = 99 ∨ L 8 q ≤ 9)) ∧ AnsOK C Q (L 9) ∧ ∀ t, t < T → L 10 t ≤ 66 ∧ AnsOK C Q (fun q => L 11 (7 * t + q))
theorem WL.pos {C Q T : Nat} {L : Nat → Nat → Nat} (H : WL C Q T L) {q : Nat} (hq : q < Q) : 0 < C := by
  rcases Nat.eq_zero_or_pos C with z | z
  · have := (H.2.2.2.1 z).1
    omega
  · exact z
def PM (v : Nat → Int32) (C Q T : Nat) (L : Nat → Nat → Nat) : Prop := v 0 = nI C ∧ v 1 = nI Q ∧ v 2 = nI T ∧ (∀ c, c < C → v (3 + c) = nI (L 0 c) ∧ v (10 + c) = nI (L 1 c) ∧ v (17 + c) = nI (L 2 c) ∧ v (24 + c) = nI (L 3 c)) ∧ (∀ q, q < Q → v (31 + q) = nI (L 4 q) ∧ v (38 + q) = nI (L 5 q) ∧ v (45 + q) = nI (L 6 q) ∧ v (52 + q) = nI (L 7 q) ∧ v (59 + q) = en (L 8 q)) ∧ (∀ q, q < 7 → 0 < C → v (66 + q) = en (L 9 q)) ∧ ∀ t, t < T → v (73 + t) = nI (L 10 t) ∧ ∀ q, q < 7 → v (113 + (7 * t + q)) = en (L 11 (7 * t + q))
def PS (S : aSt) (s C Q T : Nat) (L : Nat → Nat → Nat) : Prop := S.1 s 6 = nI T ∧ (∀ c, c < C → S.1 (s + 1) c = nI (L 2 c) ∧ S.1 (s + 2) c = nI (L 3 c)) ∧ (∀ q, q < Q → S.1 (s + 3) q = en (L 8 q)) ∧ (∀ q, q < 7 → S.1 (s + 4) q = en (L 9 q)) ∧ ∀ t, t < T → S.1 (s + 5) t = nI (L 10 t) ∧ ∀ q, q < 7 → S.1 (s + 6) (7 * t + q) = en (L 11 (7 * t + q))
def PX (S : aSt) (h C Q T : Nat) (L : Nat → Nat → Nat) : Prop := S.1 h 7 = nI C ∧ S.1 h 8 = nI Q ∧ (∀ c, c < C → S.1 (h + 1) c = nI (L 0 c) ∧ S.1 (h + 2) c = nI (L 1 c)) ∧ (∀ q, q < Q → S.1 (h + 3) q = nI (L 4 q) ∧ S.1 (h + 4) q = nI (L 5 q) ∧ S.1 (h + 5) q = nI (L 6 q) ∧ S.1 (h + 6) q = nI (L 7 q)) ∧ PS S (h + 7) C Q T L
def PK (S : aSt) (C Q : Nat) (L : Nat → Nat → Nat) : Prop := ∀ k, k < 3 → (S.1 89 k = 0 ∧ S.1 (61 + 7 * k) 6 = -1) ∨ (S.1 89 k = 1 ∧ 0 < C ∧ ∃ (T' : Nat) (L' : Nat → Nat → Nat), WL C Q T' L' ∧ (∀ i, L' 0 i = L 0 i ∧ L' 1 i = L 1 i ∧ L' 4 i = L 4 i ∧ L' 5 i = L 5 i ∧ L' 6 i = L 6 i ∧ L' 7 i = L 7 i) ∧ PS S (61 + 7 * k) C Q T' L' ∧ PM (fun i => S.1 88 (393 * k + i)) C Q T' L')
def PA (S : aSt) : Prop := S.1 0 8 = S.1 82 7 ∧ S.1 0 11 = S.1 82 10 ∧ (∀ f, f < 6 → S.1 4 f = S.1 90 f) ∧ S.2.1 0 9 = S.2.1 82 8 ∧ S.2.1 0 10 = S.2.1 82 9
def PR (S : aSt) : Prop := ∀ r, r < 6 → S.1 (41 + 2 * r) 1 = S.1 83 r ∧ (S.1 83 r = -1 ∨ ∃ m, m ≤ 40 ∧ S.1 83 r = nI m ∧ ∀ i, i < m → S.1 (41 + 2 * r + 1) i = S.1 84 (40 * r + i))
def PT (S : aSt) : Prop := ∀ r, r < 4 → S.1 (53 + 2 * r) 1 = S.1 85 r ∧ (S.1 85 r = -1 ∨ ∃ m, m ≤ 80 ∧ S.1 85 r = nI m ∧ ∀ i, i < m → S.1 (53 + 2 * r + 1) i = S.1 86 (80 * r + i))
def OK (S : aSt) : Prop := ∃ h d, RfX S h d ∧ RfM S ∧ PA S ∧ PR S ∧ PT S ∧ ∃ (C Q T : Nat) (L : Nat → Nat → Nat), WL C Q T L ∧ PX S h C Q T L ∧ PM (S.1 87) C Q T L ∧ PK S C Q L
theorem RfX.hd {S : aSt} {h d : Nat} (H : RfX S h d) : h = 13 ∨ h = 27 := by rcases H.1 with ⟨a, _⟩ | ⟨a, _⟩ <;> simp [a]
theorem PS.congr {S S' : aSt} {s C Q T : Nat} {L : Nat → Nat → Nat} (e : ∀ k, s ≤ k → k ≤ s + 6 → S'.1 k = S.1 k) (H : PS S s C Q T L) : PS S' s C Q T L := by
  unfold PS at *
  rw [e s (by omega) (by omega), e (s + 1) (by omega) (by omega), e (s + 2) (by omega) (by omega), e (s + 3) (by omega) (by omega), e (s + 4) (by omega) (by omega), e (s + 5) (by omega) (by omega), e (s + 6) (by omega) (by omega)]
  exact H
theorem PX.congr {S S' : aSt} {h C Q T : Nat} {L : Nat → Nat → Nat} (e : ∀ k, h ≤ k → k ≤ h + 13 → S'.1 k = S.1 k) (H : PX S h C Q T L) : PX S' h C Q T L := by
  obtain ⟨h1, h2, h3, h4, h5⟩ := H
  refine ⟨?_, ?_, ?_, ?_, h5.congr (fun k a b => e k (by omega) (by omega))⟩
  · rw [e h (by omega) (by omega)]; exact h1
  · rw [e h (by omega) (by omega)]; exact h2
  · rw [e (h + 1) (by omega) (by omega), e (h + 2) (by omega) (by omega)]; exact h3
  · rw [e (h + 3) (by omega) (by omega), e (h + 4) (by omega) (by omega), e (h + 5) (by omega) (by omega), e (h + 6) (by omega) (by omega)]; exact h4
theorem PK.congr {S S' : aSt} {C Q : Nat} {L : Nat → Nat → Nat} (e : ∀ k, (61 ≤ k ∧ k ≤ 81) ∨ k = 88 ∨ k = 89 → S'.1 k = S.1 k) (H : PK S C Q L) : PK S' C Q L := by
  intro k hk
  rw [e 89 (by omega), e (61 + 7 * k) (by omega), e 88 (by omega)]
  rcases H k hk with h | ⟨h1, h2, T', L', h3, h4, h5, h6⟩
  · exact Or.inl h
  · exact Or.inr ⟨h1, h2, T', L', h3, h4, h5.congr (fun j a b => e j (by omega)), h6⟩
theorem PR.congr {S S' : aSt} (e : ∀ k, (41 ≤ k ∧ k ≤ 52) ∨ k = 83 ∨ k = 84 → S'.1 k = S.1 k) (H : PR S) : PR S' := by
  intro r hr
  rw [e (41 + 2 * r) (by omega), e 83 (by omega), e (41 + 2 * r + 1) (by omega), e 84 (by omega)]
  exact H r hr
theorem PT.congr {S S' : aSt} (e : ∀ k, (53 ≤ k ∧ k ≤ 60) ∨ k = 85 ∨ k = 86 → S'.1 k = S.1 k) (H : PT S) : PT S' := by
  intro r hr
  rw [e (53 + 2 * r) (by omega), e 85 (by omega), e (53 + 2 * r + 1) (by omega), e 86 (by omega)]
  exact H r hr
/-- only scalars and findings, and what is used anew at each call, have changed -/
theorem OK.keep {S S' : aSt} (H : OK S) (e : ∀ k, (13 ≤ k ∧ k ≤ 81) ∨ (83 ≤ k ∧ k ≤ 89) → S'.1 k = S.1 k) (er : S'.2.2 = S.2.2) (hA : PA S') : OK S' := by
  obtain ⟨h, d, hX, hM, -, hR, hT, C, Q, T, L, hw, hx, hm, hk⟩ := H
  refine ⟨h, d, ?_, ?_, hA, hR.congr (fun k q => e k (by omega)), hT.congr (fun k q => e k (by omega)), C, Q, T, L, hw, hx.congr (fun k a b => e k ?_), ?_, hk.congr (fun k q => e k (by omega))⟩
  · unfold RfX at *; rw [er]; exact hX
  · unfold RfM at *; rw [er]; exact hM
  · rcases hX.hd with rfl | rfl <;> omega
  · rw [e 87 (by omega)]; exact hm
theorem OK.pa {S : aSt} (H : OK S) : PA S := by obtain ⟨h, d, -, -, h1, -⟩ := H; exact h1
/-! telling and finding -/
def xFnd (S : aSt) (f : Nat) : aSt := stI (stI S 0 11 (nI f)) 4 f (S.1 4 f + 1)
def mFnd (S : aSt) (f : Nat) : aSt := stI (stI S 82 10 (nI f)) 90 f (S.1 90 f + 1)
def xTell (S : aSt) (v : Int32) : aSt := stI S 0 8 v
def mTell (S : aSt) (v : Int32) : aSt := stI S 82 7 v
theorem X6_found_eq (n : Nat) {S : aSt} {h d f : Nat} (H : RfX S h d) (hf : f < 6) : F_X6_found n S 0 (nI f) = some (-3, xFnd S f) := by
  unfold F_X6_found xFnd
  simp only [nmE, jnE, bn2S, bndS, grdT, stI_22, stL_22, stRow_22, HR0, rfdS T_1, rfdS T_2, rfdS T_3, rfdS T_4, rfdS T_5, rfdS T_9, SZ_1, SZ_2, SZ_3, SZ_4, H.2.1, inb_nI hf (by decide), nI_clamp (show f < 2 ^ 31 by omega), stI_at]
  simp
theorem X7_found_eq (n : Nat) {S : aSt} {f : Nat} (H : RfM S) (hf : f < 6) : F_X7_found n S 82 (nI f) = some (-3, mFnd S f) := by
  unfold RfM at H
  unfold F_X7_found mFnd
  simp only [nmE, jnE, bn2S, bndS, grdT, stI_22, stL_22, stRow_22, HRm, rfdS T_83, rfdS T_84, rfdS T_85, rfdS T_86, rfdS T_87, rfdS T_88, rfdS T_89, rfdS T_90, rfdS T_91, rfdS T_92, rfdS T_93, rfdS T_94, rfdS T_95, rfdS T_96, SZ_83, SZ_84, SZ_85, SZ_86, SZ_87, SZ_88, SZ_89, SZ_90, SZ_91, SZ_92, SZ_93, SZ_94, SZ_95, SZ_96, H, inb_nI hf (by decide), nI_clamp (show f < 2 ^ 31 by omega), stI_at]
  simp
theorem X7_tell_eq (n : Nat) (S : aSt) (v : Int32) : F_X7_tell n S 82 v = some (1, mTell S v) := rfl
theorem RfM_xFnd {S : aSt} {f : Nat} (H : RfM S) : RfM (xFnd S f) := H
theorem OK.fnd {S : aSt} (H : OK S) {f : Nat} (hf : f < 6) : OK (mFnd (xFnd S f) f) := by
  refine H.keep (fun k q => ?_) rfl ?_
  · unfold mFnd xFnd
    rw [stI_ne (by omega), stI_ne (by omega), stI_ne (by omega), stI_ne (by omega)]
  · obtain ⟨h1, h2, h3, h4, h5⟩ := H.pa
    refine ⟨?_, ?_, fun g hg => ?_, h4, h5⟩
    · simp [mFnd, xFnd, stI_at, h1]
    · simp [mFnd, xFnd, stI_at]
    · simp [mFnd, xFnd, stI_at, h3 g hg, h3 f hf]
theorem OK.tell {S : aSt} (H : OK S) (v : Int32) : OK (mTell (xTell S v) v) := by
  refine H.keep (fun k q => ?_) rfl ?_
  · unfold mTell xTell
    rw [stI_ne (by omega), stI_ne (by omega)]
  · obtain ⟨h1, h2, h3, h4, h5⟩ := H.pa
    refine ⟨?_, ?_, fun g hg => ?_, h4, h5⟩
    · simp [mTell, xTell, stI_at]
    · simp [mTell, xTell, stI_at, h2]
    · simp [mTell, xTell, stI_at, h3 g hg]
/-- both do the same call: the same answer, and what holds between calls holds again -/
def Both (S : aSt) (fx : Option (Int32 × aSt)) (fm : aSt → Option (Int32 × aSt)) : Prop := ∃ r S1 S2, fx = some (r, S1) ∧ fm S1 = some (r, S2) ∧ OK S2
theorem Both.same {S : aSt} (H : OK S) {fx : Option (Int32 × aSt)} {fm : aSt → Option (Int32 × aSt)} (r : Int32) (h1 : fx = some (r, S)) (h2 : fm S = some (r, S)) : Both S fx fm := ⟨r, S, S, h1, h2, H⟩
theorem Both.fnd {S : aSt} (H : OK S) {fx : Option (Int32 × aSt)} {fm : aSt → Option (Int32 × aSt)} (f : Nat) (hf : f < 6) (h1 : fx = some (-3, xFnd S f)) (h2 : fm (xFnd S f) = some (-3, mFnd (xFnd S f) f)) : Both S fx fm := ⟨_, _, _, h1, h2, H.fnd hf⟩
theorem Both.tell {S : aSt} (H : OK S) {fx : Option (Int32 × aSt)} {fm : aSt → Option (Int32 × aSt)} (v r : Int32) (h1 : fx = some (r, xTell S v)) (h2 : fm (xTell S v) = some (r, mTell (xTell S v) v)) : Both S fx fm := ⟨_, _, _, h1, h2, H.tell v⟩
/-! the model's cells behind what the class has told or found -/
theorem xFnd_m {S : aSt} {f k : Nat} (h : 5 ≤ k) : (xFnd S f).1 k = S.1 k := by
  unfold xFnd
  rw [stI_ne (by omega), stI_ne (by omega)]
theorem xTell_m {S : aSt} {v : Int32} {k : Nat} (h : 1 ≤ k) : (xTell S v).1 k = S.1 k := by
  unfold xTell
  rw [stI_ne (by omega)]
