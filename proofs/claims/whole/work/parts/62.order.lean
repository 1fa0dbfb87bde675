/-! order. -/
def km (L : Nat → Nat → Nat) : Nat → Nat
  | 0 => 0
  | c + 1 => km L c ||| 2 ^ L 0 c
theorem km_lt {L : Nat → Nat → Nat} : ∀ {C : Nat}, (∀ c, c < C → L 0 c ≤ 5) → km L C < 2 ^ 6
  | 0, _ => by show 0 < 2 ^ 6; decide
  | C + 1, h => Nat.or_lt_two_pow (km_lt (fun c hc => h c (by omega))) (Nat.pow_lt_pow_right (by decide) (by have := h C (by omega); omega))
theorem km_test (L : Nat → Nat → Nat) (k : Nat) : ∀ C, (km L C).testBit k = true ↔ ∃ c, c < C ∧ L 0 c = k
  | 0 => by simp [km]
  | C + 1 => by
    show (km L C ||| 2 ^ L 0 C).testBit k = true ↔ _
    rw [tb_or]
    by_cases e : k = L 0 C
    · rw [if_pos e]
      simp only [true_iff]
      exact ⟨C, by omega, e.symm⟩
    · rw [if_neg e, km_test L k C]
      constructor
      · rintro ⟨c, h1, h2⟩; exact ⟨c, by omega, h2⟩
      · rintro ⟨c, h1, h2⟩
        rcases Nat.lt_or_ge c C with q | q
        · exact ⟨c, q, h2⟩
        · exact absurd (by rw [← h2, show c = C by omega]) e
def om (a b : Option Nat) : Option Nat := match a, b with
  | none, b => b
  | a, none => a
  | some x, some y => some (max x y)
/-- the most cards that may stay, with t shelves to go and the kinds m still to be given one -/
def mS (f : Nat → Nat → Nat) (M : Nat) : Nat → Nat → Option Nat
  | 0, m => if pcn m ≤ 0 then some 0 else none
  | t + 1, m => if pcn m ≤ t + 1 then itr (fun k acc => if M.testBit k = true then om acc ((mS f M t (m &&& (127 ^^^ 2 ^ k))).map (fun v => v + f k (3 - t))) else acc) none 6 else none
def eo (a : Option Nat) : Int32 := match a with
  | none => -1
  | some v => nI v
def ob (b : Nat) (a : Option Nat) : Prop := ∀ v, a = some v → v ≤ b
theorem om_b {b : Nat} {x y : Option Nat} (hx : ob b x) (hy : ob b y) : ob b (om x y) := by
  intro v h
  cases x with
  | none => exact hy v h
  | some a =>
    cases y with
    | none => exact hx v h
    | some c =>
      have h1 := hx a rfl
      have h2 := hy c rfl
      unfold om at h
      simp at h
      omega
theorem itr_inv {α : Type} {f : Nat → α → α} {a : α} (P : α → Prop) (h0 : P a) {n : Nat} (hs : ∀ i x, i < n → P x → P (f i x)) : ∀ m, m ≤ n → P (itr f a m)
  | 0, _ => h0
  | m + 1, h => hs m _ (by omega) (itr_inv P h0 hs m (by omega))
theorem mS_b {f : Nat → Nat → Nat} {M : Nat} (hf : ∀ k s, f k s ≤ 7) : ∀ t m, ob (7 * t) (mS f M t m)
  | 0, m => by
    intro v h
    unfold mS at h
    split at h
    · simp at h; omega
    · simp at h
  | t + 1, m => by
    unfold mS
    split
    · refine itr_inv (ob (7 * (t + 1))) (fun v h => by simp at h) (n := 6) (fun k x hk hx => ?_) 6 (Nat.le_refl _)
      split
      · refine om_b hx (fun v h => ?_)
        have ih := mS_b (M := M) hf t (m &&& (127 ^^^ 2 ^ k))
        cases e : mS f M t (m &&& (127 ^^^ 2 ^ k)) with
        | none => rw [e] at h; simp at h
        | some u =>
          rw [e] at h
          simp at h
          have := ih u e
          have := hf k (3 - t)
          omega
      · exact hx
    · intro v h; simp at h
theorem mp_b {f : Nat → Nat → Nat} {M : Nat} (hf : ∀ k s, f k s ≤ 7) (t k m : Nat) : ob (7 * (t + 1)) ((mS f M t m).map (fun v => v + f k (3 - t))) := by
  intro v h
  have ih := mS_b (M := M) hf t m
  cases e : mS f M t m with
  | none => rw [e] at h; simp at h
  | some u =>
    rw [e] at h
    simp at h
    have := ih u e
    have := hf k (3 - t)
    omega
theorem m1_nI {x : Nat} (h : x < 2 ^ 31) : (-1 : Int32) < nI x := by
  rw [Int32.lt_iff_toInt_lt, nI_toInt h, show (-1 : Int32).toInt = -1 from rfl]
  omega
section Lib26
variable {S : aSt} {h C Q T : Nat} {L : Nat → Nat → Nat}
theorem s4_dec : ∀ s, s < 5 → (4 : Int32) - nI s = nI (4 - s) := by decide +kernel
theorem X1_mostStaying_eq (n : Nat) (hn : 20 < n) (H : CX S h C Q T L) {M : Nat} (hM : M < 128) : ∀ (t dp s m : Nat), s + t = 4 → t < dp → m < 128 → F_X1_mostStaying_D n dp S h (nI s) (nI M) (nI m) = some (eo (mS (ly L C) M t m)) := by
  have h7 := H.2.2.2.2.1
  have hf : ∀ k s, ly L C k s ≤ 7 := fun k s => Nat.le_trans (ly_le L C k s) h7
  intro t
  induction t with
  | zero =>
    intro dp s m hs hd hm
    obtain ⟨dp, rfl⟩ : ∃ k, dp = k + 1 := ⟨dp - 1, by omega⟩
    have hp := pcn_7 m
    show F_X1_mostStaying_B n (F_X1_mostStaying_D n dp) S h (nI s) (nI M) (nI m) = _
    unfold F_X1_mostStaying_B mS
    rw [J6_bitCount_eq n S hm, bndS, s4_dec s (by omega), show 4 - s = 0 by omega]
    by_cases k : pcn m ≤ 0
    · rw [if_pos (nI_le k (by omega)), if_pos k, if_neg (show ¬ nI s < (4 : Int32) from nI_nlt (a := s) (b := 4) (by omega) (by omega))]
      rfl
    · rw [if_neg (nI_ge (by omega) (by omega)), if_neg k]
      rfl
  | succ t ih =>
    intro dp s m hs hd hm
    obtain ⟨dp, rfl⟩ : ∃ k, dp = k + 1 := ⟨dp - 1, by omega⟩
    have hp := pcn_7 m
    show F_X1_mostStaying_B n (F_X1_mostStaying_D n dp) S h (nI s) (nI M) (nI m) = _
    unfold F_X1_mostStaying_B mS
    rw [J6_bitCount_eq n S hm, bndS, s4_dec s (by omega), show 4 - s = t + 1 by omega]
    by_cases k : pcn m ≤ t + 1
    · rw [if_pos (nI_le k (by omega)), if_pos k, if_pos (show nI s < (4 : Int32) from nI_lt (b := 4) (by omega) (by omega))]
      simp only [jnE]
      have key := lp_eq (fun fu a i => F_X1_mostStaying_L25 n S h (nI s) (nI M) (nI m) (F_X1_mostStaying_D n dp) (fun x => some x) fu a i) (fun x => some x) (fun c => eo (itr (fun k acc => if M.testBit k = true then om acc ((mS (ly L C) M t (m &&& (127 ^^^ 2 ^ k))).map (fun v => v + ly L C k (3 - t))) else acc) none c)) 6 (fun fu => ?_) (fun fu c hc => ?_) 6 0 n (by omega) (by omega)
      · exact key
      · show F_X1_mostStaying_L25 _ _ _ _ _ _ _ _ (fu + 1) _ _ = _
        rw [F_X1_mostStaying_L25, if_pos (by decide)]
      · show F_X1_mostStaying_L25 _ _ _ _ _ _ _ _ (fu + 1) _ _ = F_X1_mostStaying_L25 _ _ _ _ _ _ _ _ fu (eo (if M.testBit c = true then om (itr (fun k acc => if M.testBit k = true then om acc ((mS (ly L C) M t (m &&& (127 ^^^ 2 ^ k))).map (fun v => v + ly L C k (3 - t))) else acc) none c) ((mS (ly L C) M t (m &&& (127 ^^^ 2 ^ c))).map (fun v => v + ly L C c (3 - t))) else (itr (fun k acc => if M.testBit k = true then om acc ((mS (ly L C) M t (m &&& (127 ^^^ 2 ^ k))).map (fun v => v + ly L C k (3 - t))) else acc) none c))) _
        have hob : ob (7 * (t + 1)) (itr (fun k acc => if M.testBit k = true then om acc ((mS (ly L C) M t (m &&& (127 ^^^ 2 ^ k))).map (fun v => v + ly L C k (3 - t))) else acc) none c) := itr_inv (ob (7 * (t + 1))) (fun v h => by simp at h) (n := 6) (fun k x hk hx => by
          split
          · exact om_b hx (mp_b hf t k _)
          · exact hx) c (by omega)
        generalize itr (fun k acc => if M.testBit k = true then om acc ((mS (ly L C) M t (m &&& (127 ^^^ 2 ^ k))).map (fun v => v + ly L C k (3 - t))) else acc) none c = acc at hob ⊢
        have h2 : 2 ^ c < 128 := Nat.pow_lt_pow_right (n := 7) (by decide) (by omega)
        have hm' : m &&& (127 ^^^ 2 ^ c) < 128 := Nat.lt_of_le_of_lt Nat.and_le_left hm
        have e1 := ih dp (s + 1) (m &&& (127 ^^^ 2 ^ c)) (by omega) (by omega) hm'
        have hbs := mS_b (M := M) hf t (m &&& (127 ^^^ 2 ^ c))
        rw [show 3 - t = s by omega]
        rw [F_X1_mostStaying_L25, if_neg (show ¬ (6 : Int32) ≤ nI c from nI_ge hc (by decide)), shl1 c (by omega), nI_1 s, cp_dec m hm _ h2, e1, nI_1 c]
        simp only [nmE, jnE, bn2S, bndS, grdT, stI_22, stL_22, stRow_22, X1_cardsOfOn_eq n (show 10 < n by omega) H (show c < 2 ^ 31 by omega) (show s < 2 ^ 31 by omega)]
        by_cases kb : M.testBit c = true
        · rw [if_neg (by rw [fa_bit (by omega), kb]; decide), if_pos kb]
          cases e : mS (ly L C) M t (m &&& (127 ^^^ 2 ^ c)) with
          | none =>
            rw [if_pos (show eo none = -1 from rfl)]
            cases acc <;> rfl
          | some u =>
            have hu := hbs u e
            have hl := hf c s
            rw [if_neg (show ¬ eo (some u) = -1 from nI_nm1 (by omega))]
            show F_X1_mostStaying_L25 _ _ _ _ _ _ _ _ fu (if eo acc < nI u + nI (ly L C c s) then nI u + nI (ly L C c s) else eo acc) _ = _
            rw [nI_add]
            congr 1
            cases acc with
            | none =>
              rw [if_pos (show eo none < nI (u + ly L C c s) from m1_nI (by omega))]
              rfl
            | some a =>
              have ha := hob a rfl
              show (if nI a < nI (u + ly L C c s) then nI (u + ly L C c s) else nI a) = nI (max a (u + ly L C c s))
              by_cases q : a < u + ly L C c s
              · rw [if_pos (nI_lt q (by omega)), Nat.max_eq_right (by omega)]
              · rw [if_neg (nI_nlt (by omega) (by omega)), Nat.max_eq_left (by omega)]
        · rw [if_pos (by rw [fa_bit (by omega)]; simpa using kb), if_neg kb]
    · rw [if_neg (nI_ge (by omega) (by omega)), if_neg k]
      rfl
end Lib26
/-! what mS is: the largest sum over the assignments that cover m -/
def fe (M t m : Nat) (d : Nat → Nat) : Prop := (∀ s, 4 - t ≤ s → s < 4 → M.testBit (d s) = true) ∧ ∀ k, k < 7 → m.testBit k = true → ∃ s, 4 - t ≤ s ∧ s < 4 ∧ d s = k
def sd (f : Nat → Nat → Nat) (d : Nat → Nat) : Nat → Nat
  | 0 => 0
  | t + 1 => sd f d t + f (d (3 - t)) (3 - t)
theorem om_none {a : Option Nat} : om a none = a := by cases a <;> rfl
theorem fold_get {p : Nat → Bool} {g : Nat → Option Nat} {v : Nat} : ∀ c, itr (fun k acc => if p k = true then om acc (g k) else acc) none c = some v → ∃ k, k < c ∧ p k = true ∧ g k = some v
  | 0, h => by simp [itr] at h
  | c + 1, h => by
    have h' : (if p c = true then om (itr (fun k acc => if p k = true then om acc (g k) else acc) none c) (g c) else itr (fun k acc => if p k = true then om acc (g k) else acc) none c) = some v := h
    have ih := fold_get (p := p) (g := g) (v := v) c
    generalize itr (fun k acc => if p k = true then om acc (g k) else acc) none c = a at h' ih
    by_cases q : p c = true
    · rw [if_pos q] at h'
      cases e : g c with
      | none =>
        rw [e, om_none] at h'
        obtain ⟨k, k1, k2⟩ := ih h'
        exact ⟨k, by omega, k2⟩
      | some y =>
        rw [e] at h'
        cases a with
        | none => exact ⟨c, by omega, q, by rw [e]; exact h'⟩
        | some x =>
          simp [om] at h'
          by_cases z : x ≤ y
          · exact ⟨c, by omega, q, by rw [e]; congr 1; omega⟩
          · obtain ⟨k, k1, k2⟩ := ih (by congr 1; omega)
            exact ⟨k, by omega, k2⟩
    · rw [if_neg q] at h'
      obtain ⟨k, k1, k2⟩ := ih h'
      exact ⟨k, by omega, k2⟩
theorem fold_ge {p : Nat → Bool} {g : Nat → Option Nat} {k x : Nat} (hp : p k = true) (hg : g k = some x) : ∀ c, k < c → ∃ v, itr (fun k acc => if p k = true then om acc (g k) else acc) none c = some v ∧ x ≤ v
  | 0, h => by omega
  | c + 1, h => by
    show ∃ v, (if p c = true then om (itr (fun k acc => if p k = true then om acc (g k) else acc) none c) (g c) else itr (fun k acc => if p k = true then om acc (g k) else acc) none c) = some v ∧ x ≤ v
    by_cases e : k = c
    · subst e
      rw [if_pos hp, hg]
      generalize itr (fun k acc => if p k = true then om acc (g k) else acc) none k = a
      cases a with
      | none => exact ⟨x, rfl, Nat.le_refl _⟩
      | some y => exact ⟨max y x, rfl, by omega⟩
    · obtain ⟨v, v1, v2⟩ := fold_ge hp hg c (by omega)
      rw [v1]
      by_cases q : p c = true
      · rw [if_pos q]
        cases g c with
        | none => exact ⟨v, rfl, v2⟩
        | some y => exact ⟨max v y, rfl, by omega⟩
      · rw [if_neg q]; exact ⟨v, rfl, v2⟩
theorem sd_congr {f : Nat → Nat → Nat} {d d' : Nat → Nat} : ∀ t, t ≤ 4 → (∀ s, 4 - t ≤ s → s < 4 → d s = d' s) → sd f d t = sd f d' t
  | 0, _, _ => rfl
  | t + 1, ht, h => by
    show sd f d t + f (d (3 - t)) (3 - t) = sd f d' t + f (d' (3 - t)) (3 - t)
    rw [sd_congr t (by omega) (fun s h1 h2 => h s (by omega) h2), h (3 - t) (by omega) (by omega)]
theorem tb_clr {m k i : Nat} (hi : i < 7) : (m &&& (127 ^^^ 2 ^ k)).testBit i = (m.testBit i && !decide (i = k)) := by
  rw [Nat.testBit_and, Nat.testBit_xor, tb127 i hi, Nat.testBit_two_pow]
  by_cases e : i = k
  · simp [e]
  · have : ¬ k = i := fun z => e z.symm
    simp [e, this]
theorem mS_sound {f : Nat → Nat → Nat} {M : Nat} : ∀ t m v, t ≤ 4 → m < 128 → mS f M t m = some v → ∃ d, fe M t m d ∧ sd f d t = v
  | 0, m, v, _, hm, h => by
    unfold mS at h
    split at h
    · refine ⟨fun _ => 0, ⟨fun s h1 h2 => by omega, fun k hk hb => ?_⟩, by simpa [sd] using h⟩
      rename_i q
      have := fb_ct_zero.mp (show fb_ct (fun i => m.testBit i) 7 = 0 by unfold pcn at q; omega) k hk
      rw [hb] at this; cases this
    · cases h
  | t + 1, m, v, ht, hm, h => by
    unfold mS at h
    split at h
    · obtain ⟨k, hk, hb, hg⟩ := fold_get (p := fun k => M.testBit k) (g := fun k => (mS f M t (m &&& (127 ^^^ 2 ^ k))).map (fun v => v + f k (3 - t))) 6 h
      cases e : mS f M t (m &&& (127 ^^^ 2 ^ k)) with
      | none => rw [e] at hg; cases hg
      | some u =>
        rw [e] at hg
        simp only [Option.map_some, Option.some.injEq] at hg
        obtain ⟨d, d1, d2⟩ := mS_sound t _ u (by omega) (Nat.lt_of_le_of_lt Nat.and_le_left hm) e
        refine ⟨fun s => if s = 3 - t then k else d s, ⟨fun s h1 h2 => ?_, fun i hi hmi => ?_⟩, ?_⟩
        · dsimp only
          split
          · exact hb
          · exact d1.1 s (by omega) h2
        · by_cases z : i = k
          · exact ⟨3 - t, by omega, by omega, by rw [z]; exact if_pos rfl⟩
          · obtain ⟨s, s1, s2, s3⟩ := d1.2 i hi (by rw [tb_clr hi, hmi]; simp [z])
            exact ⟨s, by omega, s2, by rw [← s3]; exact if_neg (by omega)⟩
        · show sd f _ t + f (if 3 - t = 3 - t then k else d (3 - t)) (3 - t) = v
          rw [if_pos rfl, sd_congr t (by omega) (d' := d) (fun s h1 h2 => if_neg (by omega)), d2]
          exact hg
    · cases h
theorem mS_pc {f : Nat → Nat → Nat} {M t m v : Nat} (h : mS f M t m = some v) : pcn m ≤ t := by
  cases t with
  | zero =>
    unfold mS at h
    split at h
    · assumption
    · cases h
  | succ t =>
    unfold mS at h
    split at h
    · assumption
    · cases h
theorem pcn_one (m k : Nat) : pcn (m &&& 2 ^ k) ≤ 1 := by
  have := fb_ct_sub (n := 7) (p := fun i => (m &&& 2 ^ k).testBit i) (q := fun i => decide (i = k)) (fun i _ h => by
    rw [Nat.testBit_and, Nat.testBit_two_pow] at h
    simp at h
    simp [h.2])
  rw [ct_at] at this
  unfold pcn
  split at this <;> omega
theorem mS_compl {f : Nat → Nat → Nat} {M : Nat} (hM : ∀ k, M.testBit k = true → k < 6) : ∀ t m d, t ≤ 4 → m < 128 → fe M t m d → ∃ v, mS f M t m = some v ∧ sd f d t ≤ v
  | 0, m, d, _, hm, h => by
    have : pcn m = 0 := fb_ct_zero.mpr fun i hi => by
      cases e : m.testBit i
      · rfl
      · obtain ⟨s, s1, s2, -⟩ := h.2 i hi e; omega
    exact ⟨0, by unfold mS; rw [if_pos (by omega)], Nat.le_refl _⟩
  | t + 1, m, d, ht, hm, h => by
    have hb := h.1 (3 - t) (by omega) (by omega)
    have hk := hM _ hb
    obtain ⟨u, u1, u2⟩ := mS_compl (f := f) hM t (m &&& (127 ^^^ 2 ^ d (3 - t))) d (by omega) (Nat.lt_of_le_of_lt Nat.and_le_left hm) ⟨fun s h1 h2 => h.1 s (by omega) h2, fun i hi hmi => by
      rw [tb_clr hi] at hmi
      simp at hmi
      obtain ⟨s, s1, s2, s3⟩ := h.2 i hi hmi.1
      refine ⟨s, ?_, s2, s3⟩
      rcases Nat.lt_or_ge s (4 - t) with q | q
      · exact absurd (by rw [← s3, show s = 3 - t by omega]) hmi.2
      · exact q⟩
    have p1 := mS_pc u1
    have p2 := pcn_part m (2 ^ d (3 - t))
    have p3 := pcn_one m (d (3 - t))
    obtain ⟨v, v1, v2⟩ := fold_ge (p := fun k => M.testBit k) (g := fun k => (mS f M t (m &&& (127 ^^^ 2 ^ k))).map (fun v => v + f k (3 - t))) (k := d (3 - t)) (x := u + f (d (3 - t)) (3 - t)) hb (by rw [u1]; rfl) 6 hk
    refine ⟨v, ?_, ?_⟩
    · unfold mS
      rw [if_pos (by omega)]
      exact v1
    · show sd f d t + f (d (3 - t)) (3 - t) ≤ v
      omega
