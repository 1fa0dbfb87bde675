/-! order. -/
def km (L : Nat → Nat → Nat) : Nat → Nat
  | 0 => 0
  | c + 1 => km L c ||| 2 ^ L 0 c
theorem km_lt {L : Nat → Nat → Nat} : ∀ {C : Nat}, (∀ c, c < C → L 0 c ≤ 5) → km L C < 2 ^ 6
  | 0, _ => by show 0 < 2 ^ 6; decide
  | C + 1, h => Nat.or_lt_two_pow (km_lt (fun c hc => h c (by omega))) (Nat.pow_lt_pow_right (by decide) (by have := h C (by omega); omega))
theorem km_test (L : Nat → Nat → Nat) (k : Nat) : ∀ C, (km L C).testBit k = true ↔ ∃ c, c < C ∧ L 0 c = k
  | 0 => by simp [km]
  | C + 1 => by
    show (km L C ||| 2 ^ L 0 C).testBit k = true ↔ _
    rw [tb_or]
    by_cases e : k = L 0 C
    · rw [if_pos e]
      simp only [true_iff]
      exact ⟨C, by omega, e.symm⟩
    · rw [if_neg e, km_test L k C]
      constructor
      · rintro ⟨c, h1, h2⟩; exact ⟨c, by omega, h2⟩
      · rintro ⟨c, h1, h2⟩
        rcases Nat.lt_or_ge c C with q | q
        · exact ⟨c, q, h2⟩
        · exact absurd (by rw [← h2, show c = C by omega]) e
def om (a b : Option Nat) : Option Nat := match a, b with
  | none, b => b
  | a, none => a
  | some x, some y => some (max x y)
/-- the most cards that may stay, with t shelves to go and the kinds m still to be given one -/
def mS (f : Nat → Nat → Nat) (M : Nat) : Nat → Nat → Option Nat
  | 0, m => if pcn m ≤ 0 then some 0 else none
  | t + 1, m => if pcn m ≤ t + 1 then itr (fun k acc => if M.testBit k = true then om acc ((mS f M t (m &&& (127 ^^^ 2 ^ k))).map (fun v => v + f k (3 - t))) else acc) none 6 else none
def eo (a : Option Nat) : Int32 := match a with
  | none => -1
  | some v => nI v
def ob (b : Nat) (a : Option Nat) : Prop := ∀ v, a = some v → v ≤ b
theorem om_b {b : Nat} {x y : Option Nat} (hx : ob b x) (hy : ob b y) : ob b (om x y) := by
  intro v h
  cases x with
  | none => exact hy v h
  | some a =>
    cases y with
    | none => exact hx v h
    | some c =>
      have h1 := hx a rfl
      have h2 := hy c rfl
      unfold om at h
      simp at h
      omega
theorem itr_inv {α : Type} {f : Nat → α → α} {a : α} (P : α → Prop) (h0 : P a) {n : Nat} (hs : ∀ i x, i < n → P x → P (f i x)) : ∀ m, m ≤ n → P (itr f a m)
  | 0, _ => h0
  | m + 1, h => hs m _ (by omega) (itr_inv P h0 hs m (by omega))
theorem mS_b {f : Nat → Nat → Nat} {M : Nat} (hf : ∀ k s, f k s ≤ 7) : ∀ t m, ob (7 * t) (mS f M t m)
  | 0, m => by
    intro v h
    unfold mS at h
    split at h
    · simp at h; omega
    · simp at h
  | t + 1, m => by
    unfold mS
    split
    · refine itr_inv (ob (7 * (t + 1))) (fun v h => by simp at h) (n := 6) (fun k x hk hx => ?_) 6 (Nat.le_refl _)
      split
      · refine om_b hx (fun v h => ?_)
        have ih := mS_b (M := M) hf t (m &&& (127 ^^^ 2 ^ k))
        cases e : mS f M t (m &&& (127 ^^^ 2 ^ k)) with
        | none => rw [e] at h; simp at h
        | some u =>
          rw [e] at h
          simp at h
          have := ih u e
          have := hf k (3 - t)
          omega
      · exact hx
    · intro v h; simp at h
theorem mp_b {f : Nat → Nat → Nat} {M : Nat} (hf : ∀ k s, f k s ≤ 7) (t k m : Nat) : ob (7 * (t + 1)) ((mS f M t m).map (fun v => v + f k (3 - t))) := by
  intro v h
  have ih := mS_b (M := M) hf t m
  cases e : mS f M t m with
  | none => rw [e] at h; simp at h
  | some u =>
    rw [e] at h
    simp at h
    have := ih u e
    have := hf k (3 - t)
    omega
theorem m1_nI {x : Nat} (h : x < 2 ^ 31) : (-1 : Int32) < nI x := by
  rw [Int32.lt_iff_toInt_lt, nI_toInt h, show (-1 : Int32).toInt = -1 from rfl]
  omega
section Lib26
variable {S : aSt} {h C Q T : Nat} {L : Nat → Nat → Nat}
theorem s4_dec : ∀ s, s < 5 → (4 : Int32) - nI s = nI (4 - s) := by decide +kernel
theorem X1_mostStaying_eq (n : Nat) (hn : 20 < n) (H : CX S h C Q T L) {M : Nat} (hM : M < 128) : ∀ (t dp s m : Nat), s + t = 4 → t < dp → m < 128 → F_X1_mostStaying_D n dp S h (nI s) (nI M) (nI m) = some (eo (mS (ly L C) M t m)) := by
  have h7 := H.2.2.2.2.1
  have hf : ∀ k s, ly L C k s ≤ 7 := fun k s => Nat.le_trans (ly_le L C k s) h7
  intro t
  induction t with
  | zero =>
    intro dp s m hs hd hm
    obtain ⟨dp, rfl⟩ : ∃ k, dp = k + 1 := ⟨dp - 1, by omega⟩
    have hp := pcn_7 m
    show F_X1_mostStaying_B n (F_X1_mostStaying_D n dp) S h (nI s) (nI M) (nI m) = _
    unfold F_X1_mostStaying_B mS
    rw [J6_bitCount_eq n S hm, bndS, s4_dec s (by omega), show 4 - s = 0 by omega]
    by_cases k : pcn m ≤ 0
    · rw [if_pos (nI_le k (by omega)), if_pos k, if_neg (show ¬ nI s < (4 : Int32) from nI_nlt (a := s) (b := 4) (by omega) (by omega))]
      rfl
    · rw [if_neg (nI_ge (by omega) (by omega)), if_neg k]
      rfl
  | succ t ih =>
    intro dp s m hs hd hm
    obtain ⟨dp, rfl⟩ : ∃ k, dp = k + 1 := ⟨dp - 1, by omega⟩
    have hp := pcn_7 m
    show F_X1_mostStaying_B n (F_X1_mostStaying_D n dp) S h (nI s) (nI M) (nI m) = _
    unfold F_X1_mostStaying_B mS
    rw [J6_bitCount_eq n S hm, bndS, s4_dec s (by omega), show 4 - s = t + 1 by omega]
    by_cases k : pcn m ≤ t + 1
    · rw [if_pos (nI_le k (by omega)), if_pos k, if_pos (show nI s < (4 : Int32) from nI_lt (b := 4) (by omega) (by omega))]
      simp only [jnE]
      have key := lp_eq (fun fu a i => F_X1_mostStaying_L25 n S h (nI s) (nI M) (nI m) (F_X1_mostStaying_D n dp) (fun x => some x) fu a i) (fun x => some x) (fun c => eo (itr (fun k acc => if M.testBit k = true then om acc ((mS (ly L C) M t (m &&& (127 ^^^ 2 ^ k))).map (fun v => v + ly L C k (3 - t))) else acc) none c)) 6 (fun fu => ?_) (fun fu c hc => ?_) 6 0 n (by omega) (by omega)
      · exact key
      · show F_X1_mostStaying_L25 _ _ _ _ _ _ _ _ (fu + 1) _ _ = _
        rw [F_X1_mostStaying_L25, if_pos (by decide)]
      · show F_X1_mostStaying_L25 _ _ _ _ _ _ _ _ (fu + 1) _ _ = F_X1_mostStaying_L25 _ _ _ _ _ _ _ _ fu (eo (if M.testBit c = true then om (itr (fun k acc => if M.testBit k = true then om acc ((mS (ly L C) M t (m &&& (127 ^^^ 2 ^ k))).map (fun v => v + ly L C k (3 - t))) else acc) none c) ((mS (ly L C) M t (m &&& (127 ^^^ 2 ^ c))).map (fun v => v + ly L C c (3 - t))) else (itr (fun k acc => if M.testBit k = true then om acc ((mS (ly L C) M t (m &&& (127 ^^^ 2 ^ k))).map (fun v => v + ly L C k (3 - t))) else acc) none c))) _
        have hob : ob (7 * (t + 1)) (itr (fun k acc => if M.testBit k = true then om acc ((mS (ly L C) M t (m &&& (127 ^^^ 2 ^ k))).map (fun v => v + ly L C k (3 - t))) else acc) none c) := itr_inv (ob (7 * (t + 1))) (fun v h => by simp at h) (n := 6) (fun k x hk hx => by
          split
          · exact om_b hx (mp_b hf t k _)
          · exact hx) c (by omega)
        generalize itr (fun k acc => if M.testBit k = true then om acc ((mS (ly L C) M t (m &&& (127 ^^^ 2 ^ k))).map (fun v => v + ly L C k (3 - t))) else acc) none c = acc at hob ⊢
        have h2 : 2 ^ c < 128 := Nat.pow_lt_pow_right (n := 7) (by decide) (by omega)
        have hm' : m &&& (127 ^^^ 2 ^ c) < 128 := Nat.lt_of_le_of_lt Nat.and_le_left hm
        have e1 := ih dp (s + 1) (m &&& (127 ^^^ 2 ^ c)) (by omega) (by omega) hm'
        have hbs := mS_b (M := M) hf t (m &&& (127 ^^^ 2 ^ c))
        rw [show 3 - t = s by omega]
        rw [F_X1_mostStaying_L25, if_neg (show ¬ (6 : Int32) ≤ nI c from nI_ge hc (by decide)), shl1 c (by omega), nI_1 s, cp_dec m hm _ h2, e1, nI_1 c]
        simp only [nmE, jnE, bn2S, bndS, grdT, stI_22, stL_22, stRow_22, X1_cardsOfOn_eq n (show 10 < n by omega) H (show c < 2 ^ 31 by omega) (show s < 2 ^ 31 by omega)]
        by_cases kb : M.testBit c = true
        · rw [if_neg (by rw [fa_bit (by omega), kb]; decide), if_pos kb]
          cases e : mS (ly L C) M t (m &&& (127 ^^^ 2 ^ c)) with
          | none =>
            rw [if_pos rfl]
            cases acc <;> rfl
          | some u =>
            have hu := hbs u e
            have hl := hf c s
            rw [if_neg (show ¬ eo (some u) = -1 from nI_nm1 (by omega))]
            show F_X1_mostStaying_L25 _ _ _ _ _ _ _ _ fu (if eo acc < nI u + nI (ly L C c s) then nI u + nI (ly L C c s) else eo acc) _ = _
            rw [nI_add]
            congr 1
            cases acc with
            | none =>
              rw [if_pos (show eo none < nI (u + ly L C c s) from m1_nI (by omega))]
              rfl
            | some a =>
              have ha := hob a rfl
              show (if nI a < nI (u + ly L C c s) then nI (u + ly L C c s) else nI a) = nI (max a (u + ly L C c s))
              by_cases q : a < u + ly L C c s
              · rw [if_pos (nI_lt q (by omega)), Nat.max_eq_right (by omega)]
              · rw [if_neg (nI_nlt (by omega) (by omega)), Nat.max_eq_left (by omega)]
        · rw [if_pos (by rw [fa_bit (by omega)]; simpa using kb), if_neg kb]
    · rw [if_neg (nI_ge (by omega) (by omega)), if_neg k]
      rfl
end Lib26
