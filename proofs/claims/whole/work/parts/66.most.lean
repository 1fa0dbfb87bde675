/-! matchings: the most, and the first that has it. -/
def fmx (f : Nat → Nat) (b : Nat) : Nat → Nat
  | 0 => b
  | n + 1 => max (fmx f b n) (f n)
theorem fmx_b (f : Nat → Nat) (b : Nat) : ∀ n, b ≤ fmx f b n
  | 0 => Nat.le_refl _
  | n + 1 => Nat.le_trans (fmx_b f b n) (Nat.le_max_left _ _)
theorem fmx_ge {f : Nat → Nat} {b c : Nat} : ∀ {n : Nat}, c < n → f c ≤ fmx f b n
  | 0, h => absurd h (Nat.not_lt_zero _)
  | n + 1, h => by
    rw [fmx]
    by_cases e : c = n
    · subst e; exact Nat.le_max_right _ _
    · exact Nat.le_trans (fmx_ge (show c < n by omega)) (Nat.le_max_left _ _)
theorem fmx_att (f : Nat → Nat) (b : Nat) : ∀ n, fmx f b n = b ∨ ∃ c, c < n ∧ fmx f b n = f c
  | 0 => Or.inl rfl
  | n + 1 => by
    rw [fmx]
    by_cases h : fmx f b n ≤ f n
    · exact Or.inr ⟨n, by omega, Nat.max_eq_right h⟩
    · rw [Nat.max_eq_left (by omega)]
      rcases fmx_att f b n with q | ⟨c, h1, h2⟩
      · exact Or.inl q
      · exact Or.inr ⟨c, by omega, h2⟩
theorem fmx_le {f : Nat → Nat} {b k : Nat} (hb : b ≤ k) : ∀ {n : Nat}, (∀ c, c < n → f c ≤ k) → fmx f b n ≤ k
  | 0, _ => hb
  | n + 1, h => Nat.max_le.mpr ⟨fmx_le hb (fun c hc => h c (by omega)), h n (by omega)⟩
theorem fmx_cong {f g : Nat → Nat} {b : Nat} : ∀ {n : Nat}, (∀ c, c < n → f c = g c) → fmx f b n = fmx g b n
  | 0, _ => rfl
  | n + 1, h => by rw [fmx, fmx, fmx_cong (fun c hc => h c (by omega)), h n (by omega)]
/-- the most that r questions from q on can add -/
def mx (C : Nat) (al : Nat → Nat → Bool) (wt : Nat → Nat) : Nat → Nat → Nat → Nat
  | 0, _, _ => 0
  | r + 1, q, U => fmx (fun c => if av al U q c = true then wt q + mx C al wt r (q + 1) (U ||| 2 ^ c) else 0) (mx C al wt r (q + 1) U) C
def ch (C : Nat) (al : Nat → Nat → Bool) (wt : Nat → Nat) (M r q U w : Nat) : Nat := fa_first (fun c => av al U q c && decide (w + wt q + mx C al wt r (q + 1) (U ||| 2 ^ c) = M)) C
/-- what the first way with weight M chooses -/
def gp (C : Nat) (al : Nat → Nat → Bool) (wt : Nat → Nat) (M : Nat) : Nat → Nat → Nat → Nat → (Nat → Nat) → (Nat → Nat)
  | 0, _, _, _, x => x
  | r + 1, q, U, w, x => if ch C al wt M r q U w < C then gp C al wt M r (q + 1) (U ||| 2 ^ ch C al wt M r q U w) (w + wt q) (put1 x q (ch C al wt M r q U w)) else gp C al wt M r (q + 1) U w (put1 x q C)
section Most
variable {C : Nat} {al : Nat → Nat → Bool} {wt : Nat → Nat}
theorem mx_s (r q U : Nat) : mx C al wt (r + 1) q U = fmx (fun c => if av al U q c = true then wt q + mx C al wt r (q + 1) (U ||| 2 ^ c) else 0) (mx C al wt r (q + 1) U) C := rfl
theorem mx_none (r q U : Nat) : mx C al wt r (q + 1) U ≤ mx C al wt (r + 1) q U := by rw [mx_s]; exact fmx_b _ _ _
theorem mx_card {r q U c : Nat} (hc : c < C) (h : av al U q c = true) : wt q + mx C al wt r (q + 1) (U ||| 2 ^ c) ≤ mx C al wt (r + 1) q U := by
  have := fmx_ge (f := fun c => if av al U q c = true then wt q + mx C al wt r (q + 1) (U ||| 2 ^ c) else 0) (b := mx C al wt r (q + 1) U) hc
  rw [if_pos h] at this
  rw [mx_s]
  exact this
theorem mx_le (hw : ∀ q, wt q ≤ 9) : ∀ (r q U : Nat), mx C al wt r q U ≤ 9 * r
  | 0, _, _ => Nat.zero_le _
  | r + 1, q, U => by
    rw [mx_s]
    refine fmx_le (by have := mx_le hw r (q + 1) U; omega) (fun c _ => ?_)
    by_cases h : av al U q c = true
    · rw [if_pos h]
      have := mx_le hw r (q + 1) (U ||| 2 ^ c)
      have := hw q
      omega
    · rw [if_neg h]; omega
theorem mx_lvs : ∀ (r q U w : Nat) (x : Nat → Nat) (y : lf), y ∈ lvs C al wt r q U w x → y.2.1 ≤ w + mx C al wt r q U
  | 0, q, U, w, x, y, h => by
    rw [lvs, List.mem_singleton] at h
    rw [h]
    exact Nat.le_add_right _ _
  | r + 1, q, U, w, x, y, h => by
    rw [lvs] at h
    rcases List.mem_append.mp h with k | k
    · obtain ⟨c, hc, k2⟩ := mem_lct k
      (try dsimp only at k2)
      by_cases h1 : av al U q c = true
      · rw [if_pos h1] at k2
        have := mx_lvs r _ _ _ _ y k2
        have := mx_card (wt := wt) (r := r) hc h1
        omega
      · rw [if_neg h1] at k2
        cases k2
    · have := mx_lvs r _ _ _ _ y k
      have := mx_none (C := C) (al := al) (wt := wt) r q U
      omega
theorem gp_find {M : Nat} : ∀ (r q U w : Nat) (x : Nat → Nat), w + mx C al wt r q U = M → ∃ V, (lvs C al wt r q U w x).find? (fun l => decide (l.2.1 = M)) = some (V, M, gp C al wt M r q U w x)
  | 0, q, U, w, x, h => by
    have : w = M := h
    subst this
    exact ⟨U, by simp [lvs, gp]⟩
  | r + 1, q, U, w, x, h => by
    have hle := fun c hc hv => mx_card (C := C) (al := al) (wt := wt) (r := r) (q := q) (U := U) (c := c) hc hv
    have hle0 := mx_none (C := C) (al := al) (wt := wt) r q U
    have f1 := fa_first_le (fun c => av al U q c && decide (w + wt q + mx C al wt r (q + 1) (U ||| 2 ^ c) = M)) C
    have f2 := fa_first_no (fun c => av al U q c && decide (w + wt q + mx C al wt r (q + 1) (U ||| 2 ^ c) = M)) C
    have f3 := fa_first_yes (fun c => av al U q c && decide (w + wt q + mx C al wt r (q + 1) (U ||| 2 ^ c) = M)) C
    rw [gp]
    unfold ch
    generalize fa_first (fun c => av al U q c && decide (w + wt q + mx C al wt r (q + 1) (U ||| 2 ^ c) = M)) C = k0 at f1 f2 f3 ⊢
    have hno : ∀ c, c < k0 → (if av al U q c = true then lvs C al wt r (q + 1) (U ||| 2 ^ c) (w + wt q) (put1 x q c) else []).find? (fun l => decide (l.2.1 = M)) = none := by
      intro c hc
      have hc2 := f2 c hc
      by_cases hv : av al U q c = true
      · rw [if_pos hv, List.find?_eq_none]
        intro y hy
        have a1 := mx_lvs r _ _ _ _ y hy
        have a2 := hle c (by omega) hv
        rw [hv, Bool.true_and, decide_eq_false_iff_not] at hc2
        simp only [decide_eq_true_eq]
        omega
      · rw [if_neg hv]; rfl
    by_cases k : k0 < C
    · have hy := f3 k
      rw [Bool.and_eq_true, decide_eq_true_eq] at hy
      obtain ⟨V, hV⟩ := gp_find r (q + 1) (U ||| 2 ^ k0) (w + wt q) (put1 x q k0) hy.2
      refine ⟨V, ?_⟩
      rw [if_pos k, lvs, List.find?_append, find_lct_at k hno (by rw [if_pos hy.1]; exact hV)]
      rfl
    · have hk : k0 = C := by omega
      have e : w + mx C al wt r (q + 1) U = M := by
        rcases fmx_att (fun c => if av al U q c = true then wt q + mx C al wt r (q + 1) (U ||| 2 ^ c) else 0) (mx C al wt r (q + 1) U) C with z | ⟨c, hc, z⟩
        · rw [mx_s, z] at h; exact h
        · have hc2 := f2 c (by omega)
          rw [mx_s, z] at h
          rw [mx_s, z] at hle0
          by_cases hv : av al U q c = true
          · rw [if_pos hv] at h
            rw [hv, Bool.true_and, decide_eq_false_iff_not] at hc2
            omega
          · rw [if_neg hv] at h hle0
            omega
      obtain ⟨V, hV⟩ := gp_find r (q + 1) U w (put1 x q C) e
      refine ⟨V, ?_⟩
      rw [if_neg k, lvs, List.find?_append, find_lct (fun c hc => hno c (by omega)), hV]
      rfl
theorem pcn_or {U c : Nat} (hc : c < 7) (h : U.testBit c = false) : pcn (U ||| 2 ^ c) = pcn U + 1 := by
  have this : fb_ct (fun k => if k = c then true else U.testBit k) 7 + (if U.testBit c = true then 1 else 0) = fb_ct (fun i => U.testBit i) 7 + (if true = true then 1 else 0) := fb_ct_upd (fun i => U.testBit i) true (i := c) (n := 7) hc
  unfold pcn
  rw [fb_ct_cong (q := fun k => if k = c then true else U.testBit k) (fun i _ => tb_or U c i)]
  rw [h, if_neg Bool.false_ne_true, if_pos rfl, Nat.add_zero] at this
  exact this
theorem av_t {U q c : Nat} (h : av al U q c = true) : al q c = true ∧ U.testBit c = false := by simpa [av] using h
theorem lv_pc (hC : C ≤ 7) : ∀ (r q U : Nat) (x : Nat → Nat) (y : lf), U < 2 ^ C → y ∈ lvs C al (fun _ => 1) r q U (pcn U) x → y.2.1 = pcn y.1 ∧ y.1 < 2 ^ C
  | 0, q, U, x, y, hU, h => by
    rw [lvs, List.mem_singleton] at h
    rw [h]
    exact ⟨rfl, hU⟩
  | r + 1, q, U, x, y, hU, h => by
    rw [lvs] at h
    rcases List.mem_append.mp h with k | k
    · obtain ⟨c, hc, k2⟩ := mem_lct k
      (try dsimp only at k2)
      by_cases h1 : av al U q c = true
      · rw [if_pos h1, ← pcn_or (by omega) (av_t h1).2] at k2
        exact lv_pc hC r _ _ _ y (or_lt hU hc) k2
      · rw [if_neg h1] at k2
        cases k2
    · exact lv_pc hC r _ _ _ y hU k
def isM (M : Nat) : Nat → Bool := fun V => decide (pcn V = M)
theorem lv_isM (hC : C ≤ 7) {r q U M : Nat} {x : Nat → Nat} (hU : U < 2 ^ C) (p : lf → Bool) : (lvs C al (fun _ => 1) r q U (pcn U) x).countP (fun y => decide (y.2.1 = M) && p y) = (lvs C al (fun _ => 1) r q U (pcn U) x).countP (fun y => isM M y.1 && p y) := by
  refine List.countP_congr fun y hy => ?_
  rw [(lv_pc hC _ _ _ _ y hU hy).1]
  rfl
theorem on_pos (hC : C ≤ 7) {r q U M : Nat} (hU : U < 2 ^ C) (hle : pcn U + mx C al (fun _ => 1) r q U ≤ M) : 0 < ev C al (b2n (isM M)) r q U ↔ pcn U + mx C al (fun _ => 1) r q U = M := by
  rw [← ev_lvs (wt := fun _ => 1) (isM M) r q U (pcn U) (fun _ => 0), List.countP_pos_iff]
  constructor
  · rintro ⟨y, hy, h⟩
    have a1 := mx_lvs r _ _ _ _ y hy
    have a2 := lv_pc hC _ _ _ _ y hU hy
    have a3 : pcn y.1 = M := by simpa [isM] using h
    omega
  · intro h
    obtain ⟨V, hV⟩ := gp_find (C := C) (al := al) (wt := fun _ => 1) r q U (pcn U) (fun _ => 0) h
    have hm := List.mem_of_find?_eq_some hV
    refine ⟨_, hm, ?_⟩
    have a2 := lv_pc hC _ _ _ _ _ hU hm
    simp only [isM, decide_eq_true_eq]
    exact a2.1.symm
theorem most_ge (hC : C ≤ 7) {Q U : Nat} (h : 0 < Aq C al Q U) : pcn U ≤ mx C al (fun _ => 1) Q 0 0 := by
  unfold Aq at h
  rw [dl_b2n, ← ev_lvs (wt := fun _ => 1) _ Q 0 0 (pcn 0) (fun _ => 0), List.countP_pos_iff] at h
  obtain ⟨y, hy, k⟩ := h
  have a1 := mx_lvs Q _ _ _ _ y hy
  have a2 := lv_pc hC _ _ _ _ y (Nat.two_pow_pos C) hy
  have a3 : y.1 = U := by simpa using k
  rw [a3] at a2
  have : pcn 0 = 0 := by decide
  omega
theorem most_at (hC : C ≤ 7) (Q : Nat) : ∃ U, U < 2 ^ C ∧ 0 < Aq C al Q U ∧ pcn U = mx C al (fun _ => 1) Q 0 0 := by
  have p0 : pcn 0 = 0 := by decide
  obtain ⟨V, hV⟩ := gp_find (C := C) (al := al) (wt := fun _ => 1) Q 0 0 (pcn 0) (fun _ => 0) rfl
  have hm := List.mem_of_find?_eq_some hV
  have a2 := lv_pc hC _ _ _ _ _ (Nat.two_pow_pos C) hm
  refine ⟨V, a2.2, ?_, ?_⟩
  · unfold Aq
    rw [dl_b2n, ← ev_lvs (wt := fun _ => 1) _ Q 0 0 (pcn 0) (fun _ => 0), List.countP_pos_iff]
    exact ⟨_, hm, by simp⟩
  · have := a2.1
    (try dsimp only at this)
    omega
theorem lct_skip {α : Type} {f : Nat → List α} {c : Nat} : ∀ {m : Nat}, (∀ i, c ≤ i → i < c + m → f i = []) → lct f (c + m) = lct f c
  | 0, _ => rfl
  | m + 1, h => by
    rw [show c + (m + 1) = (c + m) + 1 by omega, lct, lct_skip (fun i a b => h i a (by omega)), h (c + m) (by omega) (by omega), List.append_nil]
theorem lvs_ne (r q U w : Nat) (x : Nat → Nat) : lvs C al wt r q U w x ≠ [] := by
  obtain ⟨V, hV⟩ := gp_find (C := C) (al := al) (wt := wt) r q U w x rfl
  intro h
  rw [h] at hV
  cases hV
end Most
