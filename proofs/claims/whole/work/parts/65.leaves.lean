/-! matchings: the leaves of the walk, what is counted over them. -/
abbrev lf : Type := Nat × Nat × (Nat → Nat)
def put1 (x : Nat → Nat) (q c : Nat) : Nat → Nat := fun i => if i = q then c else x i
theorem put1_s (x : Nat → Nat) (q c : Nat) : put1 x q c q = c := by simp [put1]
theorem put1_ne {x : Nat → Nat} {q c i : Nat} (h : i ≠ q) : put1 x q c i = x i := by simp [put1, h]
def lct {α : Type} (f : Nat → List α) : Nat → List α
  | 0 => []
  | n + 1 => lct f n ++ f n
def av (al : Nat → Nat → Bool) (U q c : Nat) : Bool := al q c && !U.testBit c
/-- all ways from question q on, r questions to go: used cards, weight, what was chosen -/
def lvs (C : Nat) (al : Nat → Nat → Bool) (wt : Nat → Nat) : Nat → Nat → Nat → Nat → (Nat → Nat) → List lf
  | 0, _, U, w, x => [(U, w, x)]
  | r + 1, q, U, w, x => lct (fun c => if av al U q c = true then lvs C al wt r (q + 1) (U ||| 2 ^ c) (w + wt q) (put1 x q c) else []) C ++ lvs C al wt r (q + 1) U w (put1 x q C)
theorem ct_lct {α : Type} (p : α → Bool) (f : Nat → List α) : ∀ n, (lct f n).countP p = fb_sm (fun c => (f c).countP p) n
  | 0 => rfl
  | n + 1 => by rw [lct, List.countP_append, ct_lct p f n, fb_sm_succ]
theorem mem_lct {α : Type} {f : Nat → List α} {y : α} : ∀ {n : Nat}, y ∈ lct f n → ∃ c, c < n ∧ y ∈ f c
  | 0, h => by cases h
  | n + 1, h => by
    rcases List.mem_append.mp h with q | q
    · obtain ⟨c, h1, h2⟩ := mem_lct q
      exact ⟨c, by omega, h2⟩
    · exact ⟨n, by omega, q⟩
theorem len_lct {α : Type} {f : Nat → List α} {m : Nat} : ∀ {n : Nat}, (∀ c, c < n → (f c).length ≤ m) → (lct f n).length ≤ n * m
  | 0, _ => by simp [lct]
  | n + 1, h => by
    have h1 := len_lct (f := f) (m := m) (n := n) (fun c hc => h c (by omega))
    have h2 := h n (by omega)
    rw [lct, List.length_append, Nat.succ_mul]
    omega
theorem find_lct {α : Type} {f : Nat → List α} {p : α → Bool} : ∀ {n : Nat}, (∀ c, c < n → (f c).find? p = none) → (lct f n).find? p = none
  | 0, _ => rfl
  | n + 1, h => by
    rw [lct, List.find?_append, find_lct (fun c hc => h c (by omega)), h n (by omega)]
    rfl
theorem find_lct_at {α : Type} {f : Nat → List α} {p : α → Bool} {y : α} {i : Nat} : ∀ {n : Nat}, i < n → (∀ c, c < i → (f c).find? p = none) → (f i).find? p = some y → (lct f n).find? p = some y
  | 0, h, _, _ => absurd h (Nat.not_lt_zero _)
  | n + 1, h, h1, h2 => by
    rw [lct, List.find?_append]
    by_cases e : i = n
    · subst e
      rw [find_lct h1, h2]
      rfl
    · rw [find_lct_at (show i < n by omega) h1 h2]
      rfl
theorem sm_at (v : Nat → Nat) (i : Nat) : ∀ n, fb_sm (fun c => if c = i then v c else 0) n = if i < n then v i else 0
  | 0 => by simp [fb_sm]
  | n + 1 => by
    rw [fb_sm_succ, sm_at v i n]
    by_cases e : n = i
    · subst e
      simp
    · by_cases h : i < n
      · rw [if_pos h, if_neg e, if_pos (by omega)]; omega
      · rw [if_neg h, if_neg e, if_neg (by omega)]
theorem sm_z {f : Nat → Nat} : ∀ {n : Nat}, (∀ c, c < n → f c = 0) → fb_sm f n = 0
  | 0, _ => rfl
  | n + 1, h => by rw [fb_sm_succ, sm_z (fun c hc => h c (by omega)), h n (by omega)]
theorem sm_swap (f : Nat → Nat → Nat) (N : Nat) : ∀ C, fb_sm (fun c => fb_sm (fun v => f c v) N) C = fb_sm (fun v => fb_sm (fun c => f c v) C) N
  | 0 => (sm_z (fun _ _ => rfl)).symm
  | C + 1 => by
    rw [fb_sm_succ, sm_swap f N C, ← fb_sm_add]
    exact fb_sm_cong fun v _ => by rw [fb_sm_succ]
theorem sm_mul (f : Nat → Nat) (k : Nat) : ∀ n, fb_sm f n * k = fb_sm (fun c => f c * k) n
  | 0 => Nat.zero_mul k
  | n + 1 => by rw [fb_sm_succ, fb_sm_succ, Nat.add_mul, sm_mul f k n]
/-- what a function of the used cards adds up to over all ways -/
def ev (C : Nat) (al : Nat → Nat → Bool) (g : Nat → Nat) : Nat → Nat → Nat → Nat
  | 0, _, U => g U
  | r + 1, q, U => ev C al g r (q + 1) U + fb_sm (fun c => if av al U q c = true then ev C al g r (q + 1) (U ||| 2 ^ c) else 0) C
def b2n (p : Nat → Bool) : Nat → Nat := fun U => if p U = true then 1 else 0
section Leaves
variable {C : Nat} {al : Nat → Nat → Bool} {wt : Nat → Nat}
theorem ev_lvs (p : Nat → Bool) : ∀ (r q U w : Nat) (x : Nat → Nat), (lvs C al wt r q U w x).countP (fun l => p l.1) = ev C al (b2n p) r q U
  | 0, q, U, w, x => by simp [lvs, ev, b2n, List.countP_singleton]
  | r + 1, q, U, w, x => by
    rw [lvs, List.countP_append, ct_lct, ev_lvs p r, ev, Nat.add_comm]
    congr 1
    refine fb_sm_cong fun c _ => ?_
    by_cases h : av al U q c = true
    · rw [if_pos h, if_pos h, ev_lvs p r]
    · rw [if_neg h, if_neg h]; rfl
theorem lv_after (p : Nat → Bool) (q0 c0 : Nat) : ∀ (r q U w : Nat) (x : Nat → Nat), q0 < q → (lvs C al wt r q U w x).countP (fun l => p l.1 && decide (l.2.2 q0 = c0)) = if x q0 = c0 then ev C al (b2n p) r q U else 0
  | 0, q, U, w, x, h => by
    simp only [lvs, ev, b2n, List.countP_singleton]
    by_cases k : x q0 = c0 <;> simp [k]
  | r + 1, q, U, w, x, h => by
    have hp : ∀ c, put1 x q c q0 = x q0 := fun c => put1_ne (by omega)
    rw [lvs, List.countP_append, ct_lct, lv_after p q0 c0 r _ _ _ _ (by omega), ev, hp, Nat.add_comm]
    by_cases k : x q0 = c0
    · rw [if_pos k, if_pos k]
      congr 1
      refine fb_sm_cong fun c _ => ?_
      by_cases h1 : av al U q c = true
      · rw [if_pos h1, if_pos h1, lv_after p q0 c0 r _ _ _ _ (by omega), hp, if_pos k]
      · rw [if_neg h1, if_neg h1]; rfl
    · rw [if_neg k, if_neg k, sm_z]
      intro c _
      by_cases h1 : av al U q c = true
      · rw [if_pos h1, lv_after p q0 c0 r _ _ _ _ (by omega), hp, if_neg k]
      · rw [if_neg h1]; rfl
/-- ways on behind a pair -/
def gw (C : Nat) (al : Nat → Nat → Bool) (p : Nat → Bool) (q0 c0 e : Nat) : Nat → Nat := fun V => if av al V q0 c0 = true then ev C al (b2n p) e (q0 + 1) (V ||| 2 ^ c0) else 0
theorem lv_with (p : Nat → Bool) {c0 : Nat} (hc : c0 < C) (e : Nat) : ∀ (d q U w : Nat) (x : Nat → Nat), (lvs C al wt (d + 1 + e) q U w x).countP (fun l => p l.1 && decide (l.2.2 (q + d) = c0)) = ev C al (gw C al p (q + d) c0 e) d q U
  | 0, q, U, w, x => by
    rw [show 0 + 1 + e = e + 1 by omega, lvs, List.countP_append, ct_lct, lv_after p (q + 0) c0 e _ _ _ _ (by omega), ev, Nat.add_zero, put1_s, if_neg (by omega), Nat.add_zero]
    rw [fb_sm_cong (g := fun c => if c = c0 then (gw C al p q c e U) else 0), sm_at (fun c => gw C al p q c e U), if_pos hc]
    intro c _
    by_cases h1 : av al U q c = true
    · rw [if_pos h1, lv_after p q c0 e _ _ _ _ (by omega), put1_s, gw, if_pos h1]
    · rw [if_neg h1, gw, if_neg h1]; simp
  | d + 1, q, U, w, x => by
    have ih := fun U w x => lv_with p hc e d (q + 1) U w x
    rw [show q + 1 + d = q + (d + 1) by omega] at ih
    rw [show d + 1 + 1 + e = (d + 1 + e) + 1 by omega, lvs, List.countP_append, ct_lct, ih, ev, Nat.add_comm]
    congr 1
    refine fb_sm_cong fun c _ => ?_
    by_cases h : av al U q c = true
    · rw [if_pos h, if_pos h, ih]
    · rw [if_neg h, if_neg h]; rfl
theorem ev_last (g : Nat → Nat) : ∀ (r q U : Nat), ev C al g (r + 1) q U = ev C al (fun V => g V + fb_sm (fun c => if av al V (q + r) c = true then g (V ||| 2 ^ c) else 0) C) r q U
  | 0, q, U => rfl
  | r + 1, q, U => by
    have ih := fun U => ev_last g r (q + 1) U
    rw [show q + 1 + r = q + (r + 1) by omega] at ih
    rw [ev, ih U, ev]
    congr 1
    refine fb_sm_cong fun c _ => ?_
    rw [ih]
def dl (V : Nat) : Nat → Nat := fun W => if W = V then 1 else 0
theorem or_lt {U c : Nat} (h : U < 2 ^ C) (hc : c < C) : U ||| 2 ^ c < 2 ^ C := Nat.or_lt_two_pow h (Nat.pow_lt_pow_right (by decide) hc)
theorem ev_pair (g : Nat → Nat) : ∀ (r q U : Nat), U < 2 ^ C → ev C al g r q U = fb_sm (fun V => ev C al (dl V) r q U * g V) (2 ^ C)
  | 0, q, U, h => by
    simp only [ev, dl]
    rw [fb_sm_cong (g := fun V => if V = U then g V else 0), sm_at g, if_pos h]
    intro V _
    by_cases e : V = U
    · subst e; simp
    · rw [if_neg e, if_neg (fun z => e z.symm), Nat.zero_mul]
  | r + 1, q, U, h => by
    have e1 : (fun V => ev C al (dl V) (r + 1) q U * g V) = fun V => ev C al (dl V) r (q + 1) U * g V + fb_sm (fun c => (if av al U q c = true then ev C al (dl V) r (q + 1) (U ||| 2 ^ c) else 0) * g V) C := by
      funext V
      rw [ev, Nat.add_mul, sm_mul]
    rw [e1, fb_sm_add, ← sm_swap (fun c V => (if av al U q c = true then ev C al (dl V) r (q + 1) (U ||| 2 ^ c) else 0) * g V), ev, ev_pair g r (q + 1) U h]
    congr 1
    refine fb_sm_cong fun c hc => ?_
    by_cases k : av al U q c = true
    · simp only [if_pos k]
      exact ev_pair g r (q + 1) _ (or_lt h hc)
    · simp only [if_neg k]
      exact (sm_z (fun V _ => Nat.zero_mul _)).symm
theorem len_lvs : ∀ (r q U w : Nat) (x : Nat → Nat), (lvs C al wt r q U w x).length ≤ (C + 1) ^ r
  | 0, q, U, w, x => by simp [lvs]
  | r + 1, q, U, w, x => by
    have h1 := len_lvs r (q + 1) U w (put1 x q C)
    have h2 := len_lct (f := fun c => if av al U q c = true then lvs C al wt r (q + 1) (U ||| 2 ^ c) (w + wt q) (put1 x q c) else []) (m := (C + 1) ^ r) (n := C) (fun c _ => by
      by_cases k : av al U q c = true
      · rw [if_pos k]; exact len_lvs r _ _ _ _
      · rw [if_neg k]; exact Nat.zero_le _)
    rw [lvs, List.length_append, Nat.pow_succ, Nat.mul_comm, Nat.succ_mul]
    omega
/-- in how many ways one comes to question q with the used cards U -/
def Aq (C : Nat) (al : Nat → Nat → Bool) (q U : Nat) : Nat := ev C al (dl U) q 0 0
theorem dl_b2n (V : Nat) : dl V = b2n (fun W => decide (W = V)) := by
  funext W
  simp [dl, b2n]
theorem p7 {C r : Nat} (hC : C ≤ 7) (hr : r ≤ 7) : (C + 1) ^ r ≤ 2097152 :=
  Nat.le_trans (Nat.pow_le_pow_left (show C + 1 ≤ 8 by omega) r) (Nat.pow_le_pow_right (n := 8) (by decide) hr)
theorem ev_le (hC : C ≤ 7) (p : Nat → Bool) {r : Nat} (hr : r ≤ 7) (q U : Nat) : ev C al (b2n p) r q U ≤ 2097152 := by
  rw [← ev_lvs (wt := fun _ => 1) p r q U 0 (fun _ => 0)]
  exact Nat.le_trans List.countP_le_length (Nat.le_trans (len_lvs ..) (p7 hC hr))
theorem Aq_le (hC : C ≤ 7) {q : Nat} (hq : q ≤ 7) (U : Nat) : Aq C al q U ≤ 2097152 := by
  unfold Aq
  rw [dl_b2n]
  exact ev_le hC _ hq _ _
theorem Aq_s (q V : Nat) : Aq C al (q + 1) V = fb_sm (fun U => Aq C al q U * (dl V U + fb_sm (fun c => if av al U q c = true then dl V (U ||| 2 ^ c) else 0) C)) (2 ^ C) := by
  unfold Aq
  rw [ev_last, ev_pair _ _ _ _ (Nat.two_pow_pos C)]
  simp only [Nat.zero_add]
theorem sm_ge {f : Nat → Nat} {i n : Nat} (h : i < n) : f i ≤ fb_sm f n := by
  have := fb_sm_part f h
  omega
theorem Aq_on {q U : Nat} (hU : U < 2 ^ C) (h : 0 < Aq C al q U) : 0 < Aq C al (q + 1) U := by
  rw [Aq_s]
  refine Nat.lt_of_lt_of_le ?_ (sm_ge hU)
  refine Nat.mul_pos h ?_
  simp [dl]
  omega
theorem Aq_on2 {q U c : Nat} (hU : U < 2 ^ C) (hc : c < C) (hv : av al U q c = true) (h : 0 < Aq C al q U) : 0 < Aq C al (q + 1) (U ||| 2 ^ c) := by
  rw [Aq_s]
  refine Nat.lt_of_lt_of_le ?_ (sm_ge hU)
  refine Nat.mul_pos h ?_
  have := sm_ge (f := fun c' => if av al U q c' = true then dl (U ||| 2 ^ c) (U ||| 2 ^ c') else 0) hc
  rw [if_pos hv] at this
  simp only [dl] at this ⊢
  simp at this
  omega
theorem Aq_0 : 0 < Aq C al 0 0 := by simp [Aq, ev, dl]
end Leaves
