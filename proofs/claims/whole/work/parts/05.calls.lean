/-! Contracts over the abstract machine; returns; calls. -/
def aQ (G : aG) (r : Option Value) (n' : Nat) (S' : aSt) : Array Value → State → Outcome → State → Prop := fun _ _ o t => o = .returned (r.map (cV G)) ∧ aW G n' S' t.heap
def TmR (G : aG) (r : Option Value) (n' : Nat) (S' : aSt) (mc ms : Nat) : List Frame → Array Value → State → State → Prop := fun below args s => MQ below (aQ G r n' S') args s mc ms (gA G)
def aPc (G : aG) (n : Nat) (S : aSt) (As : List Value) : Array Value → State → Prop := va_Pc (As.map (cV G)) (fun U => U.heap.size = gB G + n ∧ aK G U ∧ aW G n S U.heap)
def Ctr (G : aG) (l : Launch) (y : MethodName) (M : aM) (rm : Room) (n n' : Nat) (S : aSt) (As : List Value) (r : Option Value) (S' : aSt) : Prop :=
  Met l y (.code y M.1 M.2.1 M.2.2.1 :: lw_g) rm (aPc G n S As) (aQ G r n' S') rm.cells rm.slots (gA G)
theorem lg_sl_len (G : aG) (As : List Value) : (lg_sl (As.map (cV G))).length = (lg_sl As).length := by
  induction As with
  | nil => rfl
  | cons v vs ih =>
    simp only [lg_sl, List.map_cons, List.flatMap_cons, List.length_append] at ih ⊢
    rw [ih]
    congr 1
    cases v <;> rfl
theorem lv_args_map (G : aG) : ∀ (As : List Value) (i : Nat), lv_args i (As.map (cV G)) = (lv_args i As).map (cL G)
  | [], _ => rfl
  | v :: vs, i => by
    simp only [List.map_cons, lv_args, cV_cat]
    rw [lv_args_map G vs]
    rfl
theorem Ctr.of {G : aG} {l : Launch} {y : MethodName} {M : aM} {rm : Room} {n n' : Nat} {S S' : aSt} {As : List Value} {r : Option Value} (hy : plainName y.cls = true) (hc : M.2.2.2.1 = y.cls) (hm : M.2.2.2.2 = y.name) (hl : (lg_sl As).length ≤ M.2.1) (lv : List (Nat × Value)) (hlv : lv_args 0 As = lv)
    (k : Go G l rm (TmR G r n' S' rm.cells rm.slots) M n 0 0 0 lv [] S) : Ctr G l y M rm n n' S As r S' := by
  subst hlv
  refine Met.ofW (cc := M.1) (maxL := M.2.1) (ret := M.2.2.1) hy rfl ?_
  intro p e s m args below meth c s₁ B hml hv
  obtain ⟨rfl, hsz, hK, hW⟩ := hv
  have hts := atoms_spec (ws := .code y M.1 M.2.1 M.2.2.1 :: lw_g) B.pre
  have hl' := lv_entry (As.map (cV G)) (n := M.2.1) (by rw [lg_sl_len]; exact hl)
  rw [lv_args_map] at hl'
  rw [lg_entry_eq]
  exact k p e s m _ below meth c s.heap [] _ ⟨B.exec, B.bytes, hml, B.returns, by rw [hc]; exact findClass_of_methodNamed B.named, by rw [hm]; exact (name_of_methodNamed B.named B.method).1, B.notSynchronized, fun w hw => hts w (List.mem_cons_of_mem _ hw), hK, hW.2.2⟩ (by rw [hsz]; rfl) va_S.rf hW hl'
theorem aPc_blind (G : aG) (n : Nat) (S : aSt) (As : List Value) : FrameBlind (aPc G n S As) := by
  intro a U g mk q
  obtain ⟨h1, h2, h3, h4⟩ := q
  exact ⟨h1, h2, h3.moved (State.WarmedH.refl U), h4⟩
section GC
variable {G : aG} {l : Launch} {R : Room} {Tm : List Frame → Array Value → State → State → Prop} {M : aM} {n cells slots pc : Nat} {lv : List (Nat × Value)} {st : List Value} {S : aSt}
theorem Go.iret {x : Int32} (hr : M.2.2.1 = some .int) (hd : decode M.1 pc = .ok (.ireturn, 1)) : Go G l R (TmR G (some (.int x)) n S cells slots) M n cells slots pc lv [.int x] S := by
  intro p e s m args below meth c H locs ls C hn hS hW hl
  exact W.iret C.1 C.2.1 (C.2.2.2.1.trans hr) (fun t ht _ => ⟨rfl, by rw [ht]; exact hW⟩) hS.2.2 hd C.2.2.2.2.2.2.1
theorem Go.zret {x : Int32} (hr : M.2.2.1 = some .boolean) (hx : x = 0 ∨ x = 1) (hd : decode M.1 pc = .ok (.ireturn, 1)) : Go G l R (TmR G (some (.int x)) n S cells slots) M n cells slots pc lv [.int x] S := by
  intro p e s m args below meth c H locs ls C hn hS hW hl
  exact W.zret C.1 C.2.1 (C.2.2.2.1.trans hr) (by rcases hx with rfl | rfl <;> rfl) (fun t ht _ => ⟨rfl, by rw [ht]; exact hW⟩) hS.2.2 hd C.2.2.2.2.2.2.1
theorem Go.lret {x : Int64} (hr : M.2.2.1 = some .long) (hd : decode M.1 pc = .ok (.lreturn, 1)) : Go G l R (TmR G (some (.long x)) n S cells slots) M n cells slots pc lv [.long x] S := by
  intro p e s m args below meth c H locs ls C hn hS hW hl
  exact W.lret C.1 C.2.1 (C.2.2.2.1.trans hr) (fun t ht _ => ⟨rfl, by rw [ht]; exact hW⟩) hS.2.2 hd C.2.2.2.2.2.2.1
theorem Go.vret (hr : M.2.2.1 = none) (hd : decode M.1 pc = .ok (.return_, 1)) : Go G l R (TmR G none n S cells slots) M n cells slots pc lv [] S := by
  intro p e s m args below meth c H locs ls C hn hS hW hl
  exact W.vret C.1 C.2.1 (C.2.2.2.1.trans hr) (fun t ht _ => ⟨rfl, by rw [ht]; exact hW⟩) hS.2.2 hd C.2.2.2.2.2.2.1
theorem am_cat (G : aG) (st : List Value) : ((st.map (cV G)).map fun v => v.category).sum = (st.map fun v => v.category).sum := by
  rw [List.map_map]
  congr 1
  apply List.map_congr_left
  intro v _
  exact cV_cat G v
theorem aW_size {G : aG} {n cells : Nat} {S : aSt} {s : State} {H : Heap} {locs : List Loc} (hn : s.heap.size + cells = gB G + n) (hS : va_S (gA G) s.heap H locs) (hW : aW G n S H) (hb : ∀ a, a < gB G → s.heap[a]? = G.1[a]?) (h : H.size ≤ s.heap.size + cells) : H.size = gB G + n := by
  cases n with
  | zero =>
    have h1 : gB G ≤ H.size := by
      rcases Nat.lt_or_ge H.size (gB G) with q | q
      · have h2 := am_old hb hS H.size q
        rw [show G.1[H.size]? = some (G.1[H.size]'q) from Array.getElem?_eq_getElem q] at h2
        exact absurd (Array.getElem?_eq_some_iff.mp h2).1 (Nat.lt_irrefl _)
      · exact q
    omega
  | succ k =>
    have h1 := (hW.2.1 k _ (aws_get (Nat.lt_succ_self k))).lt
    dsimp only at h1
    omega
/-- what a call does, once the kit has run it -/
theorem Go.run {rm : Room} {n' : Nat} {r : Option Value} {S' : aSt} {As st0 : List Value} {pc' : Nat} (hp : pc + 3 = pc') (hn' : n' = n + rm.cells)
    (hr : ∀ (p : Program) (e : Env) (s : State) (m : MethodId) (args : Array Value) (below : List Frame) (meth : Method) (c : Code) (H : Heap) (locs : List Loc) (ls : Array Slot), aC G M p s m args meth c → s.heap.size + cells = gB G + n → va_S (gA G) s.heap H locs → aW G n S H → lv_has ls M.2.1 (lv.map (cL G)) → (∀ U : State, U.heap = H → s.WarmedH U.vm → H.size ≤ s.heap.size + cells → aPc G n S As (As.map (cV G)).toArray U) → H.size ≤ s.heap.size + cells →
      va_Run p l e R s m args below meth c H locs cells slots rm.cells rm.slots (F0 m pc ls (st0.map (cV G))) (st.map (cV G)) (aQ G r n' S' (As.map (cV G)).toArray) (gA G))
    (kk : Go G l R Tm M n' (cells + rm.cells) (slots + rm.slots) pc' lv (r.toList ++ st) S') : Go G l R Tm M n cells slots pc lv st0 S := by
  subst hp
  intro p e s m args below meth c H locs ls C hn hS hW hl
  refine w_size (fun hz => ?_)
  have hsz := aW_size hn hS hW C.2.2.2.2.2.2.2.2.2 hz
  have hrun := hr p e s m args below meth c H locs ls C hn hS hW hl (fun U hU hWm _ => ⟨rfl, by rw [hU]; exact hsz, C.2.2.2.2.2.2.2.2.1.moved hWm, by rw [hU]; exact hW⟩) hz
  intro T hT X
  obtain ⟨v, st₀, t, T', L, h0, X', hL, e1, e2, ⟨hv, hq⟩, stp⟩ := hrun T hT X
  have hv' : v = r.map (cV G) := by
    injection hv
  subst hv'
  rw [← e1] at hq
  have hsz' : H.size ≤ T'.heap.size := by
    subst hn'
    cases hc : n + rm.cells with
    | zero =>
      have h1 : gB G ≤ T'.heap.size := by
        rcases Nat.lt_or_ge T'.heap.size (gB G) with q | q
        · have h2 := hq.2.2 T'.heap.size q
          rw [show G.1[T'.heap.size]? = some (G.1[T'.heap.size]'q) from Array.getElem?_eq_getElem q] at h2
          exact absurd (Array.getElem?_eq_some_iff.mp h2).1 (Nat.lt_irrefl _)
        · exact q
      omega
    | succ k =>
      rw [hc] at hq
      have h1 := (hq.2.1 k _ (aws_get (Nat.lt_succ_self k))).lt
      dsimp only at h1
      omega
  obtain ⟨t2, a1, b1⟩ := kk p e s m args below meth c T'.heap (locs ++ L) ls C (by subst hn'; omega) ⟨Nat.le_trans hS.1 hsz', fun q h1 h2 => by
      rw [hq.2.2 q (by show q < gB G; exact Nat.lt_of_not_le h2), C.2.2.2.2.2.2.2.2.2 q (Nat.lt_of_not_le h2)], fun q hq' => by
      rcases List.mem_append.mp hq' with h | h
      · exact hS.2.2 q h
      · exact hL q h⟩ hq hl T' rfl X'
  refine ⟨t2, stp t2 ?_, b1⟩
  have hst : (r.toList ++ st).map (cV G) = (r.map (cV G)).toList ++ st.map (cV G) := by
    cases r <;> rfl
  rw [hst] at a1
  exact a1
theorem am_good {w : Cond} (h : w ∈ lw_g) : w ∈ lw_g ∧ ((w.onTables && w.keeps) = true ∨ ∃ ty, w = .arrayClass ty) := ⟨h, good_of_word (List.mem_filter.mp h).2⟩
theorem am_goodIn {ws : List Cond} (h : ∀ w ∈ ws, w ∈ lw_g) : GoodIn lw_g ws := fun w hw => am_good (h w hw)
/-- the words of a virtual call -/
def aCV (own : String) (ix : Nat) (y : MethodName) (tag : Nat) (M' : aM) (k : Nat) : Prop := (∃ (T : u_T) (N : Nat), vwCl[tag]? = some (y.cls, T, N)) ∧ Cond.methodLink own ix y ∈ lw_g ∧ Cond.instanceMethod y ∈ lw_g ∧ Cond.selects y.cls y y ∈ lw_g ∧ Cond.initialized y.cls ∈ lw_g ∧ Cond.code y M'.1 M'.2.1 M'.2.2.1 ∈ lw_g ∧ y.cls ≠ "java/lang/invoke/MethodHandle" ∧ y.cls ≠ "java/lang/invoke/VarHandle" ∧ (parseMethodDescriptor y.desc).map (fun d => d.parameters.length) = some k
def aCS (own : String) (ix : Nat) (y : MethodName) (M' : aM) (k : Nat) : Prop := Cond.methodLink own ix y ∈ lw_g ∧ Cond.static y ∈ lw_g ∧ Cond.initialized y.cls ∈ lw_g ∧ Cond.code y M'.1 M'.2.1 M'.2.2.1 ∈ lw_g ∧ y.cls ≠ "java/lang/invoke/MethodHandle" ∧ y.cls ≠ "java/lang/invoke/VarHandle" ∧ (parseMethodDescriptor y.desc).map (fun d => d.parameters.length) = some k
theorem Go.callV {y : MethodName} {M' : aM} {rm : Room} {ix k tag : Nat} {r : Option Value} {S' : aSt} {st0 : List Value} (pc' : Nat) (As st : List Value) (hp : pc + 3 = pc') (hd : decode M.1 pc = .ok (.invokevirtual ix, 3)) (hM : Ctr G l y M' rm n (n + rm.cells) S (.ref k :: As) r S') (hw : aCV M.2.2.2.1 ix y tag M' As.length) (hk : k < n) (ht : (SH k).1 = tag) (hR : rm.frames + 1 ≤ R.frames ∧ 8 + (M'.2.1 + 11) + rm.locals ≤ R.locals) (hc : cells + rm.cells ≤ R.cells ∧ slots + rm.slots ≤ R.slots) (hs : st0 = As.reverse ++ .ref k :: st) (hst : (st.map fun v => v.category).sum ≤ 8) (kk : Go G l R Tm M (n + rm.cells) (cells + rm.cells) (slots + rm.slots) pc' lv (r.toList ++ st) S') : Go G l R Tm M n cells slots pc lv st0 S := by
  subst hs
  refine Go.run (rm := rm) (As := .ref k :: As) (r := r) (S' := S') (st := st) hp rfl ?_ kk
  intro p e s m args below meth c H locs ls C hn hS hW hl hPc hz
  obtain ⟨⟨T, N, hcl⟩, w1, w2, w3, w4, w5, w6⟩ := hw
  have hq : qa G k = gB G + k := qa_own (by have := hW.1; omega)
  have hws : ∀ w ∈ wsV M.2.2.2.1 ix y.cls y (.code y M'.1 M'.2.1 M'.2.2.1 :: lw_g), w ∈ lw_g := by
    intro w h
    simp only [wsV, List.cons_append, List.nil_append, List.mem_cons] at h
    rcases h with rfl | rfl | rfl | rfl | rfl | h
    · exact w1
    · exact w2
    · exact w3
    · exact w4
    · exact w5
    · exact h
  have he : (aws G n S)[k]? = some (gB G + k, .inr (tag, am_fs G S k)) := by rw [aws_get hk, am_cE_obj ht (vw_lt hcl)]
  have hrec := va_recv (C.2.2.2.2.2.2.2.2.1.1) hW.2.1 hcl he
  refine va_runV (C := y.cls) (b := qa G k) (As := As.map (cV G)) (n := As.length) (Ts := lw_g) (own := M.2.2.2.1) (nL := M.2.1) (cc := M.1) ⟨C.1, C.2.1, C.2.2.1, C.2.2.2.2.1, C.2.2.2.2.2.2.2.1⟩ hM (cwV _ C.2.2.2.2.2.2.2.1 (am_goodIn hws) rfl rfl rfl ⟨rfl, w6⟩ hR) ⟨aPc_blind G n S _, by rw [hq]; exact hrec, fun U hU hWm => hPc U hU hWm hz⟩ rfl (by simp) hl.1 (by simp [List.map_reverse]; rfl) (lv_room (by rw [am_cat]; exact hst)) hd hc
theorem Go.callS {y : MethodName} {M' : aM} {rm : Room} {ix : Nat} {r : Option Value} {S' : aSt} {st0 : List Value} (pc' : Nat) (As st : List Value) (hp : pc + 3 = pc') (hd : decode M.1 pc = .ok (.invokestatic ix, 3)) (hM : Ctr G l y M' rm n (n + rm.cells) S As r S') (hw : aCS M.2.2.2.1 ix y M' As.length) (hR : rm.frames + 1 ≤ R.frames ∧ 8 + (M'.2.1 + 11) + rm.locals ≤ R.locals) (hc : cells + rm.cells ≤ R.cells ∧ slots + rm.slots ≤ R.slots) (hs : st0 = As.reverse ++ st) (hst : (st.map fun v => v.category).sum ≤ 8) (kk : Go G l R Tm M (n + rm.cells) (cells + rm.cells) (slots + rm.slots) pc' lv (r.toList ++ st) S') : Go G l R Tm M n cells slots pc lv st0 S := by
  subst hs
  refine Go.run (rm := rm) (As := As) (r := r) (S' := S') (st := st) hp rfl ?_ kk
  intro p e s m args below meth c H locs ls C hn hS hW hl hPc hz
  obtain ⟨w1, w2, w4, w5, w6⟩ := hw
  have hws : ∀ w ∈ va_wsS M.2.2.2.1 ix y (.code y M'.1 M'.2.1 M'.2.2.1 :: lw_g), w ∈ lw_g := by
    intro w h
    simp only [va_wsS, List.cons_append, List.nil_append, List.mem_cons] at h
    rcases h with rfl | rfl | rfl | rfl | h
    · exact w1
    · exact w2
    · exact w4
    · exact w5
    · exact h
  exact va_runS (As := As.map (cV G)) (n := As.length) (Ts := lw_g) (own := M.2.2.2.1) (nL := M.2.1) (cc := M.1) ⟨C.1, C.2.1, C.2.2.1, C.2.2.2.2.1, C.2.2.2.2.2.2.2.1⟩ hM (va_cwS _ C.2.2.2.2.2.2.2.1 (am_goodIn hws) rfl rfl rfl w6 hR) ⟨aPc_blind G n S _, fun U hU hWm => hPc U hU hWm hz⟩ rfl (by simp) hl.1 (by simp [List.map_reverse]) (lv_room (by rw [am_cat]; exact hst)) hd hc
end GC
/-! the room of a method that makes nothing, D frames deep; rows with results -/
def rmM (D : Nat) : Room := { frames := D, cells := 0, slots := 0, locals := 64 * D }
theorem rmM_le {D D' L : Nat} (h : D' < D) (hL : L ≤ 45) : (rmM D').frames + 1 ≤ (rmM D).frames ∧ 8 + (L + 11) + (rmM D').locals ≤ (rmM D).locals := by
  show D' + 1 ≤ D ∧ 8 + (L + 11) + 64 * D' ≤ 64 * D
  omega
def isB (x : Int32) : Bool := decide (x = 0) || decide (x = 1)
theorem isB_or {x : Int32} (h : isB x = true) : x = 0 ∨ x = 1 := by simpa [isB] using h
def bn2 {α β γ : Type} (o : Option (α × β)) (f : α → β → Option γ) : Option γ := o.bind (fun q => f q.1 q.2)
theorem f_bn2 {α β γ : Type} {o : Option (α × β)} {f : α → β → Option γ} {r : γ} (h : bn2 o f = some r) : ∃ a b, o = some (a, b) ∧ f a b = some r := by
  cases o with
  | none => cases h
  | some q => exact ⟨q.1, q.2, rfl, h⟩
abbrev GoM (G : aG) (l : Launch) (D : Nat) (Tm : List Frame → Array Value → State → State → Prop) (M : aM) (pc : Nat) (lv : List (Nat × Value)) (st : List Value) (S : aSt) : Prop := Go G l (rmM D) Tm M 97 0 0 pc lv st S
section GM
variable {G : aG} {l : Launch} {D : Nat} {Tm : List Frame → Array Value → State → State → Prop} {M : aM} {pc : Nat} {lv : List (Nat × Value)} {st : List Value} {S : aSt}
theorem Go.ir {x r : Int32} (hr : M.2.2.1 = some .int) (hd : decode M.1 pc = .ok (.ireturn, 1)) (h : some x = some r) : GoM G l D (TmR G (some (.int r)) 97 S 0 0) M pc lv [.int x] S := by cases h; exact Go.iret hr hd
theorem Go.irS {x r : Int32} {S' : aSt} (hr : M.2.2.1 = some .int) (hd : decode M.1 pc = .ok (.ireturn, 1)) (h : some (x, S) = some (r, S')) : GoM G l D (TmR G (some (.int r)) 97 S' 0 0) M pc lv [.int x] S := by cases h; exact Go.iret hr hd
theorem Go.zr {x r : Int32} (hr : M.2.2.1 = some .boolean) (hx : x = 0 ∨ x = 1) (hd : decode M.1 pc = .ok (.ireturn, 1)) (h : some x = some r) : GoM G l D (TmR G (some (.int r)) 97 S 0 0) M pc lv [.int x] S := by cases h; exact Go.zret hr hx hd
theorem Go.zrS {x r : Int32} {S' : aSt} (hr : M.2.2.1 = some .boolean) (hx : x = 0 ∨ x = 1) (hd : decode M.1 pc = .ok (.ireturn, 1)) (h : some (x, S) = some (r, S')) : GoM G l D (TmR G (some (.int r)) 97 S' 0 0) M pc lv [.int x] S := by cases h; exact Go.zret hr hx hd
theorem Go.lr {x r : Int64} (hr : M.2.2.1 = some .long) (hd : decode M.1 pc = .ok (.lreturn, 1)) (h : some x = some r) : GoM G l D (TmR G (some (.long r)) 97 S 0 0) M pc lv [.long x] S := by cases h; exact Go.lret hr hd
theorem Go.vr {S' : aSt} (hr : M.2.2.1 = none) (hd : decode M.1 pc = .ok (.return_, 1)) (h : some S = some S') : GoM G l D (TmR G none 97 S' 0 0) M pc lv [] S := by cases h; exact Go.vret hr hd
theorem Go.cV {y : MethodName} {M' : aM} {ix k tag D' : Nat} {r : Value} {S' : aSt} {st0 : List Value} (pc' : Nat) (As st : List Value) (hM : Ctr G l y M' (rmM D') 97 97 S (.ref k :: As) (some r) S') (hp : pc + 3 = pc') (hd : decode M.1 pc = .ok (.invokevirtual ix, 3)) (hw : aCV M.2.2.2.1 ix y tag M' As.length) (hk : isT k tag = true) (hD : D' < D) (hL : M'.2.1 ≤ 45) (hs : st0 = As.reverse ++ .ref k :: st) (hst : (st.map fun v => v.category).sum ≤ 8) (kk : GoM G l D Tm M pc' lv (r :: st) S') : GoM G l D Tm M pc lv st0 S :=
  Go.callV pc' As st hp hd hM hw (isT_lt hk) (isT_sh hk) (rmM_le hD hL) ⟨Nat.le_refl 0, Nat.le_refl 0⟩ hs hst kk
theorem Go.cVv {y : MethodName} {M' : aM} {ix k tag D' : Nat} {S' : aSt} {st0 : List Value} (pc' : Nat) (As st : List Value) (hM : Ctr G l y M' (rmM D') 97 97 S (.ref k :: As) none S') (hp : pc + 3 = pc') (hd : decode M.1 pc = .ok (.invokevirtual ix, 3)) (hw : aCV M.2.2.2.1 ix y tag M' As.length) (hk : isT k tag = true) (hD : D' < D) (hL : M'.2.1 ≤ 45) (hs : st0 = As.reverse ++ .ref k :: st) (hst : (st.map fun v => v.category).sum ≤ 8) (kk : GoM G l D Tm M pc' lv st S') : GoM G l D Tm M pc lv st0 S :=
  Go.callV pc' As st hp hd hM hw (isT_lt hk) (isT_sh hk) (rmM_le hD hL) ⟨Nat.le_refl 0, Nat.le_refl 0⟩ hs hst kk
theorem Go.cS {y : MethodName} {M' : aM} {ix D' : Nat} {r : Value} {S' : aSt} {st0 : List Value} (pc' : Nat) (As st : List Value) (hM : Ctr G l y M' (rmM D') 97 97 S As (some r) S') (hp : pc + 3 = pc') (hd : decode M.1 pc = .ok (.invokestatic ix, 3)) (hw : aCS M.2.2.2.1 ix y M' As.length) (hD : D' < D) (hL : M'.2.1 ≤ 45) (hs : st0 = As.reverse ++ st) (hst : (st.map fun v => v.category).sum ≤ 8) (kk : GoM G l D Tm M pc' lv (r :: st) S') : GoM G l D Tm M pc lv st0 S :=
  Go.callS pc' As st hp hd hM hw (rmM_le hD hL) ⟨Nat.le_refl 0, Nat.le_refl 0⟩ hs hst kk
theorem Go.cSv {y : MethodName} {M' : aM} {ix D' : Nat} {S' : aSt} {st0 : List Value} (pc' : Nat) (As st : List Value) (hM : Ctr G l y M' (rmM D') 97 97 S As none S') (hp : pc + 3 = pc') (hd : decode M.1 pc = .ok (.invokestatic ix, 3)) (hw : aCS M.2.2.2.1 ix y M' As.length) (hD : D' < D) (hL : M'.2.1 ≤ 45) (hs : st0 = As.reverse ++ st) (hst : (st.map fun v => v.category).sum ≤ 8) (kk : GoM G l D Tm M pc' lv st S') : GoM G l D Tm M pc lv st0 S :=
  Go.callS pc' As st hp hd hM hw (rmM_le hD hL) ⟨Nat.le_refl 0, Nat.le_refl 0⟩ hs hst kk
theorem Go.topi {x : Int32} (y : Int32) (h : y = x) (k : GoM G l D Tm M pc lv (.int y :: st) S) : GoM G l D Tm M pc lv (.int x :: st) S := by subst h; exact k
theorem Go.topl {x : Int64} (y : Int64) (h : y = x) (k : GoM G l D Tm M pc lv (.long y :: st) S) : GoM G l D Tm M pc lv (.long x :: st) S := by subst h; exact k
theorem Go.stt (S' : aSt) (h : S' = S) (k : GoM G l D Tm M pc lv st S') : GoM G l D Tm M pc lv st S := by subst h; exact k
theorem Go.inc {i : Nat} {d : Int} {x : Int32} (j : Nat) (pc' : Nat) (c : Int32) (lv' : List (Nat × Value)) (hp : pc + 3 = pc') (hd : decode M.1 pc = .ok (.iinc i d, 3)) (hj : lv[j]? = some (i, .int x)) (hc : Int32.ofInt d = c) (hi : i < M.2.1) (hv : (i, Value.int (x + c)) :: lv.filter (fun q => !(q.1 == i) && !(q.1 + 1 == i && q.2.category == 2)) = lv') (k : GoM G l D Tm M pc' lv' st S) : GoM G l D Tm M pc lv st S := by
  subst hc
  exact Go.iinc j pc' _ lv' hp hd hj rfl hi hv k
theorem Go.incn {i : Nat} {d : Int} {x : Int32} (j : Nat) (pc' : Nat) (c y : Int32) (lv' : List (Nat × Value)) (hp : pc + 3 = pc') (hd : decode M.1 pc = .ok (.iinc i d, 3)) (hj : lv[j]? = some (i, .int x)) (hc : Int32.ofInt d = c) (hy : y = x + c) (hi : i < M.2.1) (hv : (i, Value.int y) :: lv.filter (fun q => !(q.1 == i) && !(q.1 + 1 == i && q.2.category == 2)) = lv') (k : GoM G l D Tm M pc' lv' st S) : GoM G l D Tm M pc lv st S := by
  subst hc
  subst hy
  exact Go.iinc j pc' _ lv' hp hd hj rfl hi hv k
end GM
theorem am_mem {w : Cond} (i : Nat) (h : lw_tbl[i]? = some w) (hg : goodWord w = true) : w ∈ lw_g := List.mem_filter.mpr ⟨List.mem_of_getElem? h, hg⟩
theorem am_memN {w : Cond} (i : Nat) (h : lw_tbl[i]? = some w) (hg : am_nest w = true) : w ∈ lw_n := List.mem_filter.mpr ⟨List.mem_of_getElem? h, hg⟩
theorem tsw_ne {x c : Int32} {z : Int} (h : ¬ x = c) (hz : c.toInt = z) : x.toInt ≠ z := fun e => h (Int32.toInt_inj.mp (e.trans hz.symm))
