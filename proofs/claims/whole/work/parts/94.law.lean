/-! the start; rows of the law. -/
theorem OK_init {S1 S2 : aSt} (hX : FX S1) (hM : FM S1 S2) : OK S2 := by
  obtain ⟨r, ⟨p1, p2, p3, p4, p5⟩, rows, ⟨l1, l2, l3, l4⟩, kp, -⟩ := hX
  obtain ⟨lo, m1, m2, m3, m4, m5, m6, m7, m8, m9, m10⟩ := hM
  have i1 : ∀ a, a < 82 → S2.1 a = S1.1 a := fun a h => (lo a h).1
  have i2 : ∀ a, a < 82 → S2.2.1 a = S1.2.1 a := fun a h => (lo a h).2.1
  have i3 : ∀ a, a < 82 → S2.2.2 a = S1.2.2 a := fun a h => (lo a h).2.2
  refine ⟨13, 27, ?_, m1, ⟨?_, ?_, fun f hf => ?_, ?_, ?_⟩, fun r hr => ⟨?_, Or.inl ?_⟩, fun r hr => ⟨?_, Or.inl ?_⟩, 0, 0, 0, fun _ _ => 99, ?_, ?_, ?_, ?_⟩
  · obtain ⟨r1, r2, r3, r4, r5, r6, r7, r8, r9, r10⟩ := r
    refine ⟨r1, ?_, ?_, ?_, ?_, fun i hi => ?_, ?_, ?_, fun k hk => ?_, fun i hi => ?_⟩
    · rw [i3 0 (by omega)]; exact r2
    · rw [i3 1 (by omega)]; exact r3
    · rw [i3 2 (by omega)]; exact r4
    · rw [i3 3 (by omega)]; exact r5
    · rw [i3 (41 + 2 * i) (by omega)]; exact r6 i hi
    · rw [i3 5 (by omega)]; exact r7
    · rw [i3 9 (by omega)]; exact r8
    · rw [i3 k (by omega), i3 (k + 7) (by omega)]; exact r9 k hk
    · rw [i3 (61 + 7 * i) (by omega)]; exact r10 i hi
  · rw [i1 0 (by omega), p1, m4]
  · rw [i1 0 (by omega), p2, m5]
  · rw [i1 4 (by omega), p3, m6]
  · rw [i2 0 (by omega), p4, m7]
  · rw [i2 0 (by omega), p5, m8]
  · rw [i1 (41 + 2 * r) (by omega), rows r (by omega), m2 r hr]
  · exact m2 r hr
  · rw [i1 (53 + 2 * r) (by omega), show 53 + 2 * r = 41 + 2 * (r + 6) by omega, rows (r + 6) (by omega), m3 r hr]
  · exact m3 r hr
  · exact LI.zero.1
  · refine ⟨?_, ?_, fun c hc => by omega, fun q hq => by omega, ?_, fun c hc => by omega, fun q hq => by omega, fun q hq => ?_, fun t ht => by omega⟩
    · rw [i1 13 (by omega), l1]; rfl
    · rw [i1 13 (by omega), l2]; rfl
    · show S2.1 20 6 = _
      rw [i1 20 (by omega), l3]; rfl
    · show S2.1 24 q = _
      rw [i1 24 (by omega), l4 q hq]; rfl
  · refine ⟨?_, ?_, ?_, fun c hc => by omega, fun q hq => by omega, fun q hq h0 => by omega, fun t ht => by omega⟩
    · rw [m10]; rfl
    · rw [m10]; rfl
    · rw [m10]; rfl
  · intro k hk
    exact Or.inl ⟨m9 k, by rw [i1 (61 + 7 * k) (by omega)]; exact kp k hk⟩
section GL
variable {G : aG} {l : Launch} {R : Room} {Tm : List Frame → Array Value → State → State → Prop} {M : aM} {n cells slots pc : Nat} {lv : List (Nat × Value)} {st : List Value} {S : aSt}
theorem am_X {s : State} (h : va_X G.2.1 G.2.2.2.1 G.2.2.2.2.1 s G.1) (hb : ∀ a, a < gB G → s.heap[a]? = G.1[a]?) : G.2.1 < gB G ∧ G.2.1 < s.heap.size ∧ va_X G.2.1 G.2.2.2.1 G.2.2.2.2.1 s s.heap := by
  obtain ⟨scr, h1, h2⟩ := h
  have hlt : G.2.1 < gB G := (Array.getElem?_eq_some_iff.mp h1).1
  have h3 : s.heap[G.2.1]? = some scr := by rw [hb _ hlt]; exact h1
  exact ⟨hlt, (Array.getElem?_eq_some_iff.mp h3).1, scr, h3, h2⟩
theorem Go.sld {i : Int32} (v : Int32) (pc' : Nat) (hp : pc + 1 = pc') (hd : decode M.1 pc = .ok (.iaload, 1)) (hin : inb i G.2.2.2.1 = true) (hv : G.2.2.2.2.1 i.toNatClampNeg = v) (kk : Go G l R Tm M n cells slots pc' lv (.int v :: st) S) : Go G l R Tm M n cells slots pc lv (.int i :: .ref 1000 :: st) S := by
  subst hp
  subst hv
  intro p e s m args below meth c H locs ls C hn hS hW hl
  obtain ⟨a1, a2, a3⟩ := am_X C.2.2.2.2.2.2.2.2.1.2.2.2.2.1 C.2.2.2.2.2.2.2.2.2
  exact va_sld C.1 C.2.1 a3 a2 (show ¬ gB G ≤ G.2.1 from Nat.not_le.mpr a1) hS (inb_in hin) hd (kk p e s m args below meth c H locs ls C hn hS hW hl)
theorem Go.sln (pc' : Nat) (hp : pc + 1 = pc') (hd : decode M.1 pc = .ok (.arraylength, 1)) (kk : Go G l R Tm M n cells slots pc' lv (.int (nI G.2.2.2.1) :: st) S) : Go G l R Tm M n cells slots pc lv (.ref 1000 :: st) S := by
  subst hp
  intro p e s m args below meth c H locs ls C hn hS hW hl
  obtain ⟨a1, a2, a3⟩ := am_X C.2.2.2.2.2.2.2.2.1.2.2.2.2.1 C.2.2.2.2.2.2.2.2.2
  exact va_slen C.1 C.2.1 a3 a2 (show ¬ gB G ≤ G.2.1 from Nat.not_le.mpr a1) hS hd (kk p e s m args below meth c H locs ls C hn hS hW hl)
end GL
def R_law : String := "LostQuestionsLaw"
def lw_P (b : Addr) (xs : List Int32) (args : Array Value) (s : State) : Prop := args = #[.ref b] ∧ s.IntsAt b xs ∧ xs.length ≤ 384 ∧ (Jvm.Cond.and given_1 narrow_1).before args s = true
def lw_Q (_ : Array Value) (s : State) (o : Outcome) (t : State) : Prop := o = .returned (some (.int 1)) ∧ Framed s o t [] 600000 7302250
def lw_Z (below : List Frame) (a : Array Value) (s : State) : State → Prop := fun t => ∃ o, t.status = .running ∧ Ended t below o ∧ lw_Q a s o t
theorem lw_retG {p : Program} {l : Launch} {e : Env} {s : State} {m : MethodId} {args : Array Value} {below : List Frame} {meth : Method} {c : Code} (hx : p.tables.exec = Jvm.exec) (hb : c.code = code) (hr : meth.sig.returnType = ret) (hlocks : meth.locks = false) {pc : Nat} {H : Heap} {ls : Array Slot} (hdg : decode code pc = .ok (.ireturn, 1)) : W p l e room_1 s m args below meth c H [] 600000 7302250 (lw_Z below args s) (F0 m pc ls [.int 1]) := by
  intro T hT X
  obtain ⟨fs, hret, hrun, hended, hW, hframe⟩ := X.leave (v := some (.int 1)) (hlocks := hlocks) (fun h => by rw [hr] at h; cases h)
  have hmeth' : T.vm.method? m = some meth := X.method'
  refine ⟨T.setFrames fs, ?_, .returned (some (.int 1)), hrun, hended, rfl, ⟨_, rfl⟩, hW, hframe⟩
  jvm_step X.here [X.here.top, hx, hb, hdg, hmeth', hr, ret, narrow_b1]
  (try refine ⟨rfl, ?_⟩); (try refine ⟨rfl, ?_⟩)
  first | (intro acts; rw [hret _ acts rfl rfl rfl]) | rw [hret _ _ rfl rfl rfl]
  exact Steps.refl _
/-- the law as a method -/
abbrev mLw (nm : String) : aM := (cL_law, 4, some .boolean, RL, nm)
theorem Go.lend {G : aG} {l : Launch} {nm : String} {n cells slots pc : Nat} {lv : List (Nat × Value)} {S : aSt} (hc : cells = n) (h1 : cells ≤ 600000) (h2 : slots ≤ 7302250) (hd : decode cL_law pc = .ok (.ireturn, 1)) : Go G l room_1 lw_Z (mLw nm) n cells slots pc lv [.int 1] S := by
  intro p e s m args below meth c H locs ls C hn hS hW hl
  have hsz : s.heap.size = gB G := by omega
  refine va_forget (fun q hq => ?_) (W.widen h1 h2 (lw_retG C.1 C.2.1 C.2.2.2.1 C.2.2.2.2.2.2.1 hd))
  rw [hsz]
  exact hS.2.2 q hq
