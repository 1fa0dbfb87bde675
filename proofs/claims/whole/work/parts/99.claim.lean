/-! the claim. -/
/-- what holds at the law's entry: the machine, the code, the tables' words (any of lw_tbl by 'hts w (by decide +kernel)'), the script of L ints xs at the cell b, what the Statement gives of the start (any of its parts by flat_of_before) -/
def lw_At (p : Program) (s : State) (m : MethodId) (meth : Method) (c : Code) (b L : Nat) (xs : Nat → Int32) : Prop :=
  p.tables.exec = Jvm.exec ∧ c.code = code ∧ meth.sig.returnType = ret ∧ c.maxLocals = 4 ∧ s.vm.findClass R_law = some m.cls ∧ (∀ w ∈ lw_tbl, w.before #[Value.ref b] s = true) ∧ va_X b L xs s s.heap ∧ b < s.heap.size ∧ meth.locks = false ∧ (Jvm.Cond.and given_1 narrow_1).before #[Value.ref b] s = true
theorem lw_nests {A : Array Value} {s : State} (h : ∀ w ∈ lw_tbl, w.before A s = true) : ∀ w ∈ lw_n, va_Nw w s := by
  intro w hw
  have h1 := h w (List.mem_filter.mp hw).1
  have hn : am_nest w = true := (List.mem_filter.mp hw).2
  cases w <;> simp [am_nest] at hn
  · exact va_Nw.of rfl h1
  · exact va_Nw.of rfl h1
theorem lw_classes {A : Array Value} {s : State} (hg : ∀ w ∈ lw_g, w.before A s = true) : ∃ (dC : Nat → ClassId) (dI : Nat → Nat → Nat), ∀ (k : Nat) (q : vw_C), vwCl[k]? = some q → u_Kn s q.1 q.2.1 q.2.2 (dC k) (dI k) := by
  obtain ⟨c1, i1, k1⟩ := u_known (C := RX1) (T := TX1) (N := 9) (n := 9) hg inX1g (hg _ (am_mem 142 (by decide +kernel) rfl))
  obtain ⟨c2, i2, k2⟩ := u_known (C := RX2) (T := TX2) (N := 8) (n := 8) hg inX2g (hg _ (am_mem 77 (by decide +kernel) rfl))
  obtain ⟨c3, i3, k3⟩ := u_known (C := RX3) (T := TX3) (N := 7) (n := 7) hg inX3g (hg _ (am_mem 111 (by decide +kernel) rfl))
  obtain ⟨c4, i4, k4⟩ := u_known (C := RX4) (T := TX4) (N := 2) (n := 2) hg inX4g (hg _ (am_mem 231 (by decide +kernel) rfl))
  obtain ⟨c5, i5, k5⟩ := u_known (C := RX5) (T := TX5) (N := 7) (n := 7) hg inX5g (hg _ (am_mem 148 (by decide +kernel) rfl))
  obtain ⟨c6, i6, k6⟩ := u_known (C := RX6) (T := TX6) (N := 12) (n := 12) hg inX6g (hg _ (am_mem 65 (by decide +kernel) rfl))
  obtain ⟨c7, i7, k7⟩ := u_known (C := RX7) (T := TX7) (N := 21) (n := 21) hg inX7g (hg _ (am_mem 833 (by decide +kernel) rfl))
  refine ⟨fun k => [c1, c2, c3, c4, c5, c6, c7].getD k c1, fun k => [i1, i2, i3, i4, i5, i6, i7].getD k i1, ?_⟩
  intro k q hq
  match k, hq with
  | 0, hq => cases hq; exact k1
  | 1, hq => cases hq; exact k2
  | 2, hq => cases hq; exact k3
  | 3, hq => cases hq; exact k4
  | 4, hq => cases hq; exact k5
  | 5, hq => cases hq; exact k6
  | 6, hq => cases hq; exact k7
  | k + 7, hq => simp [vwCl] at hq
theorem lw_arrs {A : Array Value} {s : State} (hg : ∀ w ∈ lw_g, w.before A s = true) (hrow : (Cond.arrayOver (.object "LostQuestions$Row")).before A s = true) (hstd : (Cond.arrayOver (.object "LostQuestions$Standing")).before A s = true) : ∃ (a1 a2 a3 a4 : ClassId), ∀ (k : Nat) (q : ClassId × FieldType), [(a1, FieldType.int), (a2, .boolean), (a3, .object "LostQuestions$Row"), (a4, .object "LostQuestions$Standing")][k]? = some q → ArrOfT s q.1 q.2 ∧ va_RA s q.1 q.2 := by
  obtain ⟨a1, b1, d1, e1, f1, g1⟩ := Cond.arrayClass_spec (hg (.arrayClass .int) (am_mem 109 (by decide +kernel) rfl))
  obtain ⟨a2, b2, d2, e2, f2, g2⟩ := Cond.arrayClass_spec (hg (.arrayClass .boolean) (am_mem 902 (by decide +kernel) rfl))
  obtain ⟨d3, a3, b3, e3, -, f3, g3, z3⟩ := Cond.arrayOver_spec hrow
  obtain ⟨d4, a4, b4, e4, -, f4, g4, z4⟩ := Cond.arrayOver_spec hstd
  refine ⟨a1, a2, a3, a4, ?_⟩
  intro k q hq
  match k, hq with
  | 0, hq => cases hq; exact ⟨fun n z => ⟨fun k h => (by cases h), b1, f1, d1, g1⟩, e1⟩
  | 1, hq => cases hq; exact ⟨fun n z => ⟨fun k h => (by cases h), b2, f2, d2, g2⟩, e2⟩
  | 2, hq => cases hq; exact ⟨fun n z => ⟨fun k h => (by cases h), b3, f3, d3, g3⟩, b3, d3, f3, g3, e3, z3⟩
  | 3, hq => cases hq; exact ⟨fun n z => ⟨fun k h => (by cases h), b4, f4, d4, g4⟩, b4, d4, f4, g4, e4, z4⟩
  | k + 4, hq => simp at hq
theorem lw_letters {A : Array Value} {s : State} (hts : ∀ w ∈ lw_tbl, w.before A s = true) (hgv : (Jvm.Cond.and given_1 narrow_1).before A s = true) : ∃ t : Nat, va_Z "LostQuestions$Kinds" "LETTERS" "[I" (.ref t) (fun a => s.heap.size ≤ a) s s.heap ∧ va_T .int t 6 (fun j => .int (am_let j)) (fun a => s.heap.size ≤ a) s s.heap := by
  have hs := flat_of_before _ hgv
  have hA : ∀ a : Nat, a < s.heap.size → ¬ (fun a => s.heap.size ≤ a) a := fun a h => Nat.not_le.mpr h
  have hel : ∀ j : Nat, j < 6 → (Term.elem (.static "LostQuestions$Kinds" "LETTERS" "[I") (.int (Int32.ofNat j))).eval A s none [] s = some (.int (am_let j)) := by
    intro j hj
    rcases (show j = 0 ∨ j = 1 ∨ j = 2 ∨ j = 3 ∨ j = 4 ∨ j = 5 by omega) with rfl | rfl | rfl | rfl | rfl | rfl
    · exact va_eqt (hs (.eq (.elem (.static "LostQuestions$Kinds" "LETTERS" "[I") (.int 0)) (.int 110)) (by decide +kernel))
    · exact va_eqt (hs (.eq (.elem (.static "LostQuestions$Kinds" "LETTERS" "[I") (.int 1)) (.int 121)) (by decide +kernel))
    · exact va_eqt (hs (.eq (.elem (.static "LostQuestions$Kinds" "LETTERS" "[I") (.int 2)) (.int 112)) (by decide +kernel))
    · exact va_eqt (hs (.eq (.elem (.static "LostQuestions$Kinds" "LETTERS" "[I") (.int 3)) (.int 118)) (by decide +kernel))
    · exact va_eqt (hs (.eq (.elem (.static "LostQuestions$Kinds" "LETTERS" "[I") (.int 4)) (.int 116)) (by decide +kernel))
    · exact va_eqt (hs (.eq (.elem (.static "LostQuestions$Kinds" "LETTERS" "[I") (.int 5)) (.int 98)) (by decide +kernel))
  have hlen : (Term.length (.static "LostQuestions$Kinds" "LETTERS" "[I")).eval A s none [] s = some (.int (Int32.ofNat 6)) := va_eqt (hs (.eq (.length (.static "LostQuestions$Kinds" "LETTERS" "[I")) (.int 6)) (by decide +kernel))
  obtain ⟨t, ht, hT⟩ := va_Tof (f := fun j => .int (am_let j)) (A := fun a => s.heap.size ≤ a) (by decide) (hs (.arrayOf (.static "LostQuestions$Kinds" "LETTERS" "[I") .int) (by decide +kernel)) hlen hel hA
  exact ⟨t, va_Zof (hts (.laysStatic "LostQuestions$Kinds" "LETTERS" "[I") (List.mem_of_getElem? (i := 381) (by decide +kernel))) (hts (.initialized "LostQuestions$Kinds") (List.mem_of_getElem? (i := 62) (by decide +kernel))) ht hA, hT⟩
set_option maxHeartbeats 4000000 in
theorem whole_start {p : Program} {e : Env} {s : State} {m : MethodId} {below : List Frame} {meth : Method} {c : Code} (l : Launch) {b L : Nat} {xs : Nat → Int32} (hL : L ≤ 384) (C0 : lw_At p s m meth c b L xs) : W p l e room_1 s m #[Value.ref b] below meth c s.heap [] 0 0 (lw_Z below #[Value.ref b] s) (entryFrame m ([Value.ref b] : List Value).toArray 4) := by
  obtain ⟨hx, hb, hr, hml, hown, hts, hX, hbl, hlocks, hgv⟩ := C0
  have hg : ∀ w ∈ lw_g, w.before #[Value.ref b] s = true := fun w h => hts w (List.mem_filter.mp h).1
  have hrow := hts (.arrayOver (.object "LostQuestions$Row")) (List.mem_of_getElem? (i := 73) (by decide +kernel))
  have hstd := hts (.arrayOver (.object "LostQuestions$Standing")) (List.mem_of_getElem? (i := 75) (by decide +kernel))
  obtain ⟨dC, dI, hKc⟩ := lw_classes hg
  obtain ⟨a1, a2, a3, a4, hKa⟩ := lw_arrs hg hrow hstd
  obtain ⟨t, hZ, hT⟩ := lw_letters hts hgv
  have hl := lv_entry ([.ref b]) (n := 4) (Nat.le_of_ble_eq_true rfl)
  rw [lg_entry_eq]
  generalize (lg_sl ([.ref b]) ++ List.replicate (4 - (lg_sl ([.ref b])).length) Slot.unset).toArray = ls at hl ⊢
  have hl : lv_has ls 4 [(0, .ref b)] := hl
  have hK : aK (s.heap, b, t, L, xs, (dC, dI), (a1, a2, a3, a4)) s := ⟨⟨hKc, hKa⟩, lw_nests hts, va_AO.of hrow, va_AO.of hstd, hX, hZ, hT⟩
  exact law_go (G := (s.heap, b, t, L, xs, (dC, dI), (a1, a2, a3, a4))) (l := l) (nm := meth.name) hL p e s m #[Value.ref b] below meth c s.heap [] ls ⟨hx, hb, hml, hr, hown, rfl, hlocks, hg, hK, fun _ _ => rfl⟩ rfl va_S.rf ⟨by decide, fun k q h => by simp [aws] at h, fun _ _ => rfl⟩ hl
set_option maxHeartbeats 4000000 in
theorem lw_walk (l : Launch) (b : Addr) (xs : List Int32) : MetFree l x (headSpec (Jvm.Cond.code x code maxLocals ret :: tables_1) room_1) (lw_P b xs) (fun _ _ _ _ _ => True) lw_Q := by
  refine MetFree.of_bodyS (code := code) (maxLocals := maxLocals) (ret := ret) (by decide) ?_ ?_
  · intro args s m h hn
    obtain ⟨meth, c, h1, h2, h3, h4, h5, h6, -, -⟩ := Cond.code_spec hn (atoms_spec (ws := Jvm.Cond.code x code maxLocals ret :: tables_1) h _ List.mem_cons_self)
    exact ⟨meth, c, h1, h2, h3, h4, h5, h6⟩
  · intro p e s m args below meth c s₁ B hml0 hP _
    obtain ⟨rfl, hx, hbd, hgv⟩ := hP
    obtain ⟨scr, harrAt, hlist, hof, hsmall⟩ := hx
    obtain ⟨hcb, hkn, -, -⟩ := State.arrayAt?_spec harrAt
    have hown : s.vm.findClass R_law = some m.cls := findClass_of_methodNamed B.named
    have hts0 : ∀ c ∈ (Jvm.Cond.code x code maxLocals ret :: tables_1), c.before #[Value.ref b] s = true := atoms_spec (ws := Jvm.Cond.code x code maxLocals ret :: tables_1) B.pre
    have hts : ∀ w ∈ lw_tbl, w.before #[Value.ref b] s = true := k2_hts_sels lw_privs (fun w hw => hts0 w (List.mem_cons_of_mem _ hw)) lw_privs_ok
    have hml : c.maxLocals = 4 := B.maxLocals_eq (hts0 _ List.mem_cons_self)
    have X₀ : Stand p l e room_1 s m #[Value.ref b] below meth c s₁ [] 0 0 := Stand.of_body B
    have hh0 : s₁.heap = s.heap := by rw [B.state]; rfl
    have hsz : scr.slots.size = xs.length := by rw [← Array.length_toList, hlist, List.length_map]
    have hval : ∀ j : Nat, j < xs.length → scr.slots[j]? = some (.int (xs.getD j 0)) := fun j hj => by
      rw [← Array.getElem?_toList, hlist]
      simp [hj]
    have hbl : b < s.heap.size := (Array.getElem?_eq_some_iff.mp hcb).1
    have hX : va_X b xs.length (fun j => xs.getD j 0) s s.heap := ⟨scr, hcb, hof, hkn, hsz, hval⟩
    have K : W p l e room_1 s m #[Value.ref b] below meth c s₁.heap [] 0 0 (lw_Z below #[Value.ref b] s) (entryFrame m ([Value.ref b] : List Value).toArray 4) := by
      rw [hh0]
      exact whole_start l hbd ⟨B.exec, B.bytes, B.returns, hml, hown, hts, hX, hbl, B.notSynchronized, hgv⟩
    obtain ⟨t, a1, o, b1, b2, b3⟩ := K s₁ rfl X₀
    exact ⟨t, o, a1, b1, b2, b3⟩
theorem lw_pre_spec {args : Array Value} {s : State} (h : (Jvm.Cond.and given_1 narrow_1).before args s = true) (hr : rest_1_c.before args s = true) : ∃ (b : Addr) (xs : List Int32), lw_P b xs args s := by
  have hs := flat_of_before _ h
  have hq := flat_of_before _ hr
  have hc : (Cond.count 1).before args s = true := hs _ (by decide +kernel)
  have harr : (Cond.arrayOf (.arg 0) .int).before args s = true := hs _ (by decide +kernel)
  have hle : (Cond.le (.length (.arg 0)) (.int 384)).before args s = true := hs _ (by decide +kernel)
  have hlen : (Cond.isInt (.length (.arg 0))).before args s = true := hq _ (by decide +kernel)
  have hall : (Cond.all (.arg 0) (.isInt (.elem (.arg 0) (.index 0)))).before args s = true := hq _ (by decide +kernel)
  obtain ⟨b, xs, hb, hx⟩ := State.ints_of_pre rfl harr hlen hall
  have hsm : xs.length < 2 ^ 31 := hx.choose_spec.2.2.2
  have hev : (Term.length (.arg 0)).eval args s none [] s = some (.int xs.length.toInt32) := hx.length_eval hb
  have hv := Cond.le_ints hev (show (Term.int 384).eval args s none [] s = some (.int 384) from rfl)
  have hd : xs.length.toInt32 ≤ 384 := by
    simpa [Cond.before, Cond.holds, hv] using hle
  have hN : xs.length ≤ 384 := (Int32.ofNat_le_ofNat hsm (by decide)).mp (show Int32.ofNat xs.length ≤ Int32.ofNat 384 from hd)
  exact ⟨b, xs, Cond.one_arg hc (show args[0]? = some (.ref b) from hb), hx, hN, h⟩
theorem lw_comes (l : Launch) : Comes l x (Jvm.Cond.code x code maxLocals ret :: tables_1) room_1 (fun tb e args s => Calls_1 tb e args s ∧ rest_1 tb e args s ∧ Pre_1 tb e args s)
    (fun _ _ args s o t => lw_Q args s o t) := by
  intro p e ha hc hk s m args below hf hfit hheap happ hpre
  obtain ⟨b, xs, hP⟩ := lw_pre_spec hpre.2.2 hpre.2.1
  obtain ⟨k, o, h1, h2, h3, hQ⟩ := lw_walk l b xs p e ha hc hk s m args below hf ((Spec.applies_iff_loose hf).mp happ).1 hP trivial
  exact ⟨k, o, h1, h2, h3, hQ⟩
theorem lw_frame {s t : State} {o : Outcome} {args : Array Value} (h : Framed s o t [] 600000 7302250) :
    Framed s o t (fieldLocs frame_1_writes args s ++ arrayLocs frame_1_arrays args s ++ staticLocs frame_1_statics s) 600000 7302250 := h
theorem lw_limb (L : Cond) (hL : ∀ (args : Array Value) (s t : State), L.after args s (.returned (some (.int 1))) t = true) :
    ArmFor flags0 classFile x code maxLocals ret World_1 tables_1 room_1 Calls_1 rest_1 Pre_1
      (fun tb e a s o t => postC L tb e a s o t ∧ Framed s o t (fieldLocs frame_1_writes a s ++ arrayLocs frame_1_arrays a s ++ staticLocs frame_1_statics s) 600000 7302250) := by
  intro l _ _ _ p e ha hc hk s m args below hf hfit hheap happ hpre
  obtain ⟨k, o, h1, h2, h3, rfl, hF⟩ := lw_comes l p e ha hc hk s m args below hf hfit hheap happ hpre
  exact ⟨k, _, h1, h2, h3, hL args s _, lw_frame hF⟩
theorem i_vc : Claimed_1_1 ∧ Claimed_1_2 := ⟨lw_limb limb_1_1 (fun args s t => by simp [limb_1_1, Cond.after, Cond.holds, Cond.value]), lw_limb limb_1_2 (fun args s t => Cond.after_iff.mpr (by
  first | (rw [show limb_1_2 = Cond.eq .result (.int 1) from rfl, Cond.eq_ints (x := 1) (y := 1) rfl rfl]; simp; done) | (simp [limb_1_2, Cond.value, Term.eval]; done)))⟩
