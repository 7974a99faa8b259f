section THROWS
variable {G : mm_G} {J : mm_J} {d mc ms kc ks : Nat} {Q : Option Value → mm_M → Prop} {M : mm_M} {pc : Nat} {lv : List (Option Value)} {st : List Value}
theorem mx_of {av : List Value} (lv : List (Option Value)) (hy : plainName J.1.cls = true) (hlv : mm_pl lv = lv_args 0 av) (hlen : (lg_sl av).length ≤ J.2.2.1) (h : wa_ 2 G J d mc ms Q mc ms M 0 lv []) : mx_ G J d mc ms av M Q := by
  intro l
  refine MetFree.of_bodyS (code := J.2.1) (maxLocals := J.2.2.1) (ret := J.2.2.2) hy ?_ ?_
  · intro args s m h1 hn
    obtain ⟨meth, c, a1, a2, a3, a4, a5, a6, -, -⟩ := Cond.code_spec hn (atoms_spec (ws := mm_ws J) h1 _ List.mem_cons_self)
    exact ⟨meth, c, a1, a2, a3, a4, a5, a6⟩
  · intro p e s m args below meth c s₁ B hml hP _
    obtain ⟨rfl, hok, hK, hZ, hsz⟩ := hP
    have hts := atoms_spec (ws := mm_ws J) B.pre
    have hl := lv_entry av (n := J.2.2.1) hlen
    rw [← hlv] at hl
    have hh0 : s₁.heap = s.heap := by rw [B.state]; rfl
    have K := h p l e (headSpec (mm_ws J) (mm_rm d mc ms)).room s m av.toArray below meth c s.heap [] 0 0 _ ⟨⟨B.exec, B.bytes, hml, findClass_of_methodNamed B.named, fun w hw => hts w (List.mem_cons_of_mem _ hw)⟩, B.returns, B.notSynchronized, Or.inr ⟨(name_of_methodNamed B.named B.method).1, B.named, B.method, (Stand.of_body B).code⟩, hK, hZ, hsz, Nat.le_refl _, Nat.le_refl _, Nat.le_refl _, Nat.le_refl _⟩ hok va_S.rf (Nat.le_of_eq (Nat.zero_add _)) (Nat.le_of_eq (Nat.zero_add _)) hl
    rw [lg_entry_eq]
    obtain ⟨t, a1, o, b1, b2, b3⟩ := K s₁ hh0 (Stand.of_body B)
    exact ⟨t, o, a1, b1, b2, b3⟩
/-- what returns may be read as what may throw -/
theorem wx_of0 (h : wa_ 0 G J d mc ms Q kc ks M pc lv st) : wa_ 2 G J d mc ms Q kc ks M pc lv st := by
  intro p l e R s m args below meth c H locs cells slots ls C hok hS hc hs hl T hT X
  obtain ⟨t, a1, o, b1, b2, ⟨⟨v, M', e1, hq, hb⟩, hF⟩, L, ⟨-, hW, hsame⟩, hL⟩ := h p l e R s m args below meth c H locs cells slots ls C hok hS hc hs hl T hT X
  subst e1
  exact ⟨t, a1, .returned v, b1, b2, ⟨⟨v, M', rfl, hq, hb⟩, hF⟩, L, ⟨hW, hsame⟩, hL⟩
theorem wx_throw {a : Nat} (hd : decode J.2.1 pc = .ok (.athrow, 1)) (hJ : Cond.code J.1 J.2.1 J.2.2.1 J.2.2.2 ∈ gt_ws) (hlaw : J.1.cls ≠ "ConsulDeskLaw") (hQ : Q (some (.retAddr a)) M) : wa_ 2 G J d mc ms Q kc ks M pc lv (.ref a :: st) := by
  intro p l e R s m args below meth c H locs cells slots ls C hok hS hc hs hl
  refine W.widen (k := mc) (n := ms) (by omega) (by omega) ?_
  intro T hT X
  have hN := C.2.2.2.1.resolve_left hlaw
  obtain ⟨meth', c', a1, a2, a3, a4, a5, a6, a7, -⟩ := Cond.code_spec hN.2.1 (C.1.2.2.2.2 _ hJ)
  cases hN.2.2.1.symm.trans a1
  cases hN.2.2.2.symm.trans a2
  have hout : ∀ x ∈ c.exceptionTable.toList, covers x pc = false := by
    have h0 : c.exceptionTable.size = 0 := by simpa [Array.isEmpty] using a7
    have h1 : c.exceptionTable.toList = [] := List.eq_nil_of_length_eq_zero (by simpa using h0)
    intro y hy
    rw [h1] at hy
    cases hy
  obtain ⟨st1, hrun, hend, hW, hsame⟩ := X.athrowLeaves C.1.1 (g := F0 m pc ls (.ref a :: st)) rfl rfl rfl hout rfl (by rw [C.1.2.1]; exact hd) C.2.2.1
  refine ⟨_, st1, .threw a, hrun, hend, ⟨⟨some (.retAddr a), M, rfl, hQ, ?_⟩, hS.F (show (T.setFrames _).heap = H from hT)⟩, locs, ⟨hW, hsame⟩, hS.2.2⟩
  show mm_ok G M _ T.heap
  rw [hT]
  exact mm_ok_moved hW.alike hok
end THROWS
section THROWC
variable {l : Launch} {R : Room} {p : Program} {e : Env} {below : List Frame} {s : State} {sargs : Array Value} {y : MethodName} {len W : Nat}
/-- a callee that may throw comes back, or throws into the frame that called it -/
theorem mx_back {ws : List Cond} {rm : Room} {Pc : Array Value → State → Prop} {Qc : Array Value → State → Outcome → State → Prop} {mc ms : Nat} {free : Addr → Prop} {bytes : ByteArray} {maxL : Nat} {ret : Option FieldType}
    (hM : mx_Met l y ws rm Pc Qc mc ms free) (hblind : FrameBlind Pc) (hrc : rm.cells = mc) (hrs : rm.slots = ms)
    (hframes : rm.frames + 1 ≤ R.frames) (hlocals : W + (maxL + 11) + rm.locals ≤ R.locals)
    (hws : ∀ w ∈ ws, ∀ a' U, s.WarmedH U.vm → w.before a' U = true) (hcode : Cond.code y bytes maxL ret ∈ ws) (hinit : ∀ a' U, s.WarmedH U.vm → (Cond.initialized y.cls).before a' U = true)
    {m : MethodId} {meth : Method} {c : Code} {U : State} {Ls : List Loc} {c0 s0 : Nat} {g : JFrame} {ig : Instr} {mk : MethodId} {a : Array Value}
    (X : Stand p l e R s m sargs below meth c U Ls c0 s0) (hg : g.method = m) (hsize : g.locals.size = c.maxLocals) (hdg : decode c.code g.pc = .ok (ig, len)) (hW : 2 * g.monitorRoom + (g.stack.map fun v => v.category).sum ≤ W) (hn : U.methodNamed? y = some mk) (hp : c0 + mc ≤ R.cells ∧ s0 + ms ≤ R.slots ∧ Pc a U) :
    ∃ (o : Outcome) (t T' : State) (L : List Loc), Stand p l e R s m sargs below meth c T' (Ls ++ L) (c0 + mc) (s0 + ms) ∧ (∀ q ∈ L, free q.base) ∧ T'.heap = t.heap ∧ T'.vm = t.vm ∧ Qc a (U.calling g mk a) o t ∧
      (∀ v, o = .returned v → Steps p.tables e below (doInvoke e (U.setTop g) [] mk a).1 (T'.setTop { g with pc := g.pc + len, stack := v.toList ++ g.stack })) ∧
      (∀ b, o = .threw b → Steps p.tables e below (doInvoke e (U.setTop g) [] mk a).1 ((T'.setTop g).pushFrame (.throwing b))) := by
  have h1 : (headSpec ws rm).pre.before a U = true := atoms_intro fun w hw => hws w hw _ _ X.warmed
  have h2 := hws _ hcode a U X.warmed
  have h3 := hinit a U X.warmed
  obtain ⟨methY, cY, hmY, hcY, -, hlY, -, -, -, -⟩ := Cond.code_spec hn h2
  obtain ⟨kY, hkY, -⟩ := className_of_methodNamed hn
  have hinitY : kY.init = .initialized := Cond.initialized_spec (findClass_of_methodNamed hn) hkY h3
  have h : At U g.method c below := by rw [hg]; exact X.here
  have happ : (headSpec ws rm).appliesLoose y e.platform (U.calling g mk a) = true :=
    Spec.appliesLoose_calling (g := g) h hdg hn hkY hinitY
      (X.room_calling (g := g) (R' := (headSpec ws rm).room) hsize hmY hcY hframes (by rw [hlY]; show _ + _ + rm.locals ≤ _; omega) (by show c0 + rm.cells ≤ _; rw [hrc]; exact hp.1) (by show s0 + rm.slots ≤ _; rw [hrs]; exact hp.2.1)) h1
  obtain ⟨mid, hmid⟩ := h.above
  have hfr : (U.setTop g).frames = (.java g :: mid) ++ below := by rw [State.frames_setTop' g h.top, hmid]; rfl
  obtain ⟨o, s₂, hsteps, -, hend, hq⟩ := Steps.callFree hM p X.admits X.cas X.clock (acts := []) hfr happ (hblind _ _ g mk hp.2.2) trivial
  obtain ⟨hq1, L, hfe, hL⟩ := hq
  have hq' : Qc a (U.calling g mk a) o s₂ := hq1
  rw [State.frames_setTop' g h.top] at hend
  have hfe : fe_X (U.calling g mk a) s₂ L mc ms := hfe
  obtain ⟨hW₂, e2, q2, q3, q4, q5, q6⟩ := id hfe
  have e3 : s₂ = ({ (U.calling g mk a).setFrames s₂.frames with heap := s₂.heap, slotsUsed := s₂.slotsUsed } : State).setVm s₂.vm := by
    have : s₂ = ({ s₂ with vm := (U.calling g mk a).vm } : State).setVm s₂.vm := rfl
    rw [e2] at this
    exact this
  have hW' : U.WarmedH s₂.vm := hW₂
  obtain ⟨g₀, hg0⟩ := Option.isSome_iff_exists.mp h.top
  obtain ⟨r, hr⟩ := State.topJava?_eq_some.mp hg0
  have hr' : (({ U with heap := s₂.heap, slotsUsed := s₂.slotsUsed } : State).setVm s₂.vm).frames = .java g₀ :: r := hr
  have hsame : U.sameButNew ({ U with heap := s₂.heap, slotsUsed := s₂.slotsUsed } : State) L mc ms := by
    refine ⟨?_, q2, q3, q4, q5, q6⟩
    obtain ⟨t, ht, -⟩ := State.frames_cons hr
    show ({ U with heap := s₂.heap, slotsUsed := s₂.slotsUsed } : State) = { U.setFrames U.frames with heap := s₂.heap, slotsUsed := s₂.slotsUsed }
    rw [State.setFrames_self ht]
  have X9 : Stand p l e R s m sargs below meth c (({ U with heap := s₂.heap, slotsUsed := s₂.slotsUsed } : State).setVm s₂.vm) (Ls ++ L) (c0 + mc) (s0 + ms) :=
    ⟨X.admits, X.cas, X.clock, X.frames, X.room, X.hears, X.method, X.code, (X.here.setHeapUsed s₂.heap s₂.slotsUsed).setVm hW'.alike, X.tail, State.WarmedH.trans X.warmed hW', X.limits, X.bytes, X.same.trans (hsame.setVm s.vm)⟩
  refine ⟨o, s₂, (({ U with heap := s₂.heap, slotsUsed := s₂.slotsUsed } : State).setVm s₂.vm), L, X9, hL, rfl, rfl, hq', fun v hv => ?_, fun b hb => ?_⟩
  · subst hv
    obtain ⟨c₂, i₂, len₂, hc₂, hd₂, hf₂⟩ := hend
    have hcc : c₂ = c := by
      have h1 : s₂.code? g.method = U.code? g.method := by
        rw [State.code?_eq, State.code?_eq, hW'.alike.method?]
      exact Option.some.inj (hc₂.symm.trans (h1.trans h.code))
    subst hcc
    have hlen : len₂ = len := by rw [hdg] at hd₂; cases hd₂; rfl
    subst hlen
    have hs₂ : s₂ = (({ U with heap := s₂.heap, slotsUsed := s₂.slotsUsed } : State).setVm s₂.vm).setTop { g with pc := g.pc + len₂, stack := v.toList ++ g.stack } := by
      refine e3.trans ?_
      rw [hf₂, State.calling_eq h.top, State.setFrames_setFrames, State.setTop_of_frames _ hr', hr]
      rfl
    rw [← hs₂]
    exact hsteps
  · subst hb
    have hf₂ : s₂.frames = .throwing b :: .java g :: U.frames.tail := hend
    have hs₂ : s₂ = ((({ U with heap := s₂.heap, slotsUsed := s₂.slotsUsed } : State).setVm s₂.vm).setTop g).pushFrame (.throwing b) := by
      refine e3.trans ?_
      rw [hf₂, State.calling_eq h.top, State.setFrames_setFrames, State.pushFrame, State.setTop_of_frames _ hr', State.setFrames_setFrames, State.frames_setFrames _ (State.cur_lt_of_frames hr'), hr]
      rfl
    rw [← hs₂]
    exact hsteps
end THROWC
