section THROWS
variable {G : mm_G} {J : mm_J} {d mc ms kc ks : Nat} {Q : Option Value → mm_M → Prop} {M : mm_M} {pc : Nat} {lv : List (Option Value)} {st : List Value}
theorem mx_of {av : List Value} (lv : List (Option Value)) (hy : plainName J.1.cls = true) (hlv : mm_pl lv = lv_args 0 av) (hlen : (lg_sl av).length ≤ J.2.2.1) (h : wa_ 2 G J d mc ms Q mc ms M 0 lv []) : mx_ G J d mc ms av M Q := by
  intro l
  refine MetFree.of_bodyS (code := J.2.1) (maxLocals := J.2.2.1) (ret := J.2.2.2) hy ?_ ?_
  · intro args s m h1 hn
    obtain ⟨meth, c, a1, a2, a3, a4, a5, a6, -, -⟩ := Cond.code_spec hn (atoms_spec (ws := mm_ws J) h1 _ List.mem_cons_self)
    exact ⟨meth, c, a1, a2, a3, a4, a5, a6⟩
  · intro p e s m args below meth c s₁ B hml hP _
    obtain ⟨rfl, hok, hK, hZ, hsz⟩ := hP
    have hts := atoms_spec (ws := mm_ws J) B.pre
    have hl := lv_entry av (n := J.2.2.1) hlen
    rw [← hlv] at hl
    have hh0 : s₁.heap = s.heap := by rw [B.state]; rfl
    have K := h p l e (headSpec (mm_ws J) (mm_rm d mc ms)).room s m av.toArray below meth c s.heap [] 0 0 _ ⟨⟨B.exec, B.bytes, hml, findClass_of_methodNamed B.named, fun w hw => hts w (List.mem_cons_of_mem _ hw)⟩, B.returns, B.notSynchronized, Or.inr ⟨(name_of_methodNamed B.named B.method).1, B.named, B.method, (Stand.of_body B).code⟩, hK, hZ, hsz, Nat.le_refl _, Nat.le_refl _, Nat.le_refl _, Nat.le_refl _⟩ hok va_S.rf (Nat.le_of_eq (Nat.zero_add _)) (Nat.le_of_eq (Nat.zero_add _)) hl
    rw [lg_entry_eq]
    obtain ⟨t, a1, o, b1, b2, b3⟩ := K s₁ hh0 (Stand.of_body B)
    exact ⟨t, o, a1, b1, b2, b3⟩
/-- what returns may be read as what may throw -/
theorem wx_of0 (h : wa_ 0 G J d mc ms (fun o M' => Q o M' ∧ ∀ a, o ≠ some (.retAddr a)) kc ks M pc lv st) : wa_ 2 G J d mc ms Q kc ks M pc lv st := by
  intro p l e R s m args below meth c H locs cells slots ls C hok hS hc hs hl T hT X
  obtain ⟨t, a1, o, b1, b2, ⟨⟨v, M', e1, hq, hb⟩, hF⟩, L, ⟨-, hW, hsame⟩, hL⟩ := h p l e R s m args below meth c H locs cells slots ls C hok hS hc hs hl T hT X
  subst e1
  exact ⟨t, a1, .returned v, b1, b2, ⟨⟨v, M', ⟨rfl, hq.2⟩, hq.1, hb⟩, hF⟩, L, ⟨hW, hsame⟩, hL⟩
theorem mx_of0 {av : List Value} (hy : plainName J.1.cls = true) (h : ma_ G J d mc ms av M (fun o M' => Q o M' ∧ ∀ a, o ≠ some (.retAddr a))) : mx_ G J d mc ms av M Q := by
  intro l
  refine MetFree.mono (h l) (fun _ _ h => h) (fun _ _ _ _ _ h => h) ?_
  rintro a st o t - ⟨⟨⟨v, M', e1, hq, hb⟩, hF⟩, L, ⟨-, hW, hsame⟩, hL⟩
  subst e1
  exact ⟨⟨⟨v, M', ⟨rfl, hq.2⟩, hq.1, hb⟩, hF⟩, L, ⟨hW, hsame⟩, hL⟩
theorem wx_throw {a : Nat} (hd : decode J.2.1 pc = .ok (.athrow, 1)) (hJ : Cond.code J.1 J.2.1 J.2.2.1 J.2.2.2 ∈ gt_ws) (hlaw : J.1.cls ≠ "ConsulDeskLaw") (hQ : Q (some (.retAddr a)) M) : wa_ 2 G J d mc ms Q kc ks M pc lv (.ref a :: st) := by
  intro p l e R s m args below meth c H locs cells slots ls C hok hS hc hs hl
  refine W.widen (k := mc) (n := ms) (by omega) (by omega) ?_
  intro T hT X
  have hN := C.2.2.2.1.resolve_left hlaw
  obtain ⟨meth', c', a1, a2, a3, a4, a5, a6, a7, -⟩ := Cond.code_spec hN.2.1 (C.1.2.2.2.2 _ hJ)
  cases hN.2.2.1.symm.trans a1
  cases hN.2.2.2.symm.trans a2
  have hout : ∀ x ∈ c.exceptionTable.toList, covers x pc = false := by
    have h0 : c.exceptionTable.size = 0 := by simpa [Array.isEmpty] using a7
    have h1 : c.exceptionTable.toList = [] := List.eq_nil_of_length_eq_zero (by simpa using h0)
    intro y hy
    rw [h1] at hy
    cases hy
  obtain ⟨st1, hrun, hend, hW, hsame⟩ := X.athrowLeaves C.1.1 (g := F0 m pc ls (.ref a :: st)) rfl rfl rfl hout rfl (by rw [C.1.2.1]; exact hd) C.2.2.1
  refine ⟨_, st1, .threw a, hrun, hend, ⟨⟨some (.retAddr a), M, rfl, hQ, ?_⟩, hS.F (show (T.setFrames _).heap = H from hT)⟩, locs, ⟨hW, hsame⟩, hS.2.2⟩
  show mm_ok G M _ T.heap
  rw [hT]
  exact mm_ok_moved hW.alike hok
end THROWS
section THROWC
variable {l : Launch} {R : Room} {p : Program} {e : Env} {below : List Frame} {s : State} {sargs : Array Value} {y : MethodName} {len W : Nat}
/-- a callee that may throw comes back, or throws into the frame that called it -/
theorem mx_back {ws : List Cond} {rm : Room} {Pc : Array Value → State → Prop} {Qc : Array Value → State → Outcome → State → Prop} {mc ms : Nat} {free : Addr → Prop} {bytes : ByteArray} {maxL : Nat} {ret : Option FieldType}
    (hM : mx_Met l y ws rm Pc Qc mc ms free) (hblind : FrameBlind Pc) (hrc : rm.cells = mc) (hrs : rm.slots = ms)
    (hframes : rm.frames + 1 ≤ R.frames) (hlocals : W + (maxL + 11) + rm.locals ≤ R.locals)
    (hws : ∀ w ∈ ws, ∀ a' U, s.WarmedH U.vm → w.before a' U = true) (hcode : Cond.code y bytes maxL ret ∈ ws) (hinit : ∀ a' U, s.WarmedH U.vm → (Cond.initialized y.cls).before a' U = true)
    {m : MethodId} {meth : Method} {c : Code} {U : State} {Ls : List Loc} {c0 s0 : Nat} {g : JFrame} {ig : Instr} {mk : MethodId} {a : Array Value}
    (X : Stand p l e R s m sargs below meth c U Ls c0 s0) (hg : g.method = m) (hsize : g.locals.size = c.maxLocals) (hdg : decode c.code g.pc = .ok (ig, len)) (hW : 2 * g.monitorRoom + (g.stack.map fun v => v.category).sum ≤ W) (hn : U.methodNamed? y = some mk) (hp : c0 + mc ≤ R.cells ∧ s0 + ms ≤ R.slots ∧ Pc a U) :
    ∃ (o : Outcome) (t T' : State) (L : List Loc), Stand p l e R s m sargs below meth c T' (Ls ++ L) (c0 + mc) (s0 + ms) ∧ (∀ q ∈ L, free q.base) ∧ T'.heap = t.heap ∧ T'.vm = t.vm ∧ Qc a (U.calling g mk a) o t ∧
      (∀ v, o = .returned v → Steps p.tables e below (doInvoke e (U.setTop g) [] mk a).1 (T'.setTop { g with pc := g.pc + len, stack := v.toList ++ g.stack })) ∧
      (∀ b, o = .threw b → Steps p.tables e below (doInvoke e (U.setTop g) [] mk a).1 ((T'.setTop g).pushFrame (.throwing b))) := by
  have h1 : (headSpec ws rm).pre.before a U = true := atoms_intro fun w hw => hws w hw _ _ X.warmed
  have h2 := hws _ hcode a U X.warmed
  have h3 := hinit a U X.warmed
  obtain ⟨methY, cY, hmY, hcY, -, hlY, -, -, -, -⟩ := Cond.code_spec hn h2
  obtain ⟨kY, hkY, -⟩ := className_of_methodNamed hn
  have hinitY : kY.init = .initialized := Cond.initialized_spec (findClass_of_methodNamed hn) hkY h3
  have h : At U g.method c below := by rw [hg]; exact X.here
  have happ : (headSpec ws rm).appliesLoose y e.platform (U.calling g mk a) = true :=
    Spec.appliesLoose_calling (g := g) h hdg hn hkY hinitY
      (X.room_calling (g := g) (R' := (headSpec ws rm).room) hsize hmY hcY hframes (by rw [hlY]; show _ + _ + rm.locals ≤ _; omega) (by show c0 + rm.cells ≤ _; rw [hrc]; exact hp.1) (by show s0 + rm.slots ≤ _; rw [hrs]; exact hp.2.1)) h1
  obtain ⟨mid, hmid⟩ := h.above
  have hfr : (U.setTop g).frames = (.java g :: mid) ++ below := by rw [State.frames_setTop' g h.top, hmid]; rfl
  obtain ⟨o, s₂, hsteps, -, hend, hq⟩ := Steps.callFree hM p X.admits X.cas X.clock (acts := []) hfr happ (hblind _ _ g mk hp.2.2) trivial
  obtain ⟨hq1, L, hfe, hL⟩ := hq
  have hq' : Qc a (U.calling g mk a) o s₂ := hq1
  rw [State.frames_setTop' g h.top] at hend
  have hfe : fe_X (U.calling g mk a) s₂ L mc ms := hfe
  obtain ⟨hW₂, e2, q2, q3, q4, q5, q6⟩ := id hfe
  have e3 : s₂ = ({ (U.calling g mk a).setFrames s₂.frames with heap := s₂.heap, slotsUsed := s₂.slotsUsed } : State).setVm s₂.vm := by
    have : s₂ = ({ s₂ with vm := (U.calling g mk a).vm } : State).setVm s₂.vm := rfl
    rw [e2] at this
    exact this
  have hW' : U.WarmedH s₂.vm := hW₂
  obtain ⟨g₀, hg0⟩ := Option.isSome_iff_exists.mp h.top
  obtain ⟨r, hr⟩ := State.topJava?_eq_some.mp hg0
  have hr' : (({ U with heap := s₂.heap, slotsUsed := s₂.slotsUsed } : State).setVm s₂.vm).frames = .java g₀ :: r := hr
  have hsame : U.sameButNew ({ U with heap := s₂.heap, slotsUsed := s₂.slotsUsed } : State) L mc ms := by
    refine ⟨?_, q2, q3, q4, q5, q6⟩
    obtain ⟨t, ht, -⟩ := State.frames_cons hr
    show ({ U with heap := s₂.heap, slotsUsed := s₂.slotsUsed } : State) = { U.setFrames U.frames with heap := s₂.heap, slotsUsed := s₂.slotsUsed }
    rw [State.setFrames_self ht]
  have X9 : Stand p l e R s m sargs below meth c (({ U with heap := s₂.heap, slotsUsed := s₂.slotsUsed } : State).setVm s₂.vm) (Ls ++ L) (c0 + mc) (s0 + ms) :=
    ⟨X.admits, X.cas, X.clock, X.frames, X.room, X.hears, X.method, X.code, (X.here.setHeapUsed s₂.heap s₂.slotsUsed).setVm hW'.alike, X.tail, State.WarmedH.trans X.warmed hW', X.limits, X.bytes, X.same.trans (hsame.setVm s.vm)⟩
  refine ⟨o, s₂, (({ U with heap := s₂.heap, slotsUsed := s₂.slotsUsed } : State).setVm s₂.vm), L, X9, hL, rfl, rfl, hq', fun v hv => ?_, fun b hb => ?_⟩
  · subst hv
    obtain ⟨c₂, i₂, len₂, hc₂, hd₂, hf₂⟩ := hend
    have hcc : c₂ = c := by
      have h1 : s₂.code? g.method = U.code? g.method := by
        rw [State.code?_eq, State.code?_eq, hW'.alike.method?]
      exact Option.some.inj (hc₂.symm.trans (h1.trans h.code))
    subst hcc
    have hlen : len₂ = len := by rw [hdg] at hd₂; cases hd₂; rfl
    subst hlen
    have hs₂ : s₂ = (({ U with heap := s₂.heap, slotsUsed := s₂.slotsUsed } : State).setVm s₂.vm).setTop { g with pc := g.pc + len₂, stack := v.toList ++ g.stack } := by
      refine e3.trans ?_
      rw [hf₂, State.calling_eq h.top, State.setFrames_setFrames, State.setTop_of_frames _ hr', hr]
      rfl
    rw [← hs₂]
    exact hsteps
  · subst hb
    have hf₂ : s₂.frames = .throwing b :: .java g :: U.frames.tail := hend
    have hs₂ : s₂ = ((({ U with heap := s₂.heap, slotsUsed := s₂.slotsUsed } : State).setVm s₂.vm).setTop g).pushFrame (.throwing b) := by
      refine e3.trans ?_
      rw [hf₂, State.calling_eq h.top, State.setFrames_setFrames, State.pushFrame, State.setTop_of_frames _ hr', State.setFrames_setFrames, State.frames_setFrames _ (State.cur_lt_of_frames hr'), hr]
      rfl
    rw [← hs₂]
    exact hsteps
end THROWC

section THROWR
variable {p : Program} {l : Launch} {e : Env} {R : Room} {s : State} {m : MethodId} {args : Array Value} {below : List Frame} {meth : Method} {c : Code} {H : Heap} {locs : List Loc} {cells slots : Nat}
variable {y : MethodName} {bytes cc : ByteArray} {maxL nL mc ms n index : Nat} {ret : Option FieldType} {ws : List Cond} {rm : Room} {Pc : Array Value → State → Prop} {Qc : Array Value → State → Outcome → State → Prop} {free : Addr → Prop} {Ts : List Cond} {own C : String} {b : Addr} {As rest : List Value} {g : JFrame}
def mx_Run (p : Program) (l : Launch) (e : Env) (R : Room) (s : State) (m : MethodId) (args : Array Value) (below : List Frame) (meth : Method) (c : Code) (H : Heap) (locs : List Loc) (cells slots mc ms : Nat) (g : JFrame) (rest : List Value) (Qa : State → Outcome → State → Prop) (free : Addr → Prop) : Prop :=
  ∀ T : State, T.heap = H → Stand p l e R s m args below meth c T locs cells slots → ∃ (o : Outcome) (st₀ t T' : State) (L : List Loc), st₀.heap = H ∧ Stand p l e R s m args below meth c T' (locs ++ L) (cells + mc) (slots + ms) ∧ (∀ q ∈ L, free q.base) ∧ T'.heap = t.heap ∧ T'.vm = t.vm ∧ Qa st₀ o t ∧
    (∀ v, o = .returned v → ∀ target, Steps p.tables e below (T'.setTop { g with pc := g.pc + 3, stack := v.toList ++ rest }) target → Steps p.tables e below (T.setTop g) target) ∧
    (∀ b, o = .threw b → ∀ target, Steps p.tables e below ((T'.setTop { g with stack := rest }).pushFrame (.throwing b)) target → Steps p.tables e below (T.setTop g) target)
theorem mx_runV (S : CallFix p m c cc nL s args Ts own) (hM : mx_Met l y ws rm Pc Qc mc ms free) (cw : CallW R s args own C index y bytes maxL ret ws rm mc ms n) (hp : PreV s H C b Pc As)
    (hg : g.method = m) (hn : As.length = n) (hsize : g.locals.size = nL) (hstack : g.stack = As.reverse ++ .ref b :: rest) (hW : 2 * g.monitorRoom + (rest.map fun v => v.category).sum ≤ 8) (hdg : decode cc g.pc = .ok (.invokevirtual index, 3)) (hf : cells + mc ≤ R.cells ∧ slots + ms ≤ R.slots) :
    mx_Run p l e R s m args below meth c H locs cells slots mc ms g rest (Qc (Value.ref b :: As).toArray) (free) := by
  obtain ⟨⟨hrc, hrs, hfr, hlo, hws, hcw, hcode, hini, hy, hlen, hl⟩, hin, hse⟩ := cw
  obtain ⟨hx, hb, hml, ho, -⟩ := S
  obtain ⟨hbl, ⟨cellB, hcB, hoB, hclB⟩, hPc⟩ := hp
  intro T hT X
  obtain ⟨mk, methM, hnamed, hmethM, hstM, habM⟩ := Cond.instanceMethod_spec hin
  obtain ⟨methM', cM, hmethM', -, -, -, -, -, -, hsigM⟩ := Cond.code_spec hnamed hcode
  cases hmethM.symm.trans hmethM'
  obtain ⟨c2, r2, m2, q1, q2, q3, q4, kP, hkP, hkPi⟩ := Cond.selects_spec hse
  cases hclB.symm.trans q1
  cases (State.methodFound?_of_named hnamed hy).symm.trans q2
  cases hnamed.symm.trans q3
  have hselP : selectMethod e.platform s.vm cellB.cls mk = .method mk := by rw [Launch.admits_selectMethod X.admits]; exact q4
  obtain ⟨vm₁, X₁, hstep₁⟩ := X.invokevirtual hx ho hl hnamed hmethM hstM hkP hkPi hy (a := b) (cell := cellB) (by rw [hT]; exact hcB)
    (fun z h => by rw [h] at hoB; cases hoB) hselP hmethM habM hkP hkPi (g := g) hg (argsL := As) (rest := rest) (hn.trans (hlen _ hsigM)) hstack (by rw [hb]; exact hdg)
  obtain ⟨o, t, T', L, X', hL, e1, e2, hq, r1, r2⟩ := mx_back (W := 8) hM hbl hrc hrs hfr hlo hws hcw (fun a' U hW => word_at hW (Or.inl (by first | rfl | simp [Cond.onTables, Cond.keeps, Cond.steady])) hini) (g := { g with stack := rest }) (ig := .invokevirtual index) (len := 3) (mk := mk) (a := (Value.ref b :: As).toArray) X₁ hg (hsize.trans hml.symm) (by rw [hb]; exact hdg) hW (X₁.named hnamed) ⟨hf.1, hf.2, hPc (T.setVm vm₁) hT X₁.warmed⟩
  refine ⟨o, _, t, T', L, ?_, X', hL, e1, e2, hq, fun v hv target h => hstep₁ _ fun acts => ?_, fun b hb target h => hstep₁ _ fun acts => ?_⟩
  · exact hT
  · rw [doInvoke_state]; exact (r1 v hv).trans h
  · rw [doInvoke_state]; exact (r2 b hb).trans h
end THROWR
section THROWS2
variable {G : mm_G} {J : mm_J} {d mc ms kc ks : Nat} {Q : Option Value → mm_M → Prop} {M : mm_M} {pc : Nat} {lv : List (Option Value)} {st : List Value}
/-- what a caller makes of an answer: what was thrown, or a value -/
def mx_c (o : Option Value) (T : Nat → Prop) (E : Prop) : Prop := match o with
  | some (.retAddr a) => T a
  | _ => E
theorem mx_c_ret {o : Option Value} {T : Nat → Prop} {E : Prop} (h : mx_c o T E) (hne : ∀ a, o ≠ some (.retAddr a)) : E := by
  unfold mx_c at h
  split at h
  · exact absurd rfl (hne _)
  · exact h
theorem mm_call2 {p : Program} {l : Launch} {e : Env} {R : Room} {s : State} {m : MethodId} {args : Array Value} {below : List Frame} {meth : Method} {c : Code} {H : Heap} {locs : List Loc} {cells slots mc2 ms2 : Nat} {Qs : State → Prop} {ls : Array Slot} {st0 rest : List Value} {Q2 : Option Value → mm_M → Prop} {av : Array Value}
    (hr : mx_Run p l e R s m args below meth c H locs cells slots mc2 ms2 (F0 m pc ls st0) rest (mm_postX G Q2 av) (mm_fr G)) (hS : va_S (mm_fr G) s.heap H locs)
    (kk : ∀ (o : Option Value) (M' : mm_M) (H1 : Heap) (locs1 : List Loc), (∀ a, o ≠ some (.retAddr a)) → Q2 o M' → mm_ok G M' s H1 → va_S (mm_fr G) s.heap H1 locs1 → W p l e R s m args below meth c H1 locs1 (cells + mc2) (slots + ms2) Qs (F0 m (pc + 3) ls (mm_res o rest)))
    (kt : ∀ (b : Nat) (M' : mm_M) (H1 : Heap) (locs1 : List Loc), Q2 (some (.retAddr b)) M' → mm_ok G M' s H1 → va_S (mm_fr G) s.heap H1 locs1 → ∀ T : State, T.heap = H1 → Stand p l e R s m args below meth c T locs1 (cells + mc2) (slots + ms2) → ∃ t, Steps p.tables e below ((T.setTop (F0 m pc ls rest)).pushFrame (.throwing b)) t ∧ Qs t) : W p l e R s m args below meth c H locs cells slots Qs (F0 m pc ls st0) := by
  intro T hT X
  obtain ⟨oc, st₀, t, T', L, h0, X', hL, e1, e2, ⟨⟨o, M', hv, hq, hb⟩, hz, hk⟩, stp1, stp2⟩ := hr T hT X
  rw [h0] at hz hk
  have hal : t.vm.Alike s.vm := by
    have h1 : s.vm.Alike T'.vm := X'.warmed.alike
    rw [e2] at h1
    exact h1.symm
  have hS' : va_S (mm_fr G) s.heap T'.heap (locs ++ L) := ⟨Nat.le_trans hS.1 (by rw [e1]; exact hz), fun q h1 h2 => by rw [e1, hk q (Nat.lt_of_lt_of_le h1 hS.1) h2]; exact hS.2.1 q h1 h2, fun q hq => by
      rcases List.mem_append.mp hq with h | h
      · exact hS.2.2 q h
      · exact hL q h⟩
  have hok' : mm_ok G M' s T'.heap := by rw [e1]; exact mm_ok_moved hal hb
  cases oc with
  | returned v =>
    obtain ⟨rfl, hne⟩ := hv
    obtain ⟨t2, a1, b1⟩ := kk v M' T'.heap (locs ++ L) hne hq hok' hS' T' rfl X'
    rw [← mm_res_eq] at a1
    exact ⟨t2, stp1 v rfl t2 a1, b1⟩
  | threw b =>
    have hv' : o = some (.retAddr b) := hv
    subst hv'
    obtain ⟨t2, a1, b1⟩ := kt b M' T'.heap (locs ++ L) hq hok' hS' T' rfl X'
    exact ⟨t2, stp2 b rfl t2 a1, b1⟩
theorem wx_callV {J2 : mm_J} {d2 mc2 ms2 i n ci b : Nat} {As rest st0 : List Value} {q : vw_C} {kc' ks' : Nat} (hd : decode J.2.1 pc = .ok (.invokevirtual i, 3)) (hL : lk_V J.1.cls i J2 n) (hn : As.length = n) (hst : st0 = As.reverse ++ .ref b :: rest) (hs : mm_sh M b = some (.inl ci)) (hq : mm_cl[ci]? = some q) (hcls : q.1 = J2.1.cls) (hcat : (rest.map fun v => v.category).sum ≤ 8) (h1 : mc2 + kc' ≤ kc) (h2 : ms2 + ks' ≤ ks)
    (hJ : Cond.code J.1 J.2.1 J.2.2.1 J.2.2.2 ∈ gt_ws) (hlaw : J.1.cls ≠ "ConsulDeskLaw")
    (hM : mx_ G J2 d2 mc2 ms2 (.ref b :: As) M (fun o M' => mx_c o (fun a => Q (some (.retAddr a)) M') (wa_ 2 G J (d2 + 1) mc ms Q kc' ks' M' (pc + 3) lv (mm_res o rest)))) : wa_ 2 G J (d2 + 1) mc ms Q kc ks M pc lv st0 := by
  intro p l e R s m args below meth c H locs cells slots ls C hok hS hc hs' hl
  obtain ⟨⟨w1, w2, w3, w4, w5⟩, w6, w7⟩ := hL
  have hR := C.2.2.2.2.2.2.2
  have hts := C.1.2.2.2.2
  obtain ⟨-, cell, g1, g2, g3, -⟩ := mm_obj hok hs hq
  have hcl := (C.2.2.2.2.1.1.1 ci q hq).2.1
  have hN := C.2.2.2.1.resolve_left hlaw
  obtain ⟨meth', c', a1, a2, a3, a4, a5, a6, a7, -⟩ := Cond.code_spec hN.2.1 (C.1.2.2.2.2 _ hJ)
  cases hN.2.2.1.symm.trans a1
  cases hN.2.2.2.symm.trans a2
  have hout : ∀ x ∈ c.exceptionTable.toList, covers x pc = false := by
    have h0 : c.exceptionTable.size = 0 := by simpa [Array.isEmpty] using a7
    have h1 : c.exceptionTable.toList = [] := List.eq_nil_of_length_eq_zero (by simpa using h0)
    intro y hy
    rw [h1] at hy
    cases hy
  have hcb : CallB R s args J.1.cls i J2.1 J2.2.1 J2.2.2.1 J2.2.2.2 (mm_ws J2) (mm_rm d2 mc2 ms2) mc2 ms2 n := callB_of (Ts := gt_ws) n hts (mm_good w2) rfl rfl rfl (hts _ w3) (hts _ w1) w4 ⟨by show d2 + 1 ≤ _; omega, by show 8 + (J2.2.2.1 + 11) + 80 * d2 ≤ _; omega⟩
  refine mm_call2 (mx_runV (C := J2.1.cls) (As := As) (rest := rest) (b := b) C.1 (hM l) ⟨hcb, hts _ w6, hts _ w7⟩ ⟨mm_blind G M _, ⟨cell, g1, by rw [g3]; rfl, by rw [g2, ← hcls]; exact hcl⟩, mm_enter C hok hS (.ref b :: As)⟩ rfl hn hl.1 hst (mm_cat hcat) hd ⟨by omega, by omega⟩) hS ?_ ?_
  · intro o M' H1 locs1 hne hQ hok1 hS1
    exact mx_c_ret hQ hne p l e R s m args below meth c H1 locs1 _ _ ls C hok1 hS1 (by omega) (by omega) hl
  · intro a M' H1 locs1 hQ hok1 hS1 T hT X
    have X := stand_widen X (by omega : cells + mc2 ≤ mc) (by omega : slots + ms2 ≤ ms)
    obtain ⟨hsteps, hrun, hend, hW, hsame⟩ := X.leaveThrown a (g := F0 m pc ls rest) rfl rfl rfl hout C.2.2.1
    refine ⟨_, hsteps, .threw a, hrun, hend, ⟨⟨some (.retAddr a), M', rfl, hQ, ?_⟩, hS1.F (show (T.setFrames _).heap = H1 from hT)⟩, locs1, ⟨hW, ?_⟩, hS1.2.2⟩
    · show mm_ok G M' _ T.heap
      rw [hT]
      exact mm_ok_moved hW.alike hok1
    · exact hsame
end THROWS2

section CATCHT
def jX12_tariff : mm_J := (yX12_tariff, cX12_tariff, 3, some .int)
def mt_ws : List Cond := Cond.codeWith jX12_tariff.1 jX12_tariff.2.1 3 (some .int) [(43, 47, 50, 13)] :: gt_ws
theorem wd_X12_tariff : Cond.codeWith jX12_tariff.1 jX12_tariff.2.1 3 (some .int) [(43, 47, 50, 13)] ∈ gt_ws := gt_of 1043 (by decide +kernel) (by decide +kernel)
def mt_ (G : mm_G) (d mc ms : Nat) (av : List Value) (M : mm_M) (Q : Option Value → mm_M → Prop) : Prop := ∀ l : Launch, Met l jX12_tariff.1 mt_ws (mm_rm d mc ms) (va_Pc av (mm_pre G M)) (mm_post G Q) mc ms (mm_fr G)
theorem mt_of {G : mm_G} {d mc ms : Nat} {av : List Value} {M : mm_M} {Q : Option Value → mm_M → Prop} (lv : List (Option Value)) (hlv : mm_pl lv = lv_args 0 av) (hlen : (lg_sl av).length ≤ 3) (h : wa_ 0 G jX12_tariff d mc ms Q mc ms M 0 lv []) : mt_ G d mc ms av M Q := by
  intro l
  refine va_MetW (cc := jX12_tariff.2.1) (maxL := 3) (ret := some .int) (by decide) rfl ?_
  intro p e s m args below meth c s₁ B hml hv
  obtain ⟨rfl, hok, hK, hZ, hsz⟩ := hv
  have hts := atoms_spec (ws := mt_ws) B.pre
  have hl := lv_entry av (n := 3) hlen
  rw [← hlv] at hl
  rw [lg_entry_eq]
  exact h p l e _ s m av.toArray below meth c s.heap [] 0 0 _ ⟨⟨B.exec, B.bytes, hml, findClass_of_methodNamed B.named, fun w hw => hts w (List.mem_cons_of_mem _ hw)⟩, B.returns, B.notSynchronized, Or.inr ⟨(name_of_methodNamed B.named B.method).1, B.named, B.method, (Stand.of_body B).code⟩, hK, hZ, hsz, Nat.le_refl _, Nat.le_refl _, Nat.le_refl _, Nat.le_refl _⟩ hok va_S.rf (Nat.le_of_eq (Nat.zero_add _)) (Nat.le_of_eq (Nat.zero_add _)) hl
/-- what is thrown into a frame whose table has one row, which covers it and names a class that can be linked, is caught there -/
theorem wt_step {e : Env} {s : State} {f : JFrame} {a : Addr} {r : List Frame} {meth : Method} {code : Code} {x : ExceptionTableEntry} {c : ClassId} {cell : Cell} {k1 k2 : Class} (hm : s.vm.method? f.method = some meth) (hc : meth.code = some code) (hx1 : code.exceptionTable.toList = [x])
    (hx : x.startPc ≤ f.pc ∧ f.pc < x.endPc) (h0 : x.catchType ≠ 0) (hl : s.vm.ClassLinks e.platform f.method.cls x.catchType c) (hcell : s.heap[a]? = some cell) (hobj : ∀ k, cell.vm ≠ .statics k) (hk1 : s.vm.classes[cell.cls]? = some k1) (hk2 : s.vm.classes[c]? = some k2) (hfit : s.vm.assignable cell.cls c = true) :
    (stepThrowing e s a (.java f :: r)).Is ((s.setVm (s.vm.noted f.method.cls x.catchType (.cls c))).setFrames (.java { f with pc := x.handlerPc, stack := [.ref a] } :: r)) [] := by
  obtain ⟨ha, ht⟩ := (resolveClass_links e.toSetting hl).op (op := VmOp.resolveClass f.method.cls x.catchType) rfl
  have hal : s.vm.Alike (s.vm.noted f.method.cls x.catchType (.cls c)) := (Vm.Alike.refl s.vm).noted _ _ _
  obtain ⟨j1, hj1, -⟩ := hal.2.2 _ _ hk1
  obtain ⟨j2, hj2, -⟩ := hal.2.2 _ _ hk2
  have hf2 : (s.vm.noted f.method.cls x.catchType (.cls c)).assignable cell.cls c = true := by rw [hal.assignable]; exact hfit
  simp only [stepThrowing, searchFrame, vmDo]
  generalize hr : Sem.go _ e false [] s = res
  obtain ⟨as, rfl, ha⟩ := Sem.eq_ok_of hr (a := Handler.found x.handlerPc) (s' := s.setVm (s.vm.noted f.method.cls x.catchType (.cls c))) (acts' := []) (by
    simp [findHandler, hm, hc, hx1, findHandler.go, hx.1, hx.2, h0, ha, ht, hcell, hobj, hj1, hj2, hf2, VmOp.dirties, VmOp.acts])
  exact ⟨rfl, ha⟩
variable {fl : Nat} {G : mm_G} {d mc ms kc ks : Nat} {Q : Option Value → mm_M → Prop} {M : mm_M} {lv : List (Option Value)}
theorem wt_call {d2 mc2 ms2 b : Nat} {kc' ks' : Nat} (hs : mm_sh M b = some (.inl 12)) (h1 : mc2 + kc' ≤ kc) (h2 : ms2 + ks' ≤ ks)
    (hM : mx_ G jX12_reads d2 mc2 ms2 [.ref b] M (fun o M' => mx_c o (fun a => mm_sh M' a = some (.inl 11) ∧ wa_ fl G jX12_tariff (d2 + 1) mc ms Q kc' ks' M' 50 lv [.ref a]) (wa_ fl G jX12_tariff (d2 + 1) mc ms Q kc' ks' M' 47 lv (mm_res o [])))) : wa_ fl G jX12_tariff (d2 + 1) mc ms Q kc ks M 44 lv [.ref b] := by
  intro p l e R s m args below meth c H locs cells slots ls C hok hS hc hs' hl
  obtain ⟨⟨w1, w2, w3, w4, w5⟩, w6, w7⟩ := lk_X12_256
  have hR := C.2.2.2.2.2.2.2
  have hts := C.1.2.2.2.2
  have hq : mm_cl[12]? = some (RX12, TX12, 50) := rfl
  obtain ⟨-, cell, g1, g2, g3, -⟩ := mm_obj hok hs hq
  have hcl := (C.2.2.2.2.1.1.1 12 _ hq).2.1
  have hN := C.2.2.2.1.resolve_left (by decide)
  obtain ⟨m', meth', c', a0, a1, a2, a3, a4, a5, a6, a7, -⟩ := Cond.codeWith_spec (C.1.2.2.2.2 _ wd_X12_tariff)
  cases hN.2.1.symm.trans a0
  cases hN.2.2.1.symm.trans a1
  cases hN.2.2.2.symm.trans a2
  have hcb : CallB R s args RX12 256 jX12_reads.1 jX12_reads.2.1 jX12_reads.2.2.1 jX12_reads.2.2.2 (mm_ws jX12_reads) (mm_rm d2 mc2 ms2) mc2 ms2 0 := callB_of (Ts := gt_ws) 0 hts (mm_good w2) rfl rfl rfl (hts _ w3) (hts _ w1) w4 ⟨by show d2 + 1 ≤ _; omega, by show 8 + (jX12_reads.2.2.1 + 11) + 80 * d2 ≤ _; omega⟩
  refine mm_call2 (mx_runV (C := RX12) (As := []) (rest := []) (b := b) C.1 (hM l) ⟨hcb, hts _ w6, hts _ w7⟩ ⟨mm_blind G M _, ⟨cell, g1, by rw [g3]; rfl, by rw [g2]; exact hcl⟩, mm_enter C hok hS [.ref b]⟩ rfl rfl hl.1 rfl (mm_cat (Nat.zero_le _)) dX12_tariff_44 ⟨by omega, by omega⟩) hS ?_ ?_
  · intro o M' H1 locs1 hne hQ hok1 hS1
    exact mx_c_ret hQ hne p l e R s m args below meth c H1 locs1 _ _ ls C hok1 hS1 (by omega) (by omega) hl
  · intro a M' H1 locs1 hQ hok1 hS1 T hT X
    have hQ' : mm_sh M' a = some (.inl 11) ∧ wa_ fl G jX12_tariff (d2 + 1) mc ms Q kc' ks' M' 50 lv [.ref a] := hQ
    have hq2 : mm_cl[11]? = some (RX11, TX11, 8) := rfl
    obtain ⟨-, cellX, x1, x2, x3, -⟩ := mm_obj hok1 hQ'.1 hq2
    have hclsX := (C.2.2.2.2.1.1.1 11 _ hq2).2
    have hex : ∃ x : ExceptionTableEntry, c.exceptionTable.toList = [x] ∧ x.startPc = 43 ∧ x.endPc = 47 ∧ x.handlerPc = 50 ∧ x.catchType = 13 := by
      cases hL : c.exceptionTable.toList with
      | nil => rw [hL] at a5; cases a5
      | cons x t =>
        cases t with
        | nil =>
          rw [hL] at a5
          simp only [List.map_cons, List.map_nil, List.cons.injEq, Prod.mk.injEq, and_true] at a5
          exact ⟨x, rfl, a5.1, a5.2.1, a5.2.2.1, a5.2.2.2⟩
        | cons z t2 => rw [hL] at a5; simp at a5
    obtain ⟨x, hx1, y1, y2, y3, y4⟩ := hex
    have hpl : e.platform.magicAccessors = ({} : Platform).magicAccessors := by rw [X.admits.platform]
    obtain ⟨cT, hcT, hlk⟩ := Cond.classLink_spec C.1.2.2.2.1 (hts _ wc_X12_13) e.platform hpl
    have hcTe : cT = G.1.1 11 := Option.some.inj (hcT.symm.trans hclsX.1)
    subst hcTe
    obtain ⟨dk, _, _, kt, hdk, _, _, _, _, hkt, _, hopen⟩ := hlk.here
    have hlk0 := X.warmed.classLinks hlk
    have hW' : s.WarmedH (T.vm.noted m.cls 13 (.cls (G.1.1 11))) := X.warmed.noted hdk hopen (State.rightAt_cls hlk)
    have hal := X.warmed.alike
    obtain ⟨kt', hkt', -⟩ := hal.2.2 _ _ hkt
    have hfit : T.vm.assignable (G.1.1 11) (G.1.1 11) = true := by rw [hal.assignable]; exact va_assign hclsX
    have X2 := X.noted hW'
    obtain ⟨t, hsteps, hQs⟩ := hQ'.2 p l e R s m args below meth c H1 locs1 _ _ ls C hok1 hS1 (by omega : cells + mc2 + kc' ≤ mc) (by omega : slots + ms2 + ks' ≤ ms) hl (T.setVm (T.vm.noted m.cls 13 (.cls (G.1.1 11)))) hT X2
    refine ⟨t, ?_, hQs⟩
    obtain ⟨hgo, hw⟩ := X.here.throwing (g := F0 m 44 ls []) a
    refine Steps.head hgo hw ?_
    rw [stepThread_throwing (frames_entered X.here.top _), (wt_step (s := (T.setTop (F0 m 44 ls [])).pushFrame (.throwing a)) (f := F0 m 44 ls []) (meth := meth) (code := c) (x := x) (c := G.1.1 11) (cell := cellX) X.method' X.code hx1 ⟨by rw [y1]; show 43 ≤ 44; decide, by rw [y2]; show 44 < 47; decide⟩ (by rw [y4]; decide) (by rw [y4]; exact hlk0) (by show T.heap[a]? = _; rw [hT]; exact x1) (fun k h => by rw [x3] at h; cases h) (by rw [x2]; exact hkt') hkt' (by rw [x2]; exact hfit)).1]
    obtain ⟨g₀, hg0⟩ := Option.isSome_iff_exists.mp X.here.top
    obtain ⟨r, hr⟩ := State.topJava?_eq_some.mp hg0
    rw [State.setTop_of_frames _ (show (T.setVm (T.vm.noted m.cls 13 (.cls (G.1.1 11)))).frames = .java g₀ :: r from hr)] at hsteps
    rw [y3, y4, hr, List.tail_cons, State.pushFrame, State.setTop_of_frames _ hr, State.setFrames_setFrames]
    have e9 : ∀ (F K : List Frame) (v : Vm), ((T.setFrames F).setVm v).setFrames K = (T.setVm v).setFrames K := fun F K v => State.setFrames_setFrames (T.setVm v) F K
    rw [e9]
    exact hsteps
end CATCHT
