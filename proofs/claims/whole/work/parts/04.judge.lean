/-! THE CLAIM OUT OF ONE WALK OF THE LAW'S BODY. Your part is whole_start (and what it stands on); all else here is the same for every law, but numbers. -/
def R_law : String := "ConsulDeskLaw"
def lw_P (b : Addr) (xs : List Int32) (args : Array Value) (s : State) : Prop := args = #[.ref b] ∧ s.IntsAt b xs ∧ xs.length ≤ 3072 ∧ (Jvm.Cond.and given_1 narrow_1).before args s = true
def lw_Q (_ : Array Value) (s : State) (o : Outcome) (t : State) : Prop := o = .returned (some (.int 1)) ∧ Framed s o t [] 601024 7293034
def lw_Z (below : List Frame) (a : Array Value) (s : State) : State → Prop := fun t => ∃ o, t.status = .running ∧ Ended t below o ∧ lw_Q a s o t
/-- the law's own end, with 1 on the stack, nothing written that was there before, its room as the claim has it -/
theorem lw_ret {p : Program} {l : Launch} {e : Env} {s : State} {m : MethodId} {below : List Frame} {meth : Method} {c : Code} {b : Nat} (hx : p.tables.exec = Jvm.exec) (hb : c.code = code) (hr : meth.sig.returnType = ret) (hlocks : meth.locks = false) {pc : Nat} {H : Heap} {ls : Array Slot} (hdg : decode code pc = .ok (.ireturn, 1)) : W p l e room_1 s m #[Value.ref b] below meth c H [] 601024 7293034 (lw_Z below #[Value.ref b] s) (F0 m pc ls [.int 1]) := by
  intro T hT X
  obtain ⟨fs, hret, hrun, hended, hW, hframe⟩ := X.leave (v := some (.int 1)) (hlocks := hlocks) (fun h => by rw [hr] at h; cases h)
  have hmeth' : T.vm.method? m = some meth := X.method'
  refine ⟨T.setFrames fs, ?_, .returned (some (.int 1)), hrun, hended, rfl, ⟨_, rfl⟩, hW, hframe⟩
  jvm_step X.here [X.here.top, hx, hb, hdg, hmeth', hr, ret, narrow_b1]
  (try refine ⟨rfl, ?_⟩); (try refine ⟨rfl, ?_⟩)
  first | (intro acts; rw [hret _ acts rfl rfl rfl]) | rw [hret _ _ rfl rfl rfl]
  exact Steps.refl _
/-- what holds at the law's entry: the machine, the code, the tables' words (any of lw_tbl by 'hts w (by decide +kernel)'), the script of L ints xs at the cell b, what the Statement gives of the start (any of its parts by flat_of_before) -/
def lw_At (p : Program) (s : State) (m : MethodId) (meth : Method) (c : Code) (b L : Nat) (xs : Nat → Int32) : Prop :=
  p.tables.exec = Jvm.exec ∧ c.code = code ∧ meth.sig.returnType = ret ∧ c.maxLocals = 4 ∧ s.vm.findClass R_law = some m.cls ∧ (∀ w ∈ lw_tbl, w.before #[Value.ref b] s = true) ∧ va_X b L xs s s.heap ∧ b < s.heap.size ∧ meth.locks = false ∧ (Jvm.Cond.and given_1 narrow_1).before #[Value.ref b] s = true

/-! ===== the judgements: wa (a frame of a method, over a memory), ma (a method's contract, over a memory) ===== -/
/-- a method: its name, its bytes, its locals, what it returns -/
abbrev mm_J : Type := MethodName × ByteArray × Nat × Option FieldType
def mm_ws (J : mm_J) : List Cond := Cond.code J.1 J.2.1 J.2.2.1 J.2.2.2 :: gt_ws
def mm_rm (d mc ms : Nat) : Room := { frames := d, cells := mc, slots := ms, locals := 80 * d }
def mm_tys (G : mm_G) : List (ClassId × FieldType) := [(G.2.1 0, mm_el 0), (G.2.1 1, mm_el 1), (G.2.1 2, mm_el 2), (G.2.1 3, mm_el 3), (G.2.1 4, mm_el 4), (G.2.1 5, mm_el 5), (G.2.1 6, mm_el 6), (G.2.1 7, mm_el 7), (G.2.1 8, mm_el 8), (G.2.1 9, mm_el 9)]
theorem mm_tys_at (G : mm_G) {k : Nat} (hk : k < 10) : (mm_tys G)[k]? = some (G.2.1 k, mm_el k) := by
  match k, hk with
  | 0, _ => rfl
  | 1, _ => rfl
  | 2, _ => rfl
  | 3, _ => rfl
  | 4, _ => rfl
  | 5, _ => rfl
  | 6, _ => rfl
  | 7, _ => rfl
  | 8, _ => rfl
  | 9, _ => rfl
  | n + 10, h => exact absurd h (by omega)
/-- words of a nest, casts and arrays of classes: not among those that a contract carries -/
def mm_nw : List Cond := [.fieldLinkNest "ConsulDesk$Change" 7 "ConsulDesk" "WORTHS" "[I" "ConsulDesk", .fieldLinkNest "ConsulDesk$Port" 9 "ConsulDesk" "WORTHS" "[I" "ConsulDesk", .fieldLinkNest "ConsulDesk$Change" 38 "ConsulDesk" "SPARED" "[I" "ConsulDesk", .fieldLinkNest "ConsulDesk$Paper" 40 "ConsulDesk" "WORTHS" "[I" "ConsulDesk", .fieldLinkNest "ConsulDeskModel" 129 "ConsulDeskModel$Stop" "kind" "I" "ConsulDeskModel", .fieldLinkNest "ConsulDeskModel" 134 "ConsulDeskModel$Stop" "place" "I" "ConsulDeskModel",
  .methodLinkNest "ConsulDesk" 29 ⟨"ConsulDesk$Tape", "<init>", "()V"⟩ "ConsulDesk", .methodLinkNest "ConsulDesk" 36 ⟨"ConsulDesk$Tokens", "<init>", "()V"⟩ "ConsulDesk", .methodLinkNest "ConsulDesk" 52 ⟨"ConsulDesk$Change", "<init>", "()V"⟩ "ConsulDesk", .methodLinkNest "ConsulDesk$Port" 66 ⟨"ConsulDesk", "accountsBelow", "(I)I"⟩ "ConsulDesk",
  .castable "[I" "java/lang/Cloneable", .castable "ConsulDeskModel$Stop" "ConsulDeskModel$Stop",
  .arrayOver (.object "ConsulDesk$Port"), .arrayOver (.object "ConsulDesk$Tariff"), .arrayOver (.object "ConsulDesk$Paper"), .arrayOver (.object "ConsulDesk$Line"), .arrayOver (.object "ConsulDesk$Test"), .arrayOver (.object "ConsulDesk$Term")]
theorem mm_nw_warm : ∀ w ∈ mm_nw, ∀ s U : State, s.WarmedH U.vm → va_Nw w s → va_Nw w U := by
  intro w hw s U hW h
  unfold mm_nw at hw
  simp only [List.mem_cons, List.not_mem_nil, or_false] at hw
  rcases hw with rfl | rfl | rfl | rfl | rfl | rfl | rfl | rfl | rfl | rfl | rfl | rfl | rfl | rfl | rfl | rfl | rfl | rfl
  all_goals first | exact va_Nw.warmF hW h | exact va_Nw.warmM hW h | exact va_Nw.warmC hW h | exact va_AO.moved hW.alike h
theorem mm_nw_same : ∀ w ∈ mm_nw, ∀ s U : State, s.vm = U.vm → va_Nw w s → va_Nw w U := by
  intro w hw s U hv h
  unfold mm_nw at hw
  simp only [List.mem_cons, List.not_mem_nil, or_false] at hw
  have hal : s.vm.Alike U.vm := by rw [hv]; exact Vm.Alike.refl U.vm
  rcases hw with rfl | rfl | rfl | rfl | rfl | rfl | rfl | rfl | rfl | rfl | rfl | rfl | rfl | rfl | rfl | rfl | rfl | rfl
  all_goals first | exact va_AO.moved hal h | exact va_Nw.same rfl hv h
/-- the statics that nobody writes -/
def mm_Zn : List (String × String × String) := [("ConsulDesk", "WORTHS", "[I"), ("ConsulDesk", "SPARED", "[I"), ("ConsulDeskModel", "WORTH", "[I"), ("java/lang/String", "COMPACT_STRINGS", "Z"), ("java/lang/Throwable", "UNASSIGNED_STACK", "[Ljava/lang/StackTraceElement;"), ("java/lang/Throwable", "SUPPRESSED_SENTINEL", "Ljava/util/List;"), ("jdk/internal/util/Preconditions", "SIOOBE_FORMATTER", "Ljava/util/function/BiFunction;")]
/-- the texts: their lengths and bytes; where each is named -/
def mm_tl : List Nat := [3, 4, 3, 2, 5, 6, 4, 6, 7]
def mm_tx : List (List Int32) := [[102, 101, 101], [119, 104, 101, 110], [97, 110, 100], [105, 115], [118, 97, 108, 117, 101], [115, 104, 101, 101, 116, 115], [112, 111, 114, 116], [115, 101, 97, 108, 101, 100], [60, 62, 61, 43, 42, 47, 59]]
def mm_tr : List (String × Nat × String × Nat) := [("ConsulDesk$Tokens", 68, "fee", 0), ("ConsulDesk$Tokens", 74, "when", 1), ("ConsulDesk$Tokens", 76, "and", 2), ("ConsulDesk$Tokens", 78, "is", 3), ("ConsulDesk$Tokens", 80, "value", 4), ("ConsulDesk$Tokens", 82, "sheets", 5), ("ConsulDesk$Tokens", 84, "port", 6), ("ConsulDesk$Tokens", 86, "sealed", 7), ("ConsulDesk$Tokens", 58, "<>=+*/;", 8),
  ("ConsulDeskModel", 181, "fee", 0), ("ConsulDeskModel", 186, "when", 1), ("ConsulDeskModel", 188, "and", 2), ("ConsulDeskModel", 190, "is", 3), ("ConsulDeskModel", 195, "value", 4), ("ConsulDeskModel", 196, "sheets", 5), ("ConsulDeskModel", 197, "port", 6), ("ConsulDeskModel", 199, "sealed", 7)]
def mm_fr (G : mm_G) : Nat → Prop := fun a => mm_sz G ≤ a
/-- what the tables, the statics and the texts are, at a state with a heap -/
def mm_K (G : mm_G) (U : State) : Prop := va_K G.1 mm_cl (mm_tys G) U ∧ (∀ w ∈ mm_nw, va_Nw w U) ∧ ∀ q ∈ mm_tr, vk_R q.1 q.2.1 q.2.2.1 (G.2.2.2.2.1 q.2.2.2) U
def mm_Z (G : mm_G) (U : State) (H : Heap) : Prop := (∀ (k : Nat) (q : String × String × String), mm_Zn[k]? = some q → va_Z q.1 q.2.1 q.2.2 (G.2.2.2.1 k) (mm_fr G) U H) ∧ vk_S 9 mm_tl mm_tx G.2.2.2.2.1 G.2.2.2.2.2 (mm_fr G) U H
theorem mm_K_warm {G : mm_G} {s U : State} (hW : s.WarmedH U.vm) (h : mm_K G s) : mm_K G U := ⟨va_K.moved hW.alike h.1, fun w hw => mm_nw_warm w hw s U hW (h.2.1 w hw), fun q hq => vk_R.warm hW (h.2.2 q hq)⟩
theorem mm_K_same {G : mm_G} {s U : State} (hv : s.vm = U.vm) (h : mm_K G s) : mm_K G U := ⟨va_K.moved (u := s) (by rw [hv]; exact Vm.Alike.refl U.vm) h.1, fun w hw => mm_nw_same w hw s U hv (h.2.1 w hw), fun q hq => vk_R.same hv.symm (h.2.2 q hq)⟩
theorem mm_Z_moved {G : mm_G} {u U : State} {H : Heap} (hvm : u.vm.Alike U.vm) (h : mm_Z G u H) : mm_Z G U H := ⟨fun k q hq => va_Z.moved hvm (h.1 k q hq), vk_S.moved hvm h.2⟩
theorem mm_Z_kept {G : mm_G} {U : State} {H H1 : Heap} (h : mm_Z G U H) (hq : ∀ a : Nat, a < H.size → ¬ mm_fr G a → H1[a]? = H[a]?) : mm_Z G U H1 := ⟨fun k q h1 => (h.1 k q h1).kept hq, h.2.kept hq⟩
def mm_pre (G : mm_G) (M : mm_M) (U : State) : Prop := mm_ok G M U U.heap ∧ mm_K G U ∧ mm_Z G U U.heap ∧ mm_sz G ≤ U.heap.size
def mm_post (G : mm_G) (Q : Option Value → mm_M → Prop) : Array Value → State → Outcome → State → Prop := fun _ st oc t => (∃ (o : Option Value) (M' : mm_M), oc = .returned o ∧ Q o M' ∧ mm_ok G M' t t.heap) ∧ va_F (mm_fr G) st t
/-- the contract: called with av in the memory M it returns, Q -/
def ma_ (G : mm_G) (J : mm_J) (d mc ms : Nat) (av : List Value) (M : mm_M) (Q : Option Value → mm_M → Prop) : Prop := ∀ l : Launch, Met l J.1 (mm_ws J) (mm_rm d mc ms) (va_Pc av (mm_pre G M)) (mm_post G Q) mc ms (mm_fr G)
/-! what may also throw: the answer 'some (.retAddr a)' stands for 'threw the object at a' -/
def mm_oc : Outcome → Option Value → Prop
  | .returned v, o => v = o ∧ ∀ a, v ≠ some (.retAddr a)
  | .threw a, o => o = some (.retAddr a)
def fe_X (first : State) (t : State) (L : List Loc) (k n : Nat) : Prop := first.WarmedH t.vm ∧ first.sameButNew ({ t with vm := first.vm } : State) L k n
def mm_postX (G : mm_G) (Q : Option Value → mm_M → Prop) : Array Value → State → Outcome → State → Prop := fun _ st oc t => (∃ (o : Option Value) (M' : mm_M), mm_oc oc o ∧ Q o M' ∧ mm_ok G M' t t.heap) ∧ va_F (mm_fr G) st t
def mx_Met (l : Launch) (y : MethodName) (ws : List Cond) (rm : Room) (Pc : Array Value → State → Prop) (Qc : Array Value → State → Outcome → State → Prop) (mc ms : Nat) (free : Addr → Prop) : Prop :=
  MetFree l y (headSpec ws rm) Pc (fun _ _ _ _ _ => True) (fun a st o t => Qc a st o t ∧ ∃ L, fe_X st t L mc ms ∧ ∀ q ∈ L, free q.base)
def mx_MQ (below : List Frame) (Qc : Array Value → State → Outcome → State → Prop) (a : Array Value) (s : State) (mc ms : Nat) (free : Addr → Prop) : State → Prop := fun t => ∃ o, t.status = .running ∧ Ended t below o ∧ Qc a s o t ∧ ∃ L, fe_X s t L mc ms ∧ ∀ q ∈ L, free q.base
def mx_ (G : mm_G) (J : mm_J) (d mc ms : Nat) (av : List Value) (M : mm_M) (Q : Option Value → mm_M → Prop) : Prop := ∀ l : Launch, mx_Met l J.1 (mm_ws J) (mm_rm d mc ms) (va_Pc av (mm_pre G M)) (mm_postX G Q) mc ms (mm_fr G)
def wa_E (fl : Nat) (G : mm_G) (Q : Option Value → mm_M → Prop) (mc ms : Nat) (below : List Frame) (args : Array Value) (s : State) : State → Prop := match fl with
  | 0 => MQ below (mm_post G Q) args s mc ms (mm_fr G)
  | 1 => lw_Z below args s
  | _ => mx_MQ below (mm_postX G Q) args s mc ms (mm_fr G)
def wa_C (G : mm_G) (J : mm_J) (d mc ms : Nat) (p : Program) (R : Room) (s : State) (m : MethodId) (args : Array Value) (meth : Method) (c : Code) : Prop :=
  (p.tables.exec = Jvm.exec ∧ c.code = J.2.1 ∧ c.maxLocals = J.2.2.1 ∧ s.vm.findClass J.1.cls = some m.cls ∧ ∀ w ∈ gt_ws, w.before args s = true) ∧ meth.sig.returnType = J.2.2.2 ∧ meth.locks = false ∧ (J.1.cls = "ConsulDeskLaw" ∨ (meth.name = J.1.name ∧ s.methodNamed? J.1 = some m ∧ s.vm.method? m = some meth ∧ meth.code = some c)) ∧ mm_K G s ∧ mm_Z G s s.heap ∧ mm_sz G ≤ s.heap.size ∧ (mc ≤ R.cells ∧ ms ≤ R.slots ∧ d ≤ R.frames ∧ 80 * d ≤ R.locals)
/-- a frame of J at pc with locals lv and stack st, over the memory M, comes to the method's end with Q; kc cells of ks slots are still to be made -/
def wa_ (fl : Nat) (G : mm_G) (J : mm_J) (d mc ms : Nat) (Q : Option Value → mm_M → Prop) (kc ks : Nat) (M : mm_M) (pc : Nat) (lv : List (Option Value)) (st : List Value) : Prop :=
  ∀ (p : Program) (l : Launch) (e : Env) (R : Room) (s : State) (m : MethodId) (args : Array Value) (below : List Frame) (meth : Method) (c : Code) (H : Heap) (locs : List Loc) (cells slots : Nat) (ls : Array Slot),
    wa_C G J d mc ms p R s m args meth c → mm_ok G M s H → va_S (mm_fr G) s.heap H locs → cells + kc ≤ mc → slots + ks ≤ ms → mm_lv ls J.2.2.1 lv →
    W p l e R s m args below meth c H locs cells slots (wa_E fl G Q mc ms below args s) (F0 m pc ls st)
theorem mm_S_new {G : mm_G} {H0 H H1 : Heap} {locs : List Loc} (h : va_S (mm_fr G) H0 H locs) (z : H.size ≤ H1.size) (o : ∀ q : Nat, q < H.size → H1[q]? = H[q]?) : va_S (mm_fr G) H0 H1 locs :=
  ⟨Nat.le_trans h.1 z, fun q h1 h2 => (o q (Nat.lt_of_lt_of_le h1 h.1)).trans (h.2.1 q h1 h2), h.2.2⟩
theorem ma_of {G : mm_G} {J : mm_J} {d mc ms : Nat} {av : List Value} {M : mm_M} {Q : Option Value → mm_M → Prop} (lv : List (Option Value)) (hy : plainName J.1.cls = true) (hlv : mm_pl lv = lv_args 0 av) (hlen : (lg_sl av).length ≤ J.2.2.1) (h : wa_ 0 G J d mc ms Q mc ms M 0 lv []) : ma_ G J d mc ms av M Q := by
  intro l
  refine Met.ofW (cc := J.2.1) (maxL := J.2.2.1) (ret := J.2.2.2) hy rfl ?_
  intro p e s m args below meth c s₁ B hml hv
  obtain ⟨rfl, hok, hK, hZ, hsz⟩ := hv
  have hts := atoms_spec (ws := mm_ws J) B.pre
  have hl := lv_entry av (n := J.2.2.1) hlen
  rw [← hlv] at hl
  rw [lg_entry_eq]
  exact h p l e _ s m av.toArray below meth c s.heap [] 0 0 _ ⟨⟨B.exec, B.bytes, hml, findClass_of_methodNamed B.named, fun w hw => hts w (List.mem_cons_of_mem _ hw)⟩, B.returns, B.notSynchronized, Or.inr ⟨(name_of_methodNamed B.named B.method).1, B.named, B.method, (Stand.of_body B).code⟩, hK, hZ, hsz, Nat.le_refl _, Nat.le_refl _, Nat.le_refl _, Nat.le_refl _⟩ hok va_S.rf (Nat.le_of_eq (Nat.zero_add _)) (Nat.le_of_eq (Nat.zero_add _)) hl
