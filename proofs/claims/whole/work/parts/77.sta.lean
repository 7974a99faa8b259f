/-! the start: what the Statement gives -/
theorem tb_at {w : Cond} (n : Nat) (h : tables_1[n]? = some w) : w ∈ lw_tbl := List.mem_append_right _ (List.mem_of_getElem? h)
abbrev nr_L : List Cond := flatC (Jvm.Cond.and given_1 narrow_1)
theorem st_tab {args : Array Value} {s : State} {A : Nat → Prop} (hfl : ∀ w ∈ nr_L, w.before args s = true) (hA : ∀ a : Nat, a < s.heap.size → ¬ A a) {tm : Term} {v : Nat → Nat} (h1 : Cond.arrayOf tm .int ∈ nr_L) (h2 : Cond.eq (.length tm) (.int (Int32.ofNat 5)) ∈ nr_L) (h3 : ∀ j, j < 5 → Cond.eq (.elem tm (.int (Int32.ofNat j))) (.int (nI (v j))) ∈ nr_L) : ∃ t : Nat, tm.eval args s none [] s = some (.ref t) ∧ va_T .int t 5 (fun j => .int (nI (v j))) A s s.heap :=
  va_Tof (N := 5) (by decide) (hfl _ h1) (va_eqt (hfl _ h2)) (fun j hj => va_eqt (hfl _ (h3 j hj))) hA
def st_W : Term := .static "ConsulDesk" "WORTHS" "[I"
def st_S : Term := .static "ConsulDesk" "SPARED" "[I"
def st_V : Term := .static "ConsulDeskModel" "WORTH" "[I"
theorem in_W1 : Cond.arrayOf st_W .int ∈ nr_L := by decide +kernel
theorem in_W2 : Cond.eq (.length st_W) (.int (Int32.ofNat 5)) ∈ nr_L := by decide +kernel
theorem in_W3 : ∀ j, j < 5 → Cond.eq (.elem st_W (.int (Int32.ofNat j))) (.int (nI (Wt j))) ∈ nr_L := by decide +kernel
theorem in_S1 : Cond.arrayOf st_S .int ∈ nr_L := by decide +kernel
theorem in_S2 : Cond.eq (.length st_S) (.int (Int32.ofNat 5)) ∈ nr_L := by decide +kernel
theorem in_S3 : ∀ j, j < 5 → Cond.eq (.elem st_S (.int (Int32.ofNat j))) (.int (nI (Sp j))) ∈ nr_L := by decide +kernel
theorem in_V1 : Cond.arrayOf st_V .int ∈ nr_L := by decide +kernel
theorem in_V2 : Cond.eq (.length st_V) (.int (Int32.ofNat 5)) ∈ nr_L := by decide +kernel
theorem in_V3 : ∀ j, j < 5 → Cond.eq (.elem st_V (.int (Int32.ofNat j))) (.int (nI (Wt j))) ∈ nr_L := by decide +kernel
theorem in_nW : Cond.not (.eq (.arg 0) st_W) ∈ nr_L := by decide +kernel
theorem in_nS : Cond.not (.eq (.arg 0) st_S) ∈ nr_L := by decide +kernel
theorem in_nV : Cond.not (.eq (.arg 0) st_V) ∈ nr_L := by decide +kernel
theorem in_cs : Cond.eq (.static "java/lang/String" "COMPACT_STRINGS" "Z") (.int 1) ∈ nr_L := by decide +kernel
theorem in_r4 : Cond.isRef (.static "java/lang/Throwable" "UNASSIGNED_STACK" "[Ljava/lang/StackTraceElement;") ∈ nr_L := by decide +kernel
theorem in_r5 : Cond.isRef (.static "java/lang/Throwable" "SUPPRESSED_SENTINEL" "Ljava/util/List;") ∈ nr_L := by decide +kernel
theorem in_r6 : Cond.isRef (.static "jdk/internal/util/Preconditions" "SIOOBE_FORMATTER" "Ljava/util/function/BiFunction;") ∈ nr_L := by decide +kernel
/-! the texts -/
def st_k : List Nat := [68, 74, 76, 78, 80, 82, 84, 86, 58]
def st_tm (i : Nat) : Term := .string "ConsulDesk$Tokens" (st_k.getD i 0)
theorem st_ex : ∀ i, i < 9 → Cond.exactly (st_tm i) "java/lang/String" ∈ nr_L := by decide +kernel
theorem st_co : ∀ i, i < 9 → Cond.eq (.field (st_tm i) "java/lang/String" "coder" "B") (.int 0) ∈ nr_L := by decide +kernel
theorem st_ar : ∀ i, i < 9 → Cond.arrayOf (.field (st_tm i) "java/lang/String" "value" "[B") .byte ∈ nr_L := by decide +kernel
theorem st_le : ∀ i, i < 9 → Cond.eq (.length (.field (st_tm i) "java/lang/String" "value" "[B")) (.int (Int32.ofNat (mm_tl.getD i 0))) ∈ nr_L := by decide +kernel
theorem st_el : ∀ i, i < 9 → ∀ j, j < mm_tl.getD i 0 → Cond.eq (.elem (.field (st_tm i) "java/lang/String" "value" "[B") (.int (Int32.ofNat j))) (.int ((mm_tx.getD i []).getD j 0)) ∈ nr_L := by decide +kernel
theorem st_ne : ∀ i, i < 9 → ∀ j, j < 9 → i ≠ j → Cond.not (.eq (st_tm i) (st_tm j)) ∈ nr_L ∨ Cond.not (.eq (st_tm j) (st_tm i)) ∈ nr_L := by decide +kernel
theorem tr_in : ∀ q ∈ mm_tr, Cond.stringRef q.1 q.2.1 q.2.2.1 ∈ tables_1 := by decide +kernel
theorem tr_eq : ∀ q ∈ mm_tr, q.2.2.2 < 9 ∧ (Term.string q.1 q.2.1 = st_tm q.2.2.2 ∨ (Cond.eq (st_tm q.2.2.2) (.string q.1 q.2.1) ∈ nr_L ∧ Cond.exactly (.string q.1 q.2.1) "java/lang/String" ∈ nr_L)) := by decide +kernel
theorem eqR_ {args : Array Value} {s : State} {t u : Term} {a b : Nat} (h : (Cond.eq t u).before args s = true) (ht : t.eval args s none [] s = some (.ref a)) (hu : u.eval args s none [] s = some (.ref b)) : a = b := by
  simp [Cond.before, Cond.holds, Cond.value, ht, hu] at h
  exact h
theorem nw_in : ∀ w ∈ mm_nw, w ∈ tables_1 := by decide +kernel
/-! classes and arrays -/
theorem cl_inst : ∀ (ci : Nat) (q : vw_C), mm_cl[ci]? = some q → Cond.instantiable q.1 q.2.2 ∈ gt_ws := mm_cases wt_X0 wt_X1 wt_X2 wt_X3 wt_X4 wt_X5 wt_X6 wt_X7 wt_X8 wt_X9 wt_X10 wt_X11 wt_X12
theorem st_cl {args : Array Value} {s : State} (hts : ∀ w ∈ lw_tbl, w.before args s = true) : ∃ D : va_G, ∀ (ci : Nat) (q : vw_C), mm_cl[ci]? = some q → u_Kn s q.1 q.2.1 q.2.2 (D.1 ci) (D.2 ci) := by
  have h : ∀ ci : Nat, ∃ d : ClassId × (Nat → Nat), ∀ q : vw_C, mm_cl[ci]? = some q → u_Kn s q.1 q.2.1 q.2.2 d.1 d.2 := by
    intro ci
    cases hq : mm_cl[ci]? with
    | none => exact ⟨(0, fun _ => 0), fun q h => by cases h⟩
    | some q =>
      obtain ⟨cC, iS, hK⟩ := u_known (ws := gt_ws) (fun w hw => hts w (gt_tbl w hw)) (mm_in ci q hq) (hts _ (gt_tbl _ (cl_inst ci q hq)))
      exact ⟨(cC, iS), fun q2 h2 => by cases h2; exact hK⟩
  obtain ⟨f, hf⟩ := Classical.axiomOfChoice h
  exact ⟨(fun ci => (f ci).1, fun ci => (f ci).2), fun ci q hq => hf ci q hq⟩
theorem ar_p {args : Array Value} {s : State} {ty : FieldType} (h : (Cond.arrayClass ty).before args s = true) : ∃ cA : ClassId, ArrOfT s cA ty ∧ s.vm.findClass ("[" ++ ty.toString) = some cA := by
  obtain ⟨c, k, comp, h1, h2, h3⟩ := Cond.arrayClass_spec h
  exact ⟨c, fun n z => ⟨fun k h => (by cases h), k, h2, comp, h3⟩, h1⟩
theorem ar_o {args : Array Value} {s : State} {C : String} (h : (Cond.arrayOver (.object C)).before args s = true) : ∃ cA : ClassId, ArrOfT s cA (.object C) ∧ va_RA s cA (.object C) := by
  obtain ⟨comp, c, k, h1, h2, h3, h4, h5⟩ := Cond.arrayOver_spec h
  exact ⟨c, fun n z => ⟨fun k h => (by cases h), k, h3, comp, h4⟩, k, comp, h3, h4, h1, h5⟩
theorem st_arr {args : Array Value} {s : State} (hts : ∀ w ∈ lw_tbl, w.before args s = true) : ∃ aC : Nat → ClassId, ∀ k, k < 10 → ArrOfT s (aC k) (mm_el k) ∧ va_RA s (aC k) (mm_el k) := by
  obtain ⟨a0, h0⟩ := ar_p (hts _ (tb_at (w := .arrayClass .int) 51 (by decide +kernel)))
  obtain ⟨a1, h1⟩ := ar_p (hts _ (tb_at (w := .arrayClass .byte) 419 (by decide +kernel)))
  obtain ⟨a2, h2⟩ := ar_p (hts _ (tb_at (w := .arrayClass .boolean) 202 (by decide +kernel)))
  obtain ⟨a3, h3⟩ := ar_p (hts _ (tb_at (w := .arrayClass .long) 1015 (by decide +kernel)))
  obtain ⟨a4, h4⟩ := ar_o (hts _ (tb_at (w := .arrayOver (.object "ConsulDesk$Line")) 385 (by decide +kernel)))
  obtain ⟨a5, h5⟩ := ar_o (hts _ (tb_at (w := .arrayOver (.object "ConsulDesk$Paper")) 36 (by decide +kernel)))
  obtain ⟨a6, h6⟩ := ar_o (hts _ (tb_at (w := .arrayOver (.object "ConsulDesk$Port")) 32 (by decide +kernel)))
  obtain ⟨a7, h7⟩ := ar_o (hts _ (tb_at (w := .arrayOver (.object "ConsulDesk$Tariff")) 34 (by decide +kernel)))
  obtain ⟨a8, h8⟩ := ar_o (hts _ (tb_at (w := .arrayOver (.object "ConsulDesk$Term")) 406 (by decide +kernel)))
  obtain ⟨a9, h9⟩ := ar_o (hts _ (tb_at (w := .arrayOver (.object "ConsulDesk$Test")) 404 (by decide +kernel)))
  refine ⟨fun k => match k with | 0 => a0 | 1 => a1 | 2 => a2 | 3 => a3 | 4 => a4 | 5 => a5 | 6 => a6 | 7 => a7 | 8 => a8 | _ => a9, fun k hk => ?_⟩
  match k, hk with
  | 0, _ => exact h0
  | 1, _ => exact h1
  | 2, _ => exact h2
  | 3, _ => exact h3
  | 4, _ => exact h4
  | 5, _ => exact h5
  | 6, _ => exact h6
  | 7, _ => exact h7
  | 8, _ => exact h8
  | 9, _ => exact h9
  | n + 10, h => exact absurd h (by omega)
theorem st_nw {args : Array Value} {s : State} (hts : ∀ w ∈ lw_tbl, w.before args s = true) : ∀ w ∈ mm_nw, va_Nw w s := by
  intro w hw
  have h : w.before args s = true := hts w (List.mem_append_right _ (nw_in w hw))
  unfold mm_nw at hw
  simp only [List.mem_cons, List.not_mem_nil, or_false] at hw
  rcases hw with rfl | rfl | rfl | rfl | rfl | rfl | rfl | rfl | rfl | rfl | rfl | rfl | rfl | rfl | rfl | rfl | rfl | rfl
  all_goals first | exact va_AO.of h | exact va_Nw.of rfl h
theorem st_rn {args : Array Value} {s : State} {C n d : String} {A : Nat → Prop} (hl : (Cond.laysStatic C n d).before args s = true) (hini : (Cond.initialized C).before args s = true) (h : (Cond.isRef (.static C n d)).before args s = true) (hA : ∀ a : Nat, a < s.heap.size → ¬ A a) : ∃ r : Nat, va_Z C n d (va_rn r) A s s.heap := by
  rcases va_Zqof hl hini h hA with h | ⟨t, h⟩
  · exact ⟨0, h⟩
  · exact ⟨t + 1, h⟩
/-! the memory at the start -/
def hp_I (H : Heap) (a j : Nat) : Int32 := match H[a]? with
  | some c => (match c.slots[j]? with
    | some (.int v) => v
    | _ => 0)
  | none => 0
theorem hp_of {H : Heap} {a j : Nat} {cell : Cell} {v : Int32} (h1 : H[a]? = some cell) (h2 : cell.slots[j]? = some (.int v)) : hp_I H a j = v := by
  simp only [hp_I, h1, h2]
def hp_M (H : Heap) (b L w0 s0 v0 : Nat) : mm_M := (fun a => if a = b then some (.inr (10, L)) else if a = w0 ∨ a = s0 ∨ a = v0 then some (.inr (10, 5)) else none, hp_I H, fun _ _ => 0, fun _ _ => none, H.size)
theorem hp_tb {G : mm_G} {U : State} {H : Heap} {a n : Nat} {i : Nat → Int32} (hz : a < mm_sz G) (h : mm_tb .int n i U H a) : mm_at G U H a (.inr (10, n)) i (fun _ => 0) (fun _ => none) := ⟨hz, h⟩
theorem hp_T {s : State} {t : Nat} {v : Nat → Nat} {A : Nat → Prop} (h : va_T .int t 5 (fun j => .int (nI (v j))) A s s.heap) : t < s.heap.size ∧ (∀ j, j < 5 → hp_I s.heap t j = nI (v j)) ∧ mm_tb .int 5 (hp_I s.heap t) s s.heap t := by
  obtain ⟨cell, h1, h2, h3, h4, h5, h6, -⟩ := h
  exact ⟨(Array.getElem?_eq_some_iff.mp h1).1, fun j hj => hp_of h1 (h6 j hj), cell, h1, h2, h3, h4, h5, fun j hj => by rw [hp_of h1 (h6 j hj)]; exact h6 j hj⟩
theorem hp_X {s : State} {b L : Nat} {xs : Nat → Int32} (h : va_X b L xs s s.heap) : (∀ j, j < L → hp_I s.heap b j = xs j) ∧ mm_tb .int L (hp_I s.heap b) s s.heap b := by
  obtain ⟨scr, h1, h2, h3, h4, h5⟩ := h
  exact ⟨fun j hj => hp_of h1 (h5 j hj), scr, h1, h2, h3, Nat.le_of_eq h4.symm, by rw [h4] <;> rfl, fun j hj => by rw [hp_of h1 (h5 j hj)]; exact h5 j hj⟩
theorem hp_sh0 (H : Heap) (b L w0 s0 v0 a : Nat) : mm_sh (hp_M H b L w0 s0 v0) a = (if a = b then some (Sum.inr (10, L) : mm_S) else if a = w0 ∨ a = s0 ∨ a = v0 then some (Sum.inr (10, 5) : mm_S) else none) := rfl
theorem hp_ok {G : mm_G} {s : State} {b L w0 s0 v0 : Nat} {xs : Nat → Int32} {A : Nat → Prop} (hz : mm_sz G = s.heap.size) (hb : b < s.heap.size) (hX : va_X b L xs s s.heap) (h0 : va_T .int w0 5 (fun j => .int (nI (Wt j))) A s s.heap) (h1 : va_T .int s0 5 (fun j => .int (nI (Sp j))) A s s.heap) (h2 : va_T .int v0 5 (fun j => .int (nI (Wt j))) A s s.heap) : mm_ok G (hp_M s.heap b L w0 s0 v0) s s.heap := by
  refine ⟨fun a t ht => ?_, rfl⟩
  rw [hp_sh0] at ht
  by_cases e : a = b
  · rw [if_pos e] at ht
    cases ht
    subst e
    exact hp_tb (by omega) (hp_X hX).2
  · rw [if_neg e] at ht
    by_cases e2 : a = w0 ∨ a = s0 ∨ a = v0
    · rw [if_pos e2] at ht
      cases ht
      rcases e2 with e2 | e2 | e2
      · subst e2; exact hp_tb (by have := (hp_T h0).1; omega) (hp_T h0).2.2
      · subst e2; exact hp_tb (by have := (hp_T h1).1; omega) (hp_T h1).2.2
      · subst e2; exact hp_tb (by have := (hp_T h2).1; omega) (hp_T h2).2.2
    · rw [if_neg e2] at ht
      cases ht
theorem hp_sh {H : Heap} {b L w0 s0 v0 a : Nat} (hb : a ≠ b) (h : a = w0 ∨ a = s0 ∨ a = v0) : mm_sh (hp_M H b L w0 s0 v0) a = some (.inr (10, 5)) := by
  rw [hp_sh0, if_neg hb, if_pos h]
theorem hp_shb {H : Heap} {b L w0 s0 v0 : Nat} : mm_sh (hp_M H b L w0 s0 v0) b = some (.inr (10, L)) := if_pos rfl
/-! out of the law's end as a method, the law's end as the claim has it -/
theorem lw_of {s t : State} {o : Outcome} {Ls : List Loc} {k n : Nat} (h : FrameEnd s o t Ls k n) (hL : ∀ q ∈ Ls, s.heap.size ≤ q.base) (hk : k ≤ 601024) (hn : n ≤ 7293034) : Framed s o t [] 601024 7293034 := by
  obtain ⟨h1, h2, e1, e2, e3, e4, e5, e6⟩ := h
  refine ⟨h1, h2, e1, e2, Nat.le_trans e3 (Nat.add_le_add_left hk _), e4, Nat.le_trans e5 hn, fun a c hc => ?_⟩
  obtain ⟨c', f1, f2, f3, f4⟩ := e6 a c hc
  refine ⟨c', f1, f2, f3, fun i _ => f4 i (fun hm => ?_)⟩
  have g1 : s.heap.size ≤ a := hL _ hm
  have g2 : a < s.heap.size := (Array.getElem?_eq_some_iff.mp hc).1
  exact absurd g1 (Nat.not_le.mpr g2)
