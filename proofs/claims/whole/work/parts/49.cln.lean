/-! a row of ints is copied -/
theorem cw_1 : Cond.methodLink RX0 29 ⟨"[I", "clone", "()Ljava/lang/Object;"⟩ ∈ gt_ws := gt_of 688 (by decide +kernel) (by decide +kernel)
theorem cw_2 : Cond.sameMethod "[I" "java/lang/Object" "clone" "()Ljava/lang/Object;" ∈ gt_ws := gt_of 689 (by decide +kernel) (by decide +kernel)
theorem cw_3 : Cond.native ⟨"java/lang/Object", "clone", "()Ljava/lang/Object;"⟩ ∈ gt_ws := gt_of 690 (by decide +kernel) (by decide +kernel)
theorem cw_4 : Cond.instanceMethod ⟨"java/lang/Object", "clone", "()Ljava/lang/Object;"⟩ ∈ gt_ws := gt_of 691 (by decide +kernel) (by decide +kernel)
theorem cw_5 : Cond.selects "[I" ⟨"[I", "clone", "()Ljava/lang/Object;"⟩ ⟨"java/lang/Object", "clone", "()Ljava/lang/Object;"⟩ ∈ gt_ws := gt_of 692 (by decide +kernel) (by decide +kernel)
def mm_cp (M : mm_M) (a n : Nat) : mm_M := (fun b => if b = mm_z M then some (.inr (0, n)) else M.1 b, fun b j => if b = mm_z M then mm_I M a j else M.2.1 b j, mm_f M.2.2.1 (mm_z M) 0, mm_f M.2.2.2.1 (mm_z M) none, mm_z M + 1)
theorem mm_cp_I (M : mm_M) (a n b j : Nat) : mm_I (mm_cp M a n) b j = if b = mm_z M then mm_I M a j else mm_I M b j := rfl
theorem mm_cp_sh (M : mm_M) (a n b : Nat) : mm_sh (mm_cp M a n) b = if b = mm_z M then some (.inr (0, n)) else mm_sh M b := rfl
theorem mm_ok_cp {G : mm_G} {M : mm_M} {U : State} {H H1 : Heap} (h : mm_ok G M U H) {a n : Nat} (hz : mm_sz G ≤ H.size) (hH : H1.size = H.size + 1) (ho : ∀ q : Nat, q < H.size → H1[q]? = H[q]?) (hat : H1[H.size]? = some (vp_cell (G.2.1 0) (mm_ar (mm_I M a) (mm_L M a) (mm_R M a) 0 n))) : mm_ok G (mm_cp M a n) U H1 := by
  have hzz := h.2
  refine ⟨fun b t hb => ?_, by rw [hH, hzz]; rfl⟩
  by_cases hbz : b = mm_z M
  · rw [mm_cp_sh, if_pos hbz] at hb
    cases hb
    refine ⟨by rw [hbz, ← hzz]; exact hz, ?_⟩
    rw [hbz, ← hzz, hat]
    have e : mm_I (mm_cp M a n) H.size = mm_I M a := by
      funext j
      rw [mm_cp_I, if_pos hzz]
    rw [e]
    rfl
  · rw [mm_cp_sh, if_neg hbz] at hb
    have e1 : mm_I (mm_cp M a n) b = mm_I M b := by
      funext j
      rw [mm_cp_I, if_neg hbz]
    have e2 : mm_L (mm_cp M a n) b = mm_L M b := mm_f_ne hbz
    have e3 : mm_R (mm_cp M a n) b = mm_R M b := mm_f_ne hbz
    rw [e1, e2, e3]
    exact mm_at_kept (h.1 b t hb) (ho b (by rw [hzz]; exact mm_ok_lt h hb))
section CLONE
variable {fl : Nat} {G : mm_G} {J : mm_J} {d mc ms kc ks : Nat} {Q : Option Value → mm_M → Prop} {M : mm_M} {pc : Nat} {lv : List (Option Value)} {st : List Value}
theorem wa_clone {a n i : Nat} (hd : decode J.2.1 pc = .ok (.invokevirtual i, 3)) (hJ : J.1.cls = RX0) (hi : i = 29) (hs : mm_sh M a = some (.inr (0, n))) (hcat : (st.map fun v => v.category).sum ≤ 8) (kk : mm_ext M (.inr (0, n)) → wa_ fl G J (d + 1) mc ms Q kc ks (mm_cp M a n) (pc + 3) lv (.ref (mm_z M) :: st)) : wa_ fl G J (d + 1) mc ms Q (kc + 1) (ks + n) M pc lv (.ref a :: st) := by
  subst hi
  intro p l e R s m args below meth c H locs cells slots ls C hok hS hc hs' hl
  have hR := C.2.2.2.2.2.2.2
  have hts := C.1.2.2.2.2
  obtain ⟨hsa, hcell⟩ := mm_arr hok hs (by decide)
  have hKA := mm_aK C.2.2.2.2.1 (k := 0) (by decide)
  have hnm : s.vm.findClass "[I" = some (G.2.1 0) := va_nm_int hKA.2
  generalize hx : mm_ar (mm_I M a) (mm_L M a) (mm_R M a) 0 n = x at hcell
  have hsz : (vp_cell (G.2.1 0) x).slots.size = n := by rw [← hx]; exact arrV_size _ _ _
  have hvm0 : (vp_cell (G.2.1 0) x).vm = .none := by rw [← hx]; rfl
  have hcl0 : (vp_cell (G.2.1 0) x).cls = G.2.1 0 := by rw [← hx]; rfl
  have hcellE : ({ cls := (vp_cell (G.2.1 0) x).cls, slots := (vp_cell (G.2.1 0) x).slots } : Cell) = vp_cell (G.2.1 0) x := by rw [← hx]; rfl
  have hfit : ∀ (i : Nat) (v : Value), (vp_cell (G.2.1 0) x).slots[i]? = some v → fits (mm_el 0) v = true := by
    intro i v hv
    rw [← hx] at hv
    have hv2 : (arrV (G.2.1 0) n (fun k => .int (mm_I M a k))).slots[i]? = some v := hv
    have hi : i < n := by
      have := (Array.getElem?_eq_some_iff.mp hv2).1
      rw [arrV_size] at this
      exact this
    unfold arrV at hv2
    simp only [Array.getElem?_ofFn, hi, dite_true] at hv2
    cases hv2
    rfl
  obtain ⟨c0, t0', f1, f2, f3⟩ := Cond.castable_spec (va_Nw.use (A := args) rfl (C.2.2.2.2.1.2.1 (.castable "[I" "java/lang/Cloneable") (by decide)))
  cases hnm.symm.trans f1
  intro T hT X
  have hcellT : T.heap[a]? = some (vp_cell (G.2.1 0) x) := by rw [hT]; exact hcell
  obtain ⟨-, kA, hkA, comp, hkind⟩ := State.isArrayOf_alike X.warmed.alike (hKA.1 0 (fun _ => .null))
  obtain ⟨-, kS, hkS, compS, hkindS⟩ := hKA.1 0 (fun _ => .null)
  obtain ⟨vm', X', st9⟩ := X.cloneArray C.1.1 C.1.2.2.2.1 (hts _ (by rw [hJ]; exact cw_1)) (hts _ cw_2) (hts _ cw_3) (hts _ cw_4) (hts _ cw_5) (a := a) (cell := vp_cell (G.2.1 0) x) hcellT (fun k h => by rw [hvm0] at h; cases h) (by rw [hvm0]; exact fun h => by cases h) (by rw [hcl0]; exact hnm) f2 (by rw [hcl0]; exact f3)
    (fun i v hv => by
      rw [hcl0]
      have hk' : T.vm.classes[G.2.1 0]? = some kA := hkA
      simpa [State.fitsSlot, State.slotType?, hk', hkind] using hfit i v hv)
    (g := F0 m pc ls (.ref a :: st)) rfl (by rw [C.1.2.2.1]; exact hl.1) rfl (by rw [C.1.2.1]; exact hd) (by omega) (by show 2 * 0 + _ + 14 ≤ _; omega) (by omega) (by rw [hsz]; omega) (hloader := by rw [hcl0]; exact Vm.clonesLoader_of_array hkS hkindS)
  rw [hcellE, hsz] at X'
  generalize hH1 : H.push (vp_cell (G.2.1 0) x) = H1
  have z1 : H1.size = H.size + 1 := by rw [← hH1, Array.size_push]
  have e1 : H1[H.size]? = some (vp_cell (G.2.1 0) x) := by rw [← hH1, Array.getElem?_push_size]
  have o1 : ∀ q : Nat, q < H.size → H1[q]? = H[q]? := fun q hq => by rw [← hH1, Array.getElem?_push, if_neg (Nat.ne_of_lt hq)]
  have hk9 := kk (fun b t hb => ⟨(mm_sh_new hok (.inr (0, n)) hb).1, (mm_sh_new hok (.inr (0, n)) hb).2, mm_ok_lt hok hb⟩) p l e R s m args below meth c H1 locs (cells + 1) (slots + n) ls C (mm_ok_cp hok (mm_grow C.2.2.2.2.2.2.1 hS rfl) z1 o1 (by rw [hx]; exact e1)) (mm_S_new hS (by omega) o1) (by omega) (by omega) hl
  obtain ⟨t, b1, b2⟩ := hk9 ((T.setVm vm').pushCell (vp_cell (G.2.1 0) x)) (by rw [← hH1, ← hT]; rfl) X'
  refine ⟨t, st9 t ?_, b2⟩
  rw [hcellE, hT, hok.2]
  exact b1
theorem wa_castI {a n i : Nat} (hd : decode J.2.1 pc = .ok (.checkcast i, 3)) (hw : Cond.classLink J.1.cls i "[I" ∈ gt_ws) (hs : mm_sh M a = some (.inr (0, n))) (kk : wa_ fl G J d mc ms Q kc ks M (pc + 3) lv (.ref a :: st)) : wa_ fl G J d mc ms Q kc ks M pc lv (.ref a :: st) := by
  intro p l e R s m args below meth c H locs cells slots ls C hok hS hc hs' hl
  obtain ⟨hsa, hcell⟩ := mm_arr hok hs (by decide)
  have hKA := mm_aK C.2.2.2.2.1 (k := 0) (by decide)
  refine va_castA (D := G.1) (cl := mm_cl) (ws := [(a, .inl (G.2.1 0, mm_ar (mm_I M a) (mm_L M a) (mm_R M a) 0 n))]) C.1.1 C.1.2.1 C.1.2.2.2.1 (C.1.2.2.2.2 _ hw) (fun k q hq => ?_) 0 rfl (va_nm_int hKA.2) hd (kk p l e R s m args below meth c H locs cells slots ls C hok hS hc hs' hl)
  have hz : k < 1 := (List.getElem?_eq_some_iff.mp hq).1
  rw [show k = 0 by omega] at hq
  cases hq
  exact hcell
end CLONE
