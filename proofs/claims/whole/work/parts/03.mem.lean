/-! the memory as total functions: a shape for each address, and what its places hold -/
abbrev mm_S : Type := Nat ⊕ (Nat × Nat)
abbrev mm_M : Type := (Nat → Option mm_S) × (Nat → Nat → Int32) × (Nat → Nat → Int64) × (Nat → Nat → Option Nat) × Nat
def mm_sh (M : mm_M) (a : Nat) : Option mm_S := M.1 a
def mm_I (M : mm_M) (a : Nat) : Nat → Int32 := M.2.1 a
def mm_L (M : mm_M) (a : Nat) : Nat → Int64 := M.2.2.1 a
def mm_R (M : mm_M) (a : Nat) : Nat → Option Nat := M.2.2.2.1 a
def mm_z (M : mm_M) : Nat := M.2.2.2.2
def mm_u {α : Type} (f : Nat → Nat → α) (a k : Nat) (v : α) : Nat → Nat → α := fun b j => if b = a ∧ j = k then v else f b j
def mm_f {α : Type} (f : Nat → Nat → α) (a : Nat) (v : α) : Nat → Nat → α := fun b j => if b = a then v else f b j
def mm_sI (M : mm_M) (a k : Nat) (v : Int32) : mm_M := (M.1, mm_u M.2.1 a k v, M.2.2)
def mm_sL (M : mm_M) (a k : Nat) (v : Int64) : mm_M := (M.1, M.2.1, mm_u M.2.2.1 a k v, M.2.2.2)
def mm_sR (M : mm_M) (a k : Nat) (v : Option Nat) : mm_M := (M.1, M.2.1, M.2.2.1, mm_u M.2.2.2.1 a k v, M.2.2.2.2)
def mm_new (M : mm_M) (s : mm_S) : mm_M := (fun b => if b = mm_z M then some s else M.1 b, mm_f M.2.1 (mm_z M) 0, mm_f M.2.2.1 (mm_z M) 0, mm_f M.2.2.2.1 (mm_z M) none, mm_z M + 1)
/-! the classes whose objects the memory holds, and the kinds of arrays: 0 int, 1 byte, 2 boolean, 3 long, 4 .. references; 10 and 11 are tables of ints and of bytes that nobody writes -/
abbrev mm_cl : List vw_C := [(RX0, TX0, 3), (RX1, TX1, 3), (RX2, TX2, 9), (RX3, TX3, 8), (RX4, TX4, 6), (RX5, TX5, 2), (RX6, TX6, 2), (RX7, TX7, 3), (RX8, TX8, 3), (RX9, TX9, 4), (RX10, TX10, 13), (RX11, TX11, 8), (RX12, TX12, 50)]
def mm_ty (ci : Nat) : Nat → FieldType := match ci with
  | 0 => tyX0 | 1 => tyX1 | 2 => tyX2 | 3 => tyX3 | 4 => tyX4 | 5 => tyX5 | 6 => tyX6 | 7 => tyX7 | 8 => tyX8 | 9 => tyX9 | 10 => tyX10 | 11 => tyX11 | _ => tyX12
def mm_el (k : Nat) : FieldType := match k with
  | 0 => .int | 1 => .byte | 2 => .boolean | 3 => .long | 4 => .object "ConsulDesk$Line" | 5 => .object "ConsulDesk$Paper" | 6 => .object "ConsulDesk$Port" | 7 => .object "ConsulDesk$Tariff" | 8 => .object "ConsulDesk$Term" | _ => .object "ConsulDesk$Test"
def mm_fv (i : Nat → Int32) (l : Nat → Int64) (r : Nat → Option Nat) (k : Nat) (ty : FieldType) : Value := match ty with
  | .long => .long (l k)
  | .object _ => va_rf (r k)
  | .array _ => va_rf (r k)
  | _ => .int (i k)
def mm_ar (i : Nat → Int32) (l : Nat → Int64) (r : Nat → Option Nat) (k n : Nat) : vp_A := (n, if k < 3 then .inl i else if k = 3 then .inr (.inl l) else .inr (.inr (.inr (.inr r))))
/-- what the machine is asked for: the classes' numbers and slots, the array classes, where the law began, the statics' values -/
abbrev mm_G : Type := va_G × (Nat → ClassId) × Nat × (Nat → Value) × (Nat → Nat) × (Nat → Nat)
abbrev mm_sz (G : mm_G) : Nat := G.2.2.1
def mm_tb (ty : FieldType) (n : Nat) (i : Nat → Int32) (U : State) (H : Heap) (a : Nat) : Prop := ∃ cell : Cell, H[a]? = some cell ∧ U.isArrayOf cell ty ∧ cell.vm ≠ .unknown ∧ n ≤ cell.slots.size ∧ cell.slots.size.toInt32 = Int32.ofNat n ∧ ∀ j : Nat, j < n → cell.slots[j]? = some (.int (i j))
def mm_at (G : mm_G) (U : State) (H : Heap) (a : Nat) (s : mm_S) (i : Nat → Int32) (l : Nat → Int64) (r : Nat → Option Nat) : Prop := match s with
  | .inl ci => mm_sz G ≤ a ∧ ∃ q : vw_C, mm_cl[ci]? = some q ∧ t_OB a (G.1.1 ci) q.2.2 (G.1.2 ci) H (fun k => mm_fv i l r k (mm_ty ci k))
  | .inr (k, n) => if k < 10 then mm_sz G ≤ a ∧ H[a]? = some (vp_cell (G.2.1 k) (mm_ar i l r k n)) else a < mm_sz G ∧ mm_tb (if k = 10 then .int else .byte) n i U H a
def mm_ok (G : mm_G) (M : mm_M) (U : State) (H : Heap) : Prop := (∀ a s, mm_sh M a = some s → mm_at G U H a s (mm_I M a) (mm_L M a) (mm_R M a)) ∧ H.size = mm_z M
theorem mm_at_kept {G : mm_G} {U : State} {H H1 : Heap} {a : Nat} {s : mm_S} {i : Nat → Int32} {l : Nat → Int64} {r : Nat → Option Nat} (h : mm_at G U H a s i l r) (hq : H1[a]? = H[a]?) : mm_at G U H1 a s i l r := by
  rcases s with ci | ⟨k, n⟩
  · obtain ⟨h0, q, h1, h2⟩ := h
    exact ⟨h0, q, h1, h2.kept hq⟩
  · unfold mm_at at h ⊢
    by_cases hk : k < 10
    · simp only [hk, if_true] at h ⊢
      exact ⟨h.1, by rw [hq]; exact h.2⟩
    · simp only [hk, if_false] at h ⊢
      obtain ⟨h0, cell, h1, h2⟩ := h
      exact ⟨h0, cell, by rw [hq]; exact h1, h2⟩
theorem mm_at_lt {G : mm_G} {U : State} {H : Heap} {a : Nat} {s : mm_S} {i : Nat → Int32} {l : Nat → Int64} {r : Nat → Option Nat} (h : mm_at G U H a s i l r) : a < H.size := by
  rcases s with ci | ⟨k, n⟩
  · obtain ⟨h0, q, h1, cell, h2, -⟩ := h
    exact (Array.getElem?_eq_some_iff.mp h2).1
  · unfold mm_at at h
    by_cases hk : k < 10
    · simp only [hk, if_true] at h
      exact (Array.getElem?_eq_some_iff.mp h.2).1
    · simp only [hk, if_false] at h
      obtain ⟨h0, cell, h1, h2⟩ := h
      exact (Array.getElem?_eq_some_iff.mp h1).1
theorem mm_at_moved {G : mm_G} {u U : State} {H : Heap} {a : Nat} {s : mm_S} {i : Nat → Int32} {l : Nat → Int64} {r : Nat → Option Nat} (hvm : u.vm.Alike U.vm) (h : mm_at G u H a s i l r) : mm_at G U H a s i l r := by
  rcases s with ci | ⟨k, n⟩
  · exact h
  · unfold mm_at at h ⊢
    by_cases hk : k < 10
    · simp only [hk, if_true] at h ⊢
      exact h
    · simp only [hk, if_false] at h ⊢
      obtain ⟨h0, cell, h1, h2, h3⟩ := h
      exact ⟨h0, cell, h1, State.isArrayOf_alike hvm h2, h3⟩
theorem mm_ok_lt {G : mm_G} {M : mm_M} {U : State} {H : Heap} (h : mm_ok G M U H) {a : Nat} {s : mm_S} (hs : mm_sh M a = some s) : a < mm_z M := by
  rw [← h.2]; exact mm_at_lt (h.1 a s hs)
theorem mm_ok_moved {G : mm_G} {M : mm_M} {u U : State} {H : Heap} (hvm : u.vm.Alike U.vm) (h : mm_ok G M u H) : mm_ok G M U H := ⟨fun a s hs => mm_at_moved hvm (h.1 a s hs), h.2⟩
/-- one cell has changed -/
theorem mm_ok_put {G : mm_G} {M M1 : mm_M} {U : State} {H H1 : Heap} {a : Nat} {s : mm_S} (h : mm_ok G M U H) (hs : mm_sh M a = some s) (hsh : mm_sh M1 = mm_sh M) (hz : mm_z M1 = mm_z M) (he : ∀ b, b ≠ a → mm_I M1 b = mm_I M b ∧ mm_L M1 b = mm_L M b ∧ mm_R M1 b = mm_R M b)
    (hH : H1.size = H.size) (ho : ∀ q : Nat, q ≠ a → H1[q]? = H[q]?) (hat : mm_at G U H1 a s (mm_I M1 a) (mm_L M1 a) (mm_R M1 a)) : mm_ok G M1 U H1 := by
  refine ⟨fun b t hb => ?_, by rw [hH, hz]; exact h.2⟩
  rw [hsh] at hb
  by_cases hba : b = a
  · subst hba
    cases hs.symm.trans hb
    exact hat
  · obtain ⟨e1, e2, e3⟩ := he b hba
    rw [e1, e2, e3]
    exact mm_at_kept (h.1 b t hb) (ho b hba)
theorem mm_u_ne {α : Type} {f : Nat → Nat → α} {a k b : Nat} {v : α} (h : b ≠ a) : mm_u f a k v b = f b := by
  funext j
  simp [mm_u, h]
theorem mm_f_ne {α : Type} {f : Nat → Nat → α} {a b : Nat} {v : α} (h : b ≠ a) : mm_f f a v b = f b := by
  funext j
  simp [mm_f, h]
theorem mm_f_self {α : Type} {f : Nat → Nat → α} {a : Nat} {v : α} : mm_f f a v a = fun _ => v := by
  funext j
  simp [mm_f]
theorem mm_I_sI (M : mm_M) (a k b j : Nat) (v : Int32) : mm_I (mm_sI M a k v) b j = if b = a ∧ j = k then v else mm_I M b j := rfl
theorem mm_L_sL (M : mm_M) (a k b j : Nat) (v : Int64) : mm_L (mm_sL M a k v) b j = if b = a ∧ j = k then v else mm_L M b j := rfl
theorem mm_R_sR (M : mm_M) (a k b j : Nat) (v : Option Nat) : mm_R (mm_sR M a k v) b j = if b = a ∧ j = k then v else mm_R M b j := rfl
theorem mm_ne_sI {M : mm_M} {a k : Nat} {v : Int32} (b : Nat) (h : b ≠ a) : mm_I (mm_sI M a k v) b = mm_I M b ∧ mm_L (mm_sI M a k v) b = mm_L M b ∧ mm_R (mm_sI M a k v) b = mm_R M b := ⟨mm_u_ne h, rfl, rfl⟩
theorem mm_ne_sL {M : mm_M} {a k : Nat} {v : Int64} (b : Nat) (h : b ≠ a) : mm_I (mm_sL M a k v) b = mm_I M b ∧ mm_L (mm_sL M a k v) b = mm_L M b ∧ mm_R (mm_sL M a k v) b = mm_R M b := ⟨rfl, mm_u_ne h, rfl⟩
theorem mm_ne_sR {M : mm_M} {a k : Nat} {v : Option Nat} (b : Nat) (h : b ≠ a) : mm_I (mm_sR M a k v) b = mm_I M b ∧ mm_L (mm_sR M a k v) b = mm_L M b ∧ mm_R (mm_sR M a k v) b = mm_R M b := ⟨rfl, rfl, mm_u_ne h⟩
/-- one cell is new -/
theorem mm_ok_new {G : mm_G} {M : mm_M} {U : State} {H H1 : Heap} (h : mm_ok G M U H) (s : mm_S) (hH : H1.size = H.size + 1) (ho : ∀ q : Nat, q < H.size → H1[q]? = H[q]?) (hat : mm_at G U H1 H.size s (fun _ => 0) (fun _ => 0) (fun _ => none)) : mm_ok G (mm_new M s) U H1 := by
  have hz := h.2
  refine ⟨fun b t hb => ?_, by rw [hH, hz]; rfl⟩
  by_cases hbz : b = mm_z M
  · have hb' : mm_sh (mm_new M s) b = some s := by
      show (if b = mm_z M then some s else M.1 b) = some s
      rw [if_pos hbz]
    cases hb'.symm.trans hb
    have e1 : mm_I (mm_new M s) b = fun _ => 0 := by subst hbz; exact mm_f_self
    have e2 : mm_L (mm_new M s) b = fun _ => 0 := by subst hbz; exact mm_f_self
    have e3 : mm_R (mm_new M s) b = fun _ => none := by subst hbz; exact mm_f_self
    rw [e1, e2, e3, hbz, ← hz]
    exact hat
  · have hb' : mm_sh (mm_new M s) b = mm_sh M b := by
      show (if b = mm_z M then some s else M.1 b) = M.1 b
      rw [if_neg hbz]
    have e1 : mm_I (mm_new M s) b = mm_I M b := mm_f_ne hbz
    have e2 : mm_L (mm_new M s) b = mm_L M b := mm_f_ne hbz
    have e3 : mm_R (mm_new M s) b = mm_R M b := mm_f_ne hbz
    rw [hb'] at hb
    rw [e1, e2, e3]
    exact mm_at_kept (h.1 b t hb) (ho b (by rw [hz]; exact mm_ok_lt h hb))
theorem mm_sh_new {G : mm_G} {M : mm_M} {U : State} {H : Heap} (h : mm_ok G M U H) (s : mm_S) {b : Nat} {t : mm_S} (hb : mm_sh M b = some t) : mm_sh (mm_new M s) b = some t ∧ b ≠ mm_z M := by
  have hne : b ≠ mm_z M := Nat.ne_of_lt (mm_ok_lt h hb)
  refine ⟨?_, hne⟩
  show (if b = mm_z M then some s else M.1 b) = some t
  rw [if_neg hne]; exact hb
/-! the locals, by their places -/
def mm_pl (lv : List (Option Value)) : List (Nat × Value) := (List.range lv.length).filterMap (fun j => ((lv[j]?).join).map (fun v => (j, v)))
def mm_lv (ls : Array Slot) (n : Nat) (lv : List (Option Value)) : Prop := lv_has ls n (mm_pl lv)
theorem mm_pl_mem {lv : List (Option Value)} {q : Nat × Value} : q ∈ mm_pl lv ↔ lv[q.1]? = some (some q.2) := by
  unfold mm_pl
  rw [List.mem_filterMap]
  constructor
  · rintro ⟨j, hj, h⟩
    cases hv : lv[j]? with
    | none => simp [hv] at h
    | some w =>
      cases w with
      | none => simp [hv] at h
      | some v =>
        simp [hv] at h
        rw [← h]
        exact hv
  · intro h
    refine ⟨q.1, List.mem_range.mpr (List.getElem?_eq_some_iff.mp h).1, ?_⟩
    rw [h]
    rfl
theorem mm_lv_at {ls : Array Slot} {n : Nat} {lv : List (Option Value)} (h : mm_lv ls n lv) {i : Nat} {v : Value} (hi : lv[i]? = some (some v)) : ls[i]? = some (.val v) := h.2.2 (i, v) (mm_pl_mem.mpr hi)
/-- what stands just ahead of place i is no long -/
def mm_c1 (lv : List (Option Value)) (i : Nat) : Bool := match i with
  | 0 => true
  | j + 1 => match lv[j]? with
    | some (some v) => v.category == 1
    | _ => true
theorem mm_c1_spec {lv : List (Option Value)} {i : Nat} (h : mm_c1 lv i = true) {j : Nat} {v : Value} (hj : lv[j]? = some (some v)) (hi : j + 1 = i) : (v.category == 2) = false := by
  subst hi
  simp only [mm_c1, hj] at h
  have := eq_of_beq h
  rw [this]; rfl
theorem mm_lv_sub {ls : Array Slot} {n : Nat} {lv : List (Option Value)} {l : List (Nat × Value)} (h : lv_has ls n l) (hs : ∀ (i : Nat) (v : Value), lv[i]? = some (some v) → (i, v) ∈ l) : mm_lv ls n lv :=
  ⟨h.1, h.2.1, fun q hq => h.2.2 q (hs q.1 q.2 (mm_pl_mem.mp hq))⟩
theorem mm_lv_weak {ls : Array Slot} {n : Nat} {lv lv' : List (Option Value)} (h : mm_lv ls n lv) (hs : ∀ (i : Nat) (v : Value), lv'[i]? = some (some v) → lv[i]? = some (some v)) : mm_lv ls n lv' :=
  mm_lv_sub h (fun i v hv => mm_pl_mem.mpr (hs i v hv))
theorem mm_lv_set1 {ls : Array Slot} {n : Nat} {lv : List (Option Value)} {i : Nat} {v : Value} (hc : mm_c1 lv i = true) (h : lv_has ls n ((i, v) :: (mm_pl lv).filter (fun q => !(q.1 == i) && !(q.1 + 1 == i && q.2.category == 2)))) : mm_lv ls n (lv.set i (some v)) := by
  refine mm_lv_sub h (fun j w hj => ?_)
  by_cases hji : i = j
  · subst hji
    have hlt : i < lv.length := by
      have := (List.getElem?_eq_some_iff.mp hj).1
      simpa using this
    rw [List.getElem?_set_self hlt] at hj
    cases hj
    exact List.mem_cons_self
  · rw [List.getElem?_set_ne hji] at hj
    refine List.mem_cons_of_mem _ (List.mem_filter.mpr ⟨mm_pl_mem.mpr hj, ?_⟩)
    have h1 : (j == i) = false := by simp [Ne.symm hji]
    simp only [h1, Bool.not_false, Bool.true_and]
    by_cases hj1 : j + 1 = i
    · rw [mm_c1_spec hc hj hj1]; simp
    · have h2 : (j + 1 == i) = false := by simp [hj1]
      simp [h2]
theorem mm_lv_set2 {ls : Array Slot} {n : Nat} {lv : List (Option Value)} {i : Nat} {v : Value} (hc : mm_c1 lv i = true) (h : lv_has ls n ((i, v) :: (mm_pl lv).filter (fun q => !(q.1 == i) && (!(q.1 == i + 1) && !(q.1 + 1 == i && q.2.category == 2))))) : mm_lv ls n ((lv.set i (some v)).set (i + 1) none) := by
  refine mm_lv_sub h (fun j w hj => ?_)
  by_cases hj2 : i + 1 = j
  · subst hj2
    rw [List.getElem?_set] at hj
    simp at hj
  · rw [List.getElem?_set_ne hj2] at hj
    by_cases hji : i = j
    · subst hji
      have hlt : i < lv.length := by
        have := (List.getElem?_eq_some_iff.mp hj).1
        simpa using this
      rw [List.getElem?_set_self hlt] at hj
      cases hj
      exact List.mem_cons_self
    · rw [List.getElem?_set_ne hji] at hj
      refine List.mem_cons_of_mem _ (List.mem_filter.mpr ⟨mm_pl_mem.mpr hj, ?_⟩)
      have h1 : (j == i) = false := by simp [Ne.symm hji]
      have h3 : (j == i + 1) = false := by simp [Ne.symm hj2]
      simp only [h1, h3, Bool.not_false, Bool.true_and]
      by_cases hj1 : j + 1 = i
      · rw [mm_c1_spec hc hj hj1]; simp
      · have h2 : (j + 1 == i) = false := by simp [hj1]
        simp [h2]
/-! the classes' words, types and names, by their numbers -/
theorem mm_in0 : ∀ w ∈ u_ws RX0 TX0 3, w ∈ gt_ws := by decide +kernel
theorem mm_in1 : ∀ w ∈ u_ws RX1 TX1 3, w ∈ gt_ws := by decide +kernel
theorem mm_in2 : ∀ w ∈ u_ws RX2 TX2 9, w ∈ gt_ws := by decide +kernel
theorem mm_in3 : ∀ w ∈ u_ws RX3 TX3 8, w ∈ gt_ws := by decide +kernel
theorem mm_in4 : ∀ w ∈ u_ws RX4 TX4 6, w ∈ gt_ws := by decide +kernel
theorem mm_in5 : ∀ w ∈ u_ws RX5 TX5 2, w ∈ gt_ws := by decide +kernel
theorem mm_in6 : ∀ w ∈ u_ws RX6 TX6 2, w ∈ gt_ws := by decide +kernel
theorem mm_in7 : ∀ w ∈ u_ws RX7 TX7 3, w ∈ gt_ws := by decide +kernel
theorem mm_in8 : ∀ w ∈ u_ws RX8 TX8 3, w ∈ gt_ws := by decide +kernel
theorem mm_in9 : ∀ w ∈ u_ws RX9 TX9 4, w ∈ gt_ws := by decide +kernel
theorem mm_in10 : ∀ w ∈ u_ws RX10 TX10 13, w ∈ gt_ws := by decide +kernel
theorem mm_in11 : ∀ w ∈ u_ws RX11 TX11 8, w ∈ gt_ws := by decide +kernel
theorem mm_in12 : ∀ w ∈ u_ws RX12 TX12 50, w ∈ gt_ws := by decide +kernel
theorem mm_cases {P : Nat → vw_C → Prop} (h0 : P 0 (RX0, TX0, 3)) (h1 : P 1 (RX1, TX1, 3)) (h2 : P 2 (RX2, TX2, 9)) (h3 : P 3 (RX3, TX3, 8)) (h4 : P 4 (RX4, TX4, 6)) (h5 : P 5 (RX5, TX5, 2)) (h6 : P 6 (RX6, TX6, 2)) (h7 : P 7 (RX7, TX7, 3)) (h8 : P 8 (RX8, TX8, 3)) (h9 : P 9 (RX9, TX9, 4)) (h10 : P 10 (RX10, TX10, 13)) (h11 : P 11 (RX11, TX11, 8)) (h12 : P 12 (RX12, TX12, 50)) : ∀ (ci : Nat) (q : vw_C), mm_cl[ci]? = some q → P ci q := by
  intro ci q h
  match ci, h with
  | 0, h => cases h; exact h0
  | 1, h => cases h; exact h1
  | 2, h => cases h; exact h2
  | 3, h => cases h; exact h3
  | 4, h => cases h; exact h4
  | 5, h => cases h; exact h5
  | 6, h => cases h; exact h6
  | 7, h => cases h; exact h7
  | 8, h => cases h; exact h8
  | 9, h => cases h; exact h9
  | 10, h => cases h; exact h10
  | 11, h => cases h; exact h11
  | 12, h => cases h; exact h12
  | n + 13, h => cases h
theorem mm_in : ∀ (ci : Nat) (q : vw_C), mm_cl[ci]? = some q → ∀ w ∈ u_ws q.1 q.2.1 q.2.2, w ∈ gt_ws := mm_cases mm_in0 mm_in1 mm_in2 mm_in3 mm_in4 mm_in5 mm_in6 mm_in7 mm_in8 mm_in9 mm_in10 mm_in11 mm_in12
theorem mm_tyok : ∀ (ci : Nat) (q : vw_C), mm_cl[ci]? = some q → ∀ k, k < q.2.2 → parseFieldDescriptor (q.2.1 k).2.2.1 = some (mm_ty ci k) := mm_cases tyX0_ok tyX1_ok tyX2_ok tyX3_ok tyX4_ok tyX5_ok tyX6_ok tyX7_ok tyX8_ok tyX9_ok tyX10_ok tyX11_ok tyX12_ok
theorem mm_nm : ∀ (ci : Nat) (q : vw_C), mm_cl[ci]? = some q → ∀ a, a < q.2.2 → ∀ b, b < q.2.2 → a ≠ b → (q.2.1 a).2.1 ≠ (q.2.1 b).2.1 := mm_cases nmX0 nmX1 nmX2 nmX3 nmX4 nmX5 nmX6 nmX7 nmX8 nmX9 nmX10 nmX11 nmX12
