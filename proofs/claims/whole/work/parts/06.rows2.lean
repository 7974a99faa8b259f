section ROWS2
variable {fl : Nat} {G : mm_G} {J : mm_J} {d mc ms kc ks : Nat} {Q : Option Value → mm_M → Prop} {M : mm_M} {pc : Nat} {lv : List (Option Value)} {st : List Value}
/-- what an object of the memory gives to a getfield -/
theorem mm_obj {G : mm_G} {M : mm_M} {s : State} {H : Heap} (hok : mm_ok G M s H) {a ci : Nat} (hs : mm_sh M a = some (.inl ci)) {q : vw_C} (hq : mm_cl[ci]? = some q) : mm_sz G ≤ a ∧ t_OB a (G.1.1 ci) q.2.2 (G.1.2 ci) H (fun k => mm_fv (mm_I M a) (mm_L M a) (mm_R M a) k (mm_ty ci k)) := by
  obtain ⟨h0, q', h1, h2⟩ := hok.1 a _ hs
  cases h1.symm.trans hq
  exact ⟨h0, h2⟩
theorem mm_getf {p : Program} {l : Launch} {e : Env} {R : Room} {s : State} {m : MethodId} {args : Array Value} {below : List Frame} {meth : Method} {c : Code} {H : Heap} {locs : List Loc} {cells slots : Nat} {Qs : State → Prop} {ls : Array Slot} (C : wa_C G J d mc ms p R s m args meth c) (hok : mm_ok G M s H) {a ci k i : Nat} {q : vw_C} (hs : mm_sh M a = some (.inl ci)) (hq : mm_cl[ci]? = some q) (hk : k < q.2.2)
    (hd : decode J.2.1 pc = .ok (.getfield i, 3)) (hw : Cond.fieldLink J.1.cls i (q.2.1 k).1 (q.2.1 k).2.1 (q.2.1 k).2.2.1 ∈ gt_ws)
    (kk : W p l e R s m args below meth c H locs cells slots Qs (F0 m (pc + 3) ls (mm_fv (mm_I M a) (mm_L M a) (mm_R M a) k (mm_ty ci k) :: st))) : W p l e R s m args below meth c H locs cells slots Qs (F0 m pc ls (.ref a :: st)) := by
  obtain ⟨-, cell, q1, q2, q3, q4⟩ := mm_obj hok hs hq
  obtain ⟨hS, hfc, kC, hkC, hkind⟩ := C.2.2.2.2.1.1.1 ci _ hq
  obtain ⟨cf, kf, fi, f, hi, hsl⟩ := hS k hk
  refine W.getf C.1.1 C.1.2.1 C.1.2.2.2.1 (C.1.2.2.2.2 _ hw) hi (u_facts hfc hkC (u_lays C.1.2.2.2.2 (mm_in ci q hq) hk) hi).1 q1 (by rw [q3]; exact fun h => by cases h) ?_ rfl rfl hd kk
  rw [hsl, q4 k hk]
theorem wa_getI {a ci k i : Nat} {q : vw_C} (hd : decode J.2.1 pc = .ok (.getfield i, 3)) (hq : mm_cl[ci]? = some q) (hk : k < q.2.2) (hw : Cond.fieldLink J.1.cls i (q.2.1 k).1 (q.2.1 k).2.1 (q.2.1 k).2.2.1 ∈ gt_ws) (hs : mm_sh M a = some (.inl ci)) (hty : mm_ty ci k = .int) (kk : wa_ fl G J d mc ms Q kc ks M (pc + 3) lv (.int (mm_I M a k) :: st)) : wa_ fl G J d mc ms Q kc ks M pc lv (.ref a :: st) := by
  intro p l e R s m args below meth c H locs cells slots ls C hok hS hc hs' hl
  refine mm_getf C hok hs hq hk hd hw ?_
  rw [hty]
  exact kk p l e R s m args below meth c H locs cells slots ls C hok hS hc hs' hl
theorem wa_getL {a ci k i : Nat} {q : vw_C} (hd : decode J.2.1 pc = .ok (.getfield i, 3)) (hq : mm_cl[ci]? = some q) (hk : k < q.2.2) (hw : Cond.fieldLink J.1.cls i (q.2.1 k).1 (q.2.1 k).2.1 (q.2.1 k).2.2.1 ∈ gt_ws) (hs : mm_sh M a = some (.inl ci)) (hty : mm_ty ci k = .long) (kk : wa_ fl G J d mc ms Q kc ks M (pc + 3) lv (.long (mm_L M a k) :: st)) : wa_ fl G J d mc ms Q kc ks M pc lv (.ref a :: st) := by
  intro p l e R s m args below meth c H locs cells slots ls C hok hS hc hs' hl
  refine mm_getf C hok hs hq hk hd hw ?_
  rw [hty]
  exact kk p l e R s m args below meth c H locs cells slots ls C hok hS hc hs' hl
/-- a type of references -/
def mm_rt : FieldType → Bool
  | .object _ => true
  | .array _ => true
  | _ => false
theorem mm_fv_r {i : Nat → Int32} {l : Nat → Int64} {r : Nat → Option Nat} {k : Nat} {ty : FieldType} (h : mm_rt ty = true) : mm_fv i l r k ty = va_rf (r k) := by
  cases ty <;> first | rfl | cases h
theorem wa_getR {a ci k i : Nat} {q : vw_C} {v : Value} (hd : decode J.2.1 pc = .ok (.getfield i, 3)) (hq : mm_cl[ci]? = some q) (hk : k < q.2.2) (hw : Cond.fieldLink J.1.cls i (q.2.1 k).1 (q.2.1 k).2.1 (q.2.1 k).2.2.1 ∈ gt_ws) (hs : mm_sh M a = some (.inl ci)) (hty : mm_rt (mm_ty ci k) = true) (hv : va_rf (mm_R M a k) = v) (kk : wa_ fl G J d mc ms Q kc ks M (pc + 3) lv (v :: st)) : wa_ fl G J d mc ms Q kc ks M pc lv (.ref a :: st) := by
  intro p l e R s m args below meth c H locs cells slots ls C hok hS hc hs' hl
  refine mm_getf C hok hs hq hk hd hw ?_
  rw [mm_fv_r hty, hv]
  exact kk p l e R s m args below meth c H locs cells slots ls C hok hS hc hs' hl
/-- how a memory takes a value at a place, by its type -/
def mm_put (M : mm_M) (a k : Nat) (v : Value) : mm_M := match v with
  | .int x => mm_sI M a k x
  | .long x => mm_sL M a k x
  | .ref x => mm_sR M a k (some x)
  | .null => mm_sR M a k none
  | _ => M
def mm_kd (ty : FieldType) (v : Value) : Bool := match ty, v with
  | .int, .int _ => true
  | .long, .long _ => true
  | .object _, .ref _ => true
  | .object _, .null => true
  | .array _, .ref _ => true
  | .array _, .null => true
  | _, _ => false
theorem mm_put_sh (M : mm_M) (a k : Nat) (v : Value) : mm_sh (mm_put M a k v) = mm_sh M := by cases v <;> rfl
theorem mm_put_z (M : mm_M) (a k : Nat) (v : Value) : mm_z (mm_put M a k v) = mm_z M := by cases v <;> rfl
theorem mm_put_ne (M : mm_M) (a k : Nat) (v : Value) (b : Nat) (h : b ≠ a) : mm_I (mm_put M a k v) b = mm_I M b ∧ mm_L (mm_put M a k v) b = mm_L M b ∧ mm_R (mm_put M a k v) b = mm_R M b := by
  cases v <;> first | exact mm_ne_sI b h | exact mm_ne_sL b h | exact mm_ne_sR b h | exact ⟨rfl, rfl, rfl⟩
theorem mm_put_fv (M : mm_M) (a k : Nat) (v : Value) (ty : Nat → FieldType) (hk : mm_kd (ty k) v = true) (j : Nat) : updV (fun k => mm_fv (mm_I M a) (mm_L M a) (mm_R M a) k (ty k)) k v j = mm_fv (mm_I (mm_put M a k v) a) (mm_L (mm_put M a k v) a) (mm_R (mm_put M a k v) a) j (ty j) := by
  by_cases hj : j = k
  · subst hj
    simp only [updV, if_true]
    cases hty : ty j <;> cases v <;> simp_all [mm_kd, mm_fv, mm_put, mm_I, mm_L, mm_R, mm_sI, mm_sL, mm_sR, mm_u, va_rf]
  · simp only [updV, if_neg hj]
    cases v <;> simp [mm_fv, mm_put, mm_I, mm_L, mm_R, mm_sI, mm_sL, mm_sR, mm_u, hj]
theorem mm_kd_n {ty : FieldType} {v : Value} (h : mm_kd ty v = true) : narrow ty v = v ∧ fits ty v = true := by
  cases ty <;> cases v <;> simp_all [mm_kd, narrow, fits]
theorem mm_S_put {G : mm_G} {H0 H H1 : Heap} {locs : List Loc} {a k : Nat} (h : va_S (mm_fr G) H0 H locs) (z : H1.size = H.size) (oq : ∀ q : Nat, q ≠ a → H1[q]? = H[q]?) (ha : mm_sz G ≤ a) : va_S (mm_fr G) H0 H1 (locs ++ [⟨a, k⟩]) := h.put z oq ha
theorem wa_put {a ci k i : Nat} {q : vw_C} {v : Value} (hd : decode J.2.1 pc = .ok (.putfield i, 3)) (hq : mm_cl[ci]? = some q) (hk : k < q.2.2) (hw : Cond.fieldLink J.1.cls i (q.2.1 k).1 (q.2.1 k).2.1 (q.2.1 k).2.2.1 ∈ gt_ws) (hf : (q.2.1 k).2.2.2 = false) (hs : mm_sh M a = some (.inl ci)) (hkd : mm_kd (mm_ty ci k) v = true) (kk : wa_ fl G J d mc ms Q kc ks (mm_put M a k v) (pc + 3) lv st) : wa_ fl G J d mc ms Q kc ks M pc lv (v :: .ref a :: st) := by
  intro p l e R s m args below meth c H locs cells slots ls C hok hS hc hs' hl
  have hap := va_apart (own := J.1.cls) C.1.2.2.2.2 (mm_in ci q hq) (mm_ty ci) (mm_tyok ci q hq) (mm_nm ci q hq) C.2.2.2.2.1.1 hq
  obtain ⟨hge, cell, q1, q2, q3, q4⟩ := mm_obj hok hs hq
  obtain ⟨hSl, hfc, kC, hkC, hkind⟩ := C.2.2.2.2.1.1.1 ci _ hq
  obtain ⟨cf, kf, fi, f, hi, hsl⟩ := hSl k hk
  have hlay := C.1.2.2.2.2 _ (mm_in ci q hq _ (u_in_lay hk))
  unfold u_lay at hlay
  rw [if_neg (by rw [hf]; decide)] at hlay
  have hst := (u_facts hfc hkC (u_lays C.1.2.2.2.2 (mm_in ci q hq) hk) hi).1
  obtain ⟨hn1, hn2⟩ := mm_kd_n hkd
  have h6 := u_store hfc hkC hkind hlay hi (mm_tyok ci q hq k hk) hn1 hn2
  refine W.putK C.1.1 C.1.2.1 (f := f) ⟨C.1.2.2.2.1, C.1.2.2.2.2 _ hw, ⟨_, _, _, hi⟩, hst⟩ (by rw [q2]; exact h6) q1 q3 (by rw [hsl]; exact k2_hasslot (q4 k hk)) rfl rfl hd fun H' e1 e2 e3 => ?_
  rw [hsl] at e1 ⊢
  refine kk p l e R s m args below meth c H' _ cells slots ls C (mm_ok_put hok hs (mm_put_sh M a k v) (mm_put_z M a k v) (mm_put_ne M a k v) e2 e3 ?_) (mm_S_put hS e2 e3 hge) hc hs' hl
  exact ⟨hge, q, hq, t_OB.to (V := updV (fun k => mm_fv (mm_I M a) (mm_L M a) (mm_R M a) k (mm_ty ci k)) k v) ⟨_, e1, q2, q3, t_set q4 hap hk v⟩ (fun j _ => mm_put_fv M a k v (mm_ty ci) hkd j)⟩
theorem wa_putF {a ci k i : Nat} {q : vw_C} {v : Value} (hd : decode J.2.1 pc = .ok (.putfield i, 3)) (hq : mm_cl[ci]? = some q) (hk : k < q.2.2) (hw : Cond.fieldLink J.1.cls i (q.2.1 k).1 (q.2.1 k).2.1 (q.2.1 k).2.2.1 ∈ gt_ws) (hf : (q.2.1 k).2.2.2 = true) (hin : J.1.name = "<init>") (hlaw : J.1.cls ≠ "ConsulDeskLaw") (hdecl : (q.2.1 k).1 = J.1.cls) (hs : mm_sh M a = some (.inl ci)) (hkd : mm_kd (mm_ty ci k) v = true) (kk : wa_ fl G J d mc ms Q kc ks (mm_put M a k v) (pc + 3) lv st) : wa_ fl G J d mc ms Q kc ks M pc lv (v :: .ref a :: st) := by
  intro p l e R s m args below meth c H locs cells slots ls C hok hS hc hs' hl
  have hap := va_apart (own := J.1.cls) C.1.2.2.2.2 (mm_in ci q hq) (mm_ty ci) (mm_tyok ci q hq) (mm_nm ci q hq) C.2.2.2.2.1.1 hq
  obtain ⟨hge, cell, q1, q2, q3, q4⟩ := mm_obj hok hs hq
  obtain ⟨hSl, hfc, kC, hkC, hkind⟩ := C.2.2.2.2.1.1.1 ci _ hq
  obtain ⟨cf, kf, fi, f, hi, hsl⟩ := hSl k hk
  have hlay := C.1.2.2.2.2 _ (mm_in ci q hq _ (u_in_lay hk))
  unfold u_lay at hlay
  rw [if_pos hf] at hlay
  have hst := (u_facts hfc hkC (u_lays C.1.2.2.2.2 (mm_in ci q hq) hk) hi).1
  have hcf : m.cls = cf := by
    obtain ⟨_, _, c', _, _, _, -, -, hf', -, -, -, hown2, -⟩ := Cond.laysFinal_spec hlay
    have e1 : c' = cf := by have := hi.symm.trans hf'; simp at this; exact this.1.symm
    rw [hdecl] at hown2
    rw [← e1]; exact Option.some.inj (C.1.2.2.2.1.symm.trans hown2)
  obtain ⟨hn1, hn2⟩ := mm_kd_n hkd
  have h6 := u_fits hfc hkC hkind (Or.inr hlay) hi (mm_tyok ci q hq k hk) hn1 hn2
  refine W.putFinK C.1.1 C.1.2.1 C.1.2.2.2.1 (C.1.2.2.2.2 _ hw) hi hst hcf ((C.2.2.2.1.resolve_left hlaw).1.trans hin) (by rw [q2]; exact h6) q1 q3 (by rw [hsl]; exact k2_hasslot (q4 k hk)) rfl rfl hd fun H' e1 e2 e3 => ?_
  rw [hsl] at e1 ⊢
  refine kk p l e R s m args below meth c H' _ cells slots ls C (mm_ok_put hok hs (mm_put_sh M a k v) (mm_put_z M a k v) (mm_put_ne M a k v) e2 e3 ?_) (mm_S_put hS e2 e3 hge) hc hs' hl
  exact ⟨hge, q, hq, t_OB.to (V := updV (fun k => mm_fv (mm_I M a) (mm_L M a) (mm_R M a) k (mm_ty ci k)) k v) ⟨_, e1, q2, q3, t_set q4 hap hk v⟩ (fun j _ => mm_put_fv M a k v (mm_ty ci) hkd j)⟩
/-! arrays -/
theorem mm_arr {G : mm_G} {M : mm_M} {s : State} {H : Heap} (hok : mm_ok G M s H) {a k n : Nat} (hs : mm_sh M a = some (.inr (k, n))) (hk : k < 10) : mm_sz G ≤ a ∧ H[a]? = some (vp_cell (G.2.1 k) (mm_ar (mm_I M a) (mm_L M a) (mm_R M a) k n)) := by
  have h := hok.1 a _ hs
  simp only [mm_at, hk, if_true] at h
  exact h
theorem mm_tbl {G : mm_G} {M : mm_M} {s : State} {H : Heap} (hok : mm_ok G M s H) {a k n : Nat} (hs : mm_sh M a = some (.inr (k, n))) (hk : ¬ k < 10) : mm_tb (if k = 10 then .int else .byte) n (mm_I M a) s H a := by
  have h := hok.1 a _ hs
  simp only [mm_at, hk, if_false] at h
  exact h.2
theorem mm_aK {G : mm_G} {s : State} (hK : mm_K G s) {k : Nat} (hk : k < 10) : ArrOfT s (G.2.1 k) (mm_el k) ∧ va_RA s (G.2.1 k) (mm_el k) := hK.1.2 k _ (mm_tys_at G hk)
theorem wa_alen {a k n : Nat} (hd : decode J.2.1 pc = .ok (.arraylength, 1)) (hs : mm_sh M a = some (.inr (k, n))) (kk : wa_ fl G J d mc ms Q kc ks M (pc + 1) lv (.int (Int32.ofNat n) :: st)) : wa_ fl G J d mc ms Q kc ks M pc lv (.ref a :: st) := by
  intro p l e R s m args below meth c H locs cells slots ls C hok hS hc hs' hl
  have kk' := kk p l e R s m args below meth c H locs cells slots ls C hok hS hc hs' hl
  by_cases hk : k < 10
  · obtain ⟨-, hcell⟩ := mm_arr hok hs hk
    have hA := (mm_aK C.2.2.2.2.1 hk).1
    unfold mm_ar at hcell
    by_cases h3 : k < 3
    · simp only [h3, if_true] at hcell
      exact W.alen (n := Int32.ofNat n) C.1.1 C.1.2.1 hcell (hA n (fun j => .int (mm_I M a j))) (by rw [vp_cell_i, arrV_size] <;> rfl) rfl rfl hd kk'
    · by_cases h4 : k = 3
      · subst h4
        have hcell : H[a]? = some (vp_cell (G.2.1 3) (n, .inr (.inl (mm_L M a)))) := hcell
        exact W.alen (n := Int32.ofNat n) C.1.1 C.1.2.1 hcell (hA n (fun j => .long (mm_L M a j))) (by rw [vp_cell_l, arrV_size] <;> rfl) rfl rfl hd kk'
      · simp only [h3, h4, if_false] at hcell
        exact W.alen (n := Int32.ofNat n) C.1.1 C.1.2.1 hcell (hA n (fun j => va_rf (mm_R M a j))) (by rw [vp_cell_q, arrV_size] <;> rfl) rfl rfl hd kk'
  · obtain ⟨cell, h1, h2, -, -, h5, -⟩ := mm_tbl hok hs hk
    exact W.alen (n := Int32.ofNat n) C.1.1 C.1.2.1 h1 h2 h5 rfl rfl hd kk'
theorem wa_iald {a k n : Nat} {i : Int32} (hd : decode J.2.1 pc = .ok (.iaload, 1)) (hs : mm_sh M a = some (.inr (k, n))) (hk : k = 0 ∨ k = 10) (hin : vp_in i n) (kk : wa_ fl G J d mc ms Q kc ks M (pc + 1) lv (.int (mm_I M a i.toNatClampNeg) :: st)) : wa_ fl G J d mc ms Q kc ks M pc lv (.int i :: .ref a :: st) := by
  intro p l e R s m args below meth c H locs cells slots ls C hok hS hc hs' hl
  have kk' := kk p l e R s m args below meth c H locs cells slots ls C hok hS hc hs' hl
  have hlt : i.toNatClampNeg < n := Nat.not_le.mp fun q => hin (Or.inr q)
  rcases hk with rfl | rfl
  · obtain ⟨-, hcell⟩ := mm_arr hok hs (by decide)
    have hcell : H[a]? = some (vp_cell (G.2.1 0) (n, .inl (mm_I M a))) := hcell
    exact W.iald (v := .int (mm_I M a i.toNatClampNeg)) C.1.1 C.1.2.1 hcell ((mm_aK C.2.2.2.2.1 (k := 0) (by decide)).1 n (fun j => .int (mm_I M a j))) (fun q => by cases q) (by show ¬ (i < 0 ∨ (arrV _ _ _).slots.size ≤ _); rw [arrV_size]; exact hin) (by show (arrV _ _ _).slots[_]? = _; rw [arrV_read _ _ hlt]) rfl rfl hd kk'
  · obtain ⟨cell, h1, h2, h3, h4, h5, h6⟩ := mm_tbl hok hs (by decide)
    have hin' : ¬ (i < 0 ∨ cell.slots.size ≤ i.toNatClampNeg) := by
      intro q
      rcases q with q | q
      · exact hin (Or.inl q)
      · omega
    exact W.iald (v := .int (mm_I M a i.toNatClampNeg)) C.1.1 C.1.2.1 h1 h2 h3 hin' (h6 _ hlt) rfl rfl hd kk'
theorem wa_bald {a k n : Nat} {i : Int32} (hd : decode J.2.1 pc = .ok (.baload, 1)) (hs : mm_sh M a = some (.inr (k, n))) (hk : k = 1 ∨ k = 2) (hin : vp_in i n) (kk : wa_ fl G J d mc ms Q kc ks M (pc + 1) lv (.int (mm_I M a i.toNatClampNeg) :: st)) : wa_ fl G J d mc ms Q kc ks M pc lv (.int i :: .ref a :: st) := by
  intro p l e R s m args below meth c H locs cells slots ls C hok hS hc hs' hl
  have kk' := kk p l e R s m args below meth c H locs cells slots ls C hok hS hc hs' hl
  have hlt : i.toNatClampNeg < n := Nat.not_le.mp fun q => hin (Or.inr q)
  rcases hk with rfl | rfl
  · obtain ⟨-, hcell⟩ := mm_arr hok hs (by decide)
    have hcell : H[a]? = some (vp_cell (G.2.1 1) (n, .inl (mm_I M a))) := hcell
    exact W.bald (v := .int (mm_I M a i.toNatClampNeg)) C.1.1 C.1.2.1 hcell ((mm_aK C.2.2.2.2.1 (k := 1) (by decide)).1 n (fun j => .int (mm_I M a j))) (fun q => by cases q) (by show ¬ (i < 0 ∨ (arrV _ _ _).slots.size ≤ _); rw [arrV_size]; exact hin) (by show (arrV _ _ _).slots[_]? = _; rw [arrV_read _ _ hlt]) rfl rfl hd kk'
  · obtain ⟨-, hcell⟩ := mm_arr hok hs (by decide)
    have hcell : H[a]? = some (vp_cell (G.2.1 2) (n, .inl (mm_I M a))) := hcell
    exact W.zald (v := .int (mm_I M a i.toNatClampNeg)) C.1.1 C.1.2.1 hcell ((mm_aK C.2.2.2.2.1 (k := 2) (by decide)).1 n (fun j => .int (mm_I M a j))) (fun q => by cases q) (by show ¬ (i < 0 ∨ (arrV _ _ _).slots.size ≤ _); rw [arrV_size]; exact hin) (by show (arrV _ _ _).slots[_]? = _; rw [arrV_read _ _ hlt]) rfl rfl hd kk'
theorem wa_lald {a n : Nat} {i : Int32} (hd : decode J.2.1 pc = .ok (.laload, 1)) (hs : mm_sh M a = some (.inr (3, n))) (hin : vp_in i n) (kk : wa_ fl G J d mc ms Q kc ks M (pc + 1) lv (.long (mm_L M a i.toNatClampNeg) :: st)) : wa_ fl G J d mc ms Q kc ks M pc lv (.int i :: .ref a :: st) := by
  intro p l e R s m args below meth c H locs cells slots ls C hok hS hc hs' hl
  have kk' := kk p l e R s m args below meth c H locs cells slots ls C hok hS hc hs' hl
  have hlt : i.toNatClampNeg < n := Nat.not_le.mp fun q => hin (Or.inr q)
  obtain ⟨-, hcell⟩ := mm_arr hok hs (by decide)
  have hcell : H[a]? = some (vp_cell (G.2.1 3) (n, .inr (.inl (mm_L M a)))) := hcell
  exact W.lald (v := .long (mm_L M a i.toNatClampNeg)) C.1.1 C.1.2.1 hcell ((mm_aK C.2.2.2.2.1 (k := 3) (by decide)).1 n (fun j => .long (mm_L M a j))) (fun q => by cases q) (by show ¬ (i < 0 ∨ (arrV _ _ _).slots.size ≤ _); rw [arrV_size]; exact hin) (by show (arrV _ _ _).slots[_]? = _; rw [arrV_read _ _ hlt]) rfl rfl hd kk'
theorem mm_ar_r {i : Nat → Int32} {l : Nat → Int64} {r : Nat → Option Nat} {k n : Nat} (h : 3 < k) : mm_ar i l r k n = (n, .inr (.inr (.inr (.inr r)))) := by
  unfold mm_ar
  rw [if_neg (by omega), if_neg (by omega)]
theorem mm_el_r {k : Nat} (h : 3 < k) : ∃ C : String, mm_el k = .object C := by
  match k, h with
  | 4, _ => exact ⟨_, rfl⟩
  | 5, _ => exact ⟨_, rfl⟩
  | 6, _ => exact ⟨_, rfl⟩
  | 7, _ => exact ⟨_, rfl⟩
  | 8, _ => exact ⟨_, rfl⟩
  | n + 9, _ => exact ⟨_, rfl⟩
theorem wa_aald {a k n : Nat} {i : Int32} {v : Value} (hd : decode J.2.1 pc = .ok (.aaload, 1)) (hs : mm_sh M a = some (.inr (k, n))) (hk3 : 3 < k) (hk : k < 10) (hin : vp_in i n) (hv : va_rf (mm_R M a i.toNatClampNeg) = v) (kk : wa_ fl G J d mc ms Q kc ks M (pc + 1) lv (v :: st)) : wa_ fl G J d mc ms Q kc ks M pc lv (.int i :: .ref a :: st) := by
  intro p l e R s m args below meth c H locs cells slots ls C hok hS hc hs' hl
  have kk' := kk p l e R s m args below meth c H locs cells slots ls C hok hS hc hs' hl
  subst hv
  have hlt : i.toNatClampNeg < n := Nat.not_le.mp fun q => hin (Or.inr q)
  obtain ⟨-, hcell⟩ := mm_arr hok hs hk
  rw [mm_ar_r hk3] at hcell
  obtain ⟨CC, hCC⟩ := mm_el_r hk3
  have hA := (mm_aK C.2.2.2.2.1 hk).1
  rw [hCC] at hA
  exact W.aald (v := va_rf (mm_R M a i.toNatClampNeg)) (ty := .object CC) C.1.1 C.1.2.1 hcell (hA n (fun j => va_rf (mm_R M a j))) rfl (fun q => by cases q) (by show ¬ (i < 0 ∨ (arrV _ _ _).slots.size ≤ _); rw [arrV_size]; exact hin) (by show (arrV _ _ _).slots[_]? = _; rw [arrV_read _ _ hlt]) rfl rfl hd kk'
theorem wa_iast {a n : Nat} {i x : Int32} (hd : decode J.2.1 pc = .ok (.iastore, 1)) (hs : mm_sh M a = some (.inr (0, n))) (hin : vp_in i n) (kk : wa_ fl G J d mc ms Q kc ks (mm_sI M a i.toNatClampNeg x) (pc + 1) lv st) : wa_ fl G J d mc ms Q kc ks M pc lv (.int x :: .int i :: .ref a :: st) := by
  intro p l e R s m args below meth c H locs cells slots ls C hok hS hc hs' hl
  obtain ⟨hge, hcell⟩ := mm_arr hok hs (by decide)
  refine W.iast C.1.1 C.1.2.1 hcell ((mm_aK C.2.2.2.2.1 (k := 0) (by decide)).1 n (fun j => .int (mm_I M a j))) (fun q => by cases q) (by show ¬ (i < 0 ∨ (arrV _ _ _).slots.size ≤ _); rw [arrV_size]; exact hin) rfl rfl hd fun H1 e1 z oq => ?_
  refine kk p l e R s m args below meth c H1 _ cells slots ls C (mm_ok_put hok hs rfl rfl (fun b hb => mm_ne_sI b hb) z oq ⟨hge, ?_⟩) (mm_S_put hS z oq hge) hc hs' hl
  rw [e1]
  show some ((vp_cell _ (n, .inl (mm_I M a))).setSlot _ _) = some (vp_cell _ (n, .inl (mm_I (mm_sI M a i.toNatClampNeg x) a)))
  rw [vp_cell_i, vp_cell_i, arrV_store]
  congr 2
  funext j
  by_cases hq : j = i.toNatClampNeg
  · subst hq
    simp [updV, mm_I, mm_sI, mm_u]
  · simp [updV, mm_I, mm_sI, mm_u, hq]
theorem wa_bast {a n : Nat} {i x : Int32} (hd : decode J.2.1 pc = .ok (.bastore, 1)) (hs : mm_sh M a = some (.inr (1, n))) (hin : vp_in i n) (kk : wa_ fl G J d mc ms Q kc ks (mm_sI M a i.toNatClampNeg (vp_nar .byte x)) (pc + 1) lv st) : wa_ fl G J d mc ms Q kc ks M pc lv (.int x :: .int i :: .ref a :: st) := by
  intro p l e R s m args below meth c H locs cells slots ls C hok hS hc hs' hl
  obtain ⟨hge, hcell⟩ := mm_arr hok hs (by decide)
  refine W.bast C.1.1 C.1.2.1 hcell ((mm_aK C.2.2.2.2.1 (k := 1) (by decide)).1 n (fun j => .int (mm_I M a j))) (fun q => by cases q) (by show ¬ (i < 0 ∨ (arrV _ _ _).slots.size ≤ _); rw [arrV_size]; exact hin) rfl rfl hd fun H1 e1 z oq => ?_
  refine kk p l e R s m args below meth c H1 _ cells slots ls C (mm_ok_put hok hs rfl rfl (fun b hb => mm_ne_sI b hb) z oq ⟨hge, ?_⟩) (mm_S_put hS z oq hge) hc hs' hl
  rw [e1]
  show some ((vp_cell _ (n, .inl (mm_I M a))).setSlot _ _) = some (vp_cell _ (n, .inl (mm_I (mm_sI M a i.toNatClampNeg (vp_nar .byte x)) a)))
  rw [vp_cell_i, vp_cell_i, arrV_store]
  congr 2
  funext j
  by_cases hq : j = i.toNatClampNeg
  · subst hq
    simp [updV, mm_I, mm_sI, mm_u, vp_nar, narrow]
  · simp [updV, mm_I, mm_sI, mm_u, hq]
theorem wa_zast {a n : Nat} {i x : Int32} (hd : decode J.2.1 pc = .ok (.bastore, 1)) (hs : mm_sh M a = some (.inr (2, n))) (hin : vp_in i n) (hx : narrow .boolean (.int x) = .int x) (kk : wa_ fl G J d mc ms Q kc ks (mm_sI M a i.toNatClampNeg x) (pc + 1) lv st) : wa_ fl G J d mc ms Q kc ks M pc lv (.int x :: .int i :: .ref a :: st) := by
  intro p l e R s m args below meth c H locs cells slots ls C hok hS hc hs' hl
  obtain ⟨hge, hcell⟩ := mm_arr hok hs (by decide)
  refine W.zast C.1.1 C.1.2.1 hcell ((mm_aK C.2.2.2.2.1 (k := 2) (by decide)).1 n (fun j => .int (mm_I M a j))) (fun q => by cases q) (by show ¬ (i < 0 ∨ (arrV _ _ _).slots.size ≤ _); rw [arrV_size]; exact hin) rfl rfl hd fun H1 e1 z oq => ?_
  refine kk p l e R s m args below meth c H1 _ cells slots ls C (mm_ok_put hok hs rfl rfl (fun b hb => mm_ne_sI b hb) z oq ⟨hge, ?_⟩) (mm_S_put hS z oq hge) hc hs' hl
  rw [e1]
  show some ((vp_cell _ (n, .inl (mm_I M a))).setSlot _ _) = some (vp_cell _ (n, .inl (mm_I (mm_sI M a i.toNatClampNeg x) a)))
  rw [vp_cell_i, vp_cell_i, hx, arrV_store]
  congr 2
  funext j
  by_cases hq : j = i.toNatClampNeg
  · subst hq
    simp [updV, mm_I, mm_sI, mm_u]
  · simp [updV, mm_I, mm_sI, mm_u, hq]
theorem wa_last {a n : Nat} {i : Int32} {x : Int64} (hd : decode J.2.1 pc = .ok (.lastore, 1)) (hs : mm_sh M a = some (.inr (3, n))) (hin : vp_in i n) (kk : wa_ fl G J d mc ms Q kc ks (mm_sL M a i.toNatClampNeg x) (pc + 1) lv st) : wa_ fl G J d mc ms Q kc ks M pc lv (.long x :: .int i :: .ref a :: st) := by
  intro p l e R s m args below meth c H locs cells slots ls C hok hS hc hs' hl
  obtain ⟨hge, hcell⟩ := mm_arr hok hs (by decide)
  refine W.last C.1.1 C.1.2.1 hcell ((mm_aK C.2.2.2.2.1 (k := 3) (by decide)).1 n (fun j => .long (mm_L M a j))) (fun q => by cases q) (by show ¬ (i < 0 ∨ (arrV _ _ _).slots.size ≤ _); rw [arrV_size]; exact hin) rfl rfl hd fun H1 e1 z oq => ?_
  refine kk p l e R s m args below meth c H1 _ cells slots ls C (mm_ok_put hok hs rfl rfl (fun b hb => mm_ne_sL b hb) z oq ⟨hge, ?_⟩) (mm_S_put hS z oq hge) hc hs' hl
  rw [e1]
  show some ((vp_cell _ (n, .inr (.inl (mm_L M a)))).setSlot _ _) = some (vp_cell _ (n, .inr (.inl (mm_L (mm_sL M a i.toNatClampNeg x) a))))
  rw [vp_cell_l, vp_cell_l, arrV_store]
  congr 2
  funext j
  by_cases hq : j = i.toNatClampNeg
  · subst hq
    simp [updV, mm_L, mm_sL, mm_u]
  · simp [updV, mm_L, mm_sL, mm_u, hq]
end ROWS2
