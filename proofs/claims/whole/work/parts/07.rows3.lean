section ROWS3
variable {fl : Nat} {G : mm_G} {J : mm_J} {d mc ms kc ks : Nat} {Q : Option Value → mm_M → Prop} {M : mm_M} {pc : Nat} {lv : List (Option Value)} {st : List Value}
def mm_okt : FieldType → Bool
  | .float => false
  | .double => false
  | _ => true
theorem mm_dv {ty : FieldType} (h : mm_okt ty = true) (k : Nat) : defaultValue ty = mm_fv (fun _ => 0) (fun _ => 0) (fun _ => none) k ty := by
  cases ty <;> first | rfl | cases h
theorem mm_okts : ∀ (ci : Nat) (q : vw_C), mm_cl[ci]? = some q → ∀ k, k < q.2.2 → mm_okt (mm_ty ci k) = true := mm_cases (by decide +kernel) (by decide +kernel) (by decide +kernel) (by decide +kernel) (by decide +kernel) (by decide +kernel) (by decide +kernel) (by decide +kernel) (by decide +kernel) (by decide +kernel) (by decide +kernel) (by decide +kernel) (by decide +kernel)
theorem mm_grow {G : mm_G} {s : State} {H : Heap} {locs : List Loc} {n : Nat} (h : mm_sz G ≤ s.heap.size) (hS : va_S (mm_fr G) s.heap H locs) (hn : H.size = n) : mm_sz G ≤ n := by rw [← hn]; exact Nat.le_trans h hS.1
/-- all that is there stays, apart from the new one -/
def mm_ext (M : mm_M) (s : mm_S) : Prop := ∀ (b : Nat) (t : mm_S), mm_sh M b = some t → mm_sh (mm_new M s) b = some t ∧ b ≠ mm_z M ∧ b < mm_z M
theorem wa_new {ci i n : Nat} {q : vw_C} (hd : decode J.2.1 pc = .ok (.new i, 3)) (hq : mm_cl[ci]? = some q) (hn : q.2.2 = n) (hw1 : Cond.classLink J.1.cls i q.1 ∈ gt_ws) (hw2 : Cond.instantiable q.1 q.2.2 ∈ gt_ws) (hw3 : Cond.initialized q.1 ∈ gt_ws) (kk : mm_ext M (.inl ci) → wa_ fl G J d mc ms Q kc ks (mm_new M (.inl ci)) (pc + 3) lv (.ref (mm_z M) :: st)) : wa_ fl G J d mc ms Q (kc + 1) (ks + n) M pc lv st := by
  intro p l e R s m args below meth c H locs cells slots ls C hok hS hc hs hl
  subst hn
  have hKn := C.2.2.2.2.1.1.1 ci q hq
  have hR := C.2.2.2.2.2.2.2
  refine W.newcK C.1.1 C.1.2.1 C.1.2.2.2.1 (C.1.2.2.2.2 _ hw1) (C.1.2.2.2.2 _ hw2) (C.1.2.2.2.2 _ hw3) rfl hd (by omega) (by omega) hKn.2.1 rfl fun H1 kC hkC e1 z1 o1 => ?_
  rw [hok.2]
  refine kk (fun b t hb => ⟨(mm_sh_new hok (.inl ci) hb).1, (mm_sh_new hok (.inl ci) hb).2, mm_ok_lt hok hb⟩) p l e R s m args below meth c H1 locs _ _ ls C (mm_ok_new hok (.inl ci) z1 o1 ⟨mm_grow C.2.2.2.2.2.2.1 hS rfl, q, hq, ?_⟩) (mm_S_new hS (by omega) o1) (by omega) (by omega) hl
  exact (u_born (mm_ty ci) C.1.2.2.2.2 (mm_in ci q hq) hKn hkC e1 (mm_tyok ci q hq)).to (fun k hk => mm_dv (mm_okts ci q hq k hk) k)
theorem mm_ar0 {k n : Nat} (hk : k < 10) (cA : ClassId) : vp_cell cA (mm_ar (fun _ => 0) (fun _ => 0) (fun _ => none) k n) = arrV cA n (fun _ => defaultValue (mm_el k)) := by
  match k, hk with
  | 0, _ => rfl
  | 1, _ => rfl
  | 2, _ => rfl
  | 3, _ => rfl
  | 4, _ => rfl
  | 5, _ => rfl
  | 6, _ => rfl
  | 7, _ => rfl
  | 8, _ => rfl
  | 9, _ => rfl
  | n + 10, h => exact absurd h (by omega)
theorem mm_arn {k n : Nat} (hk : k < 10) (G : mm_G) (U : State) (H : Heap) (a : Nat) (h1 : mm_sz G ≤ a) (h2 : H[a]? = some (arrV (G.2.1 k) n (fun _ => defaultValue (mm_el k)))) : mm_at G U H a (.inr (k, n)) (fun _ => 0) (fun _ => 0) (fun _ => none) := by
  simp only [mm_at, hk, if_true]
  exact ⟨h1, by rw [mm_ar0 hk]; exact h2⟩
theorem wa_newa {k n : Nat} {at_ : ArrayType} {x : Int32} (hd : decode J.2.1 pc = .ok (.newarray at_, 2)) (hk : k < 4) (hty : newarray.typeOf at_ = mm_el k) (hw : Cond.arrayClass (mm_el k) ∈ gt_ws) (hx : ¬ x < 0) (hn : x.toNatClampNeg = n) (hb : n * 8 ≤ 536870912) (kk : mm_ext M (.inr (k, n)) → wa_ fl G J d mc ms Q kc ks (mm_new M (.inr (k, n))) (pc + 2) lv (.ref (mm_z M) :: st)) : wa_ fl G J d mc ms Q (kc + 1) (ks + n) M pc lv (.int x :: st) := by
  intro p l e R s m args below meth c H locs cells slots ls C hok hS hc hs hl
  have hR := C.2.2.2.2.2.2.2
  have hk10 : k < 10 := by omega
  have hcb : n * componentBytes (newarray.typeOf at_) ≤ 536870912 := by
    refine Nat.le_trans (Nat.mul_le_mul_left n ?_) hb
    rw [hty]
    match k, hk with
    | 0, _ => decide
    | 1, _ => decide
    | 2, _ => decide
    | 3, _ => decide
  refine va_newaK C.1.1 C.1.2.1 (by rw [hty]; exact C.1.2.2.2.2 _ hw) rfl hd rfl hx hn hcb (by omega) (by omega) rfl fun H1 cA e1 z1 o1 hAr hNm => ?_
  rw [hty] at e1 hNm
  have hRA := (mm_aK C.2.2.2.2.1 hk10).2
  have hcA : cA = G.2.1 k := by
    match k, hk, hNm, hRA with
    | 0, _, h1, h2 => exact Option.some.inj (h1.symm.trans h2)
    | 1, _, h1, h2 => exact Option.some.inj (h1.symm.trans h2)
    | 2, _, h1, h2 => exact Option.some.inj (h1.symm.trans h2)
    | 3, _, h1, h2 => exact Option.some.inj (h1.symm.trans h2)
  subst hcA
  rw [hok.2]
  exact kk (fun b t hb => ⟨(mm_sh_new hok (.inr (k, n)) hb).1, (mm_sh_new hok (.inr (k, n)) hb).2, mm_ok_lt hok hb⟩) p l e R s m args below meth c H1 locs _ _ ls C (mm_ok_new hok (.inr (k, n)) z1 o1 (mm_arn hk10 G s H1 _ (mm_grow C.2.2.2.2.2.2.1 hS rfl) e1)) (mm_S_new hS (by omega) o1) (by omega) (by omega) hl
theorem wa_anew {k n i : Nat} {CC : String} {x : Int32} (hd : decode J.2.1 pc = .ok (.anewarray i, 3)) (hk : k < 10) (hty : mm_el k = .object CC) (hw : Cond.classLink J.1.cls i CC ∈ gt_ws) (ho : Cond.arrayOver (.object CC) ∈ mm_nw) (hx : ¬ x < 0) (hn : x.toNatClampNeg = n) (hb : n * 4 ≤ 536870912) (kk : mm_ext M (.inr (k, n)) → wa_ fl G J d mc ms Q kc ks (mm_new M (.inr (k, n))) (pc + 3) lv (.ref (mm_z M) :: st)) : wa_ fl G J d mc ms Q (kc + 1) (ks + n) M pc lv (.int x :: st) := by
  intro p l e R s m args below meth c H locs cells slots ls C hok hS hc hs hl
  have hR := C.2.2.2.2.2.2.2
  subst hn
  refine W.anew C.1.1 C.1.2.1 C.1.2.2.2.1 (C.1.2.2.2.2 _ hw) (va_AO.use (C.2.2.2.2.1.2.1 _ ho)) rfl hd rfl hx hb (by omega) (by omega) fun cA kA comp f1 f2 f3 f4 => ?_
  have hRA := (mm_aK C.2.2.2.2.1 hk).2
  rw [hty] at hRA
  obtain ⟨-, -, -, -, -, hNm⟩ := hRA
  have hcA : cA = G.2.1 k := Option.some.inj (f1.symm.trans hNm)
  subst hcA
  generalize hH1 : H.push ({ cls := G.2.1 k, slots := Array.replicate x.toNatClampNeg .null, vm := .none } : Cell) = H1
  have z1 : H1.size = H.size + 1 := by rw [← hH1, Array.size_push]
  have e1 : H1[H.size]? = some (arrV (G.2.1 k) x.toNatClampNeg (fun _ => .null)) := by rw [← hH1, Array.getElem?_push_size, ← arrV_new]
  have o1 : ∀ q : Nat, q < H.size → H1[q]? = H[q]? := fun q hq => by rw [← hH1, Array.getElem?_push, if_neg (Nat.ne_of_lt hq)]
  rw [hok.2]
  exact kk (fun b t hb => ⟨(mm_sh_new hok (.inr (k, x.toNatClampNeg)) hb).1, (mm_sh_new hok (.inr (k, x.toNatClampNeg)) hb).2, mm_ok_lt hok hb⟩) p l e R s m args below meth c H1 locs _ _ ls C (mm_ok_new hok (.inr (k, x.toNatClampNeg)) z1 o1 (mm_arn hk G s H1 _ (mm_grow C.2.2.2.2.2.2.1 hS rfl) (by rw [hty]; exact e1))) (mm_S_new hS (by omega) o1) (by omega) (by omega) hl
/-! stores of references -/
theorem wa_aast {a k n ci v : Nat} {q : vw_C} {i : Int32} (hd : decode J.2.1 pc = .ok (.aastore, 1)) (hs : mm_sh M a = some (.inr (k, n))) (hk3 : 3 < k) (hk : k < 10) (hv : mm_sh M v = some (.inl ci)) (hq : mm_cl[ci]? = some q) (hty : mm_el k = .object q.1) (hin : vp_in i n) (kk : wa_ fl G J d mc ms Q kc ks (mm_sR M a i.toNatClampNeg (some v)) (pc + 1) lv st) : wa_ fl G J d mc ms Q kc ks M pc lv (.ref v :: .int i :: .ref a :: st) := by
  intro p l e R s m args below meth c H locs cells slots ls C hok hS hc hs' hl
  have hlt : i.toNatClampNeg < n := Nat.not_le.mp fun q => hin (Or.inr q)
  have h0 : ¬ i < 0 := fun q => hin (Or.inl q)
  obtain ⟨hge, hcell⟩ := mm_arr hok hs hk
  rw [mm_ar_r hk3] at hcell
  obtain ⟨-, cellV, g1, g2, g3, -⟩ := mm_obj hok hv hq
  have hcls := (C.2.2.2.2.1.1.1 ci q hq).2
  have hRA := (mm_aK C.2.2.2.2.1 hk).2
  rw [hty] at hRA
  obtain ⟨kA, comp, k1, k2, k3, -⟩ := hRA
  have hcomp : comp = G.1.1 ci := Option.some.inj (k3.symm.trans hcls.1)
  subst hcomp
  obtain ⟨kC, hkC, -⟩ := hcls.2
  refine W.aast C.1.1 C.1.2.1 hcell (fun q h => by cases h) (fun h => by cases h) k1 k2 rfl hkC ⟨h0, by show _ < (arrV _ _ _).slots.size; rw [arrV_size]; exact hlt⟩ g1 (fun q h => by rw [g3] at h; cases h) (by rw [g2]; exact hkC) (by rw [g2]; exact va_assign hcls) rfl rfl hd fun H1 e1 z oq => ?_
  refine kk p l e R s m args below meth c H1 _ cells slots ls C (mm_ok_put hok hs rfl rfl (fun b hb => mm_ne_sR b hb) z oq ?_) (mm_S_put hS z oq hge) hc hs' hl
  simp only [mm_at, hk, if_true]
  refine ⟨hge, ?_⟩
  rw [e1, mm_ar_r hk3, vp_cell_q, vp_cell_q, arrV_store]
  congr 2
  funext j
  by_cases hq : j = i.toNatClampNeg
  · subst hq
    simp [updV, mm_R, mm_sR, mm_u, va_rf]
  · simp [updV, mm_R, mm_sR, mm_u, hq]
/-! statics -/
theorem wa_gets {k i : Nat} {C n dd : String} {v : Value} (hd : decode J.2.1 pc = .ok (.getstatic i, 3)) (hz : mm_Zn[k]? = some (C, n, dd)) (hw : Cond.fieldLink J.1.cls i C n dd ∈ gt_ws) (hv : G.2.2.2.1 k = v) (kk : wa_ fl G J d mc ms Q kc ks M (pc + 3) lv (v :: st)) : wa_ fl G J d mc ms Q kc ks M pc lv st := by
  intro p l e R s m args below meth c H locs cells slots ls C hok hS hc hs' hl
  subst hv
  exact va_gets C.1.1 C.1.2.1 (C.2.2.2.2.2.1.1 k _ hz) hS C.1.2.2.2.1 (C.1.2.2.2.2 _ hw) (fun _ h => h) hd (kk p l e R s m args below meth c H locs cells slots ls C hok hS hc hs' hl)
theorem wa_getsN {k i : Nat} {C n dd host : String} {v : Value} (hd : decode J.2.1 pc = .ok (.getstatic i, 3)) (hz : mm_Zn[k]? = some (C, n, dd)) (hw : Cond.fieldLinkNest J.1.cls i C n dd host ∈ mm_nw) (hv : G.2.2.2.1 k = v) (kk : wa_ fl G J d mc ms Q kc ks M (pc + 3) lv (v :: st)) : wa_ fl G J d mc ms Q kc ks M pc lv st := by
  intro p l e R s m args below meth c H locs cells slots ls C hok hS hc hs' hl
  subst hv
  exact va_getsN C.1.1 C.1.2.1 (C.2.2.2.2.2.1.1 k _ hz) hS C.1.2.2.2.1 (va_Nw.use rfl (C.2.2.2.2.1.2.1 _ hw)) (fun _ h => h) hd (kk p l e R s m args below meth c H locs cells slots ls C hok hS hc hs' hl)
/-! calls -/
theorem mm_good {J2 : mm_J} (h : Cond.code J2.1 J2.2.1 J2.2.2.1 J2.2.2.2 ∈ gt_ws) : GoodIn gt_ws (mm_ws J2) := by
  intro w hw
  have hm : w ∈ gt_ws := by
    rcases List.mem_cons.mp hw with rfl | h1
    · exact h
    · exact h1
  exact ⟨hm, good_of_word (gt_good w hm)⟩
def lk_B (own : String) (i : Nat) (J2 : mm_J) (n : Nat) : Prop := Cond.methodLink own i J2.1 ∈ gt_ws ∧ Cond.code J2.1 J2.2.1 J2.2.2.1 J2.2.2.2 ∈ gt_ws ∧ Cond.initialized J2.1.cls ∈ gt_ws ∧ (J2.1.cls ≠ "java/lang/invoke/MethodHandle" ∧ J2.1.cls ≠ "java/lang/invoke/VarHandle" ∧ (parseMethodDescriptor J2.1.desc).map (fun d => d.parameters.length) = some n) ∧ J2.2.2.1 ≤ 61
def lk_V (own : String) (i : Nat) (J2 : mm_J) (n : Nat) : Prop := lk_B own i J2 n ∧ Cond.instanceMethod J2.1 ∈ gt_ws ∧ Cond.selects J2.1.cls J2.1 J2.1 ∈ gt_ws
def lk_S (own : String) (i : Nat) (J2 : mm_J) (n : Nat) : Prop := lk_B own i J2 n ∧ Cond.static J2.1 ∈ gt_ws
def lk_I (own : String) (i : Nat) (J2 : mm_J) (n : Nat) : Prop := lk_B own i J2 n ∧ J2.1.name = "<init>" ∧ Cond.instanceMethod J2.1 ∈ gt_ws
def mm_res (o : Option Value) (st : List Value) : List Value := match o with
  | some v => v :: st
  | none => st
theorem mm_res_eq (o : Option Value) (st : List Value) : o.toList ++ st = mm_res o st := by cases o <;> rfl
theorem mm_blind (G : mm_G) (M : mm_M) (av : List Value) : FrameBlind (va_Pc av (mm_pre G M)) := by
  intro a U g mk h
  obtain ⟨h1, h2, h3, h4, h5⟩ := h
  exact ⟨h1, mm_ok_moved (u := U) (U := U.calling g mk a) (Vm.Alike.refl U.vm) h2, mm_K_same (s := U) (U := U.calling g mk a) rfl h3, mm_Z_moved (u := U) (U := U.calling g mk a) (Vm.Alike.refl U.vm) h4, h5⟩
theorem mm_enter {p : Program} {R : Room} {s : State} {m : MethodId} {args : Array Value} {meth : Method} {c : Code} {H : Heap} {locs : List Loc} (C : wa_C G J d mc ms p R s m args meth c) (hok : mm_ok G M s H) (hS : va_S (mm_fr G) s.heap H locs) (av : List Value) : ∀ U : State, U.heap = H → s.WarmedH U.vm → va_Pc av (mm_pre G M) av.toArray U := by
  intro U hU hW
  refine ⟨rfl, by rw [hU]; exact mm_ok_moved hW.alike hok, mm_K_warm hW C.2.2.2.2.1, ?_, by rw [hU]; exact Nat.le_trans C.2.2.2.2.2.2.1 hS.1⟩
  rw [hU]
  exact mm_Z_moved hW.alike (mm_Z_kept C.2.2.2.2.2.1 hS.2.1)
theorem mm_call {p : Program} {l : Launch} {e : Env} {R : Room} {s : State} {m : MethodId} {args : Array Value} {below : List Frame} {meth : Method} {c : Code} {H : Heap} {locs : List Loc} {cells slots mc2 ms2 : Nat} {Qs : State → Prop} {ls : Array Slot} {st0 rest : List Value} {Q2 : Option Value → mm_M → Prop} {av : Array Value}
    (hr : va_Run p l e R s m args below meth c H locs cells slots mc2 ms2 (F0 m pc ls st0) rest (mm_post G Q2 av) (mm_fr G)) (hS : va_S (mm_fr G) s.heap H locs)
    (kk : ∀ (o : Option Value) (M' : mm_M) (H1 : Heap) (locs1 : List Loc), Q2 o M' → mm_ok G M' s H1 → va_S (mm_fr G) s.heap H1 locs1 → W p l e R s m args below meth c H1 locs1 (cells + mc2) (slots + ms2) Qs (F0 m (pc + 3) ls (mm_res o rest))) : W p l e R s m args below meth c H locs cells slots Qs (F0 m pc ls st0) := by
  intro T hT X
  obtain ⟨v, st₀, t, T', L, h0, X', hL, e1, e2, ⟨⟨o, M', hv, hq, hb⟩, hz, hk⟩, stp⟩ := hr T hT X
  cases hv
  rw [h0] at hz hk
  have hal : t.vm.Alike s.vm := by
    have h1 : s.vm.Alike T'.vm := X'.warmed.alike
    rw [e2] at h1
    exact h1.symm
  obtain ⟨t2, a1, b1⟩ := kk v M' T'.heap (locs ++ L) hq (by rw [e1]; exact mm_ok_moved hal hb)
    ⟨Nat.le_trans hS.1 (by rw [e1]; exact hz), fun q h1 h2 => by rw [e1, hk q (Nat.lt_of_lt_of_le h1 hS.1) h2]; exact hS.2.1 q h1 h2, fun q hq => by
      rcases List.mem_append.mp hq with h | h
      · exact hS.2.2 q h
      · exact hL q h⟩ T' rfl X'
  rw [← mm_res_eq] at a1
  exact ⟨t2, stp t2 a1, b1⟩
theorem mm_cat {m : MethodId} {pc : Nat} {ls : Array Slot} {st rest : List Value} (h : (rest.map fun v => v.category).sum ≤ 8) : 2 * (F0 m pc ls st).monitorRoom + (rest.map fun v => v.category).sum ≤ 8 := lv_room h
theorem wa_callV {J2 : mm_J} {d2 mc2 ms2 i n ci b : Nat} {As rest st0 : List Value} {q : vw_C} {kc' ks' : Nat} (hd : decode J.2.1 pc = .ok (.invokevirtual i, 3)) (hL : lk_V J.1.cls i J2 n) (hn : As.length = n) (hst : st0 = As.reverse ++ .ref b :: rest) (hs : mm_sh M b = some (.inl ci)) (hq : mm_cl[ci]? = some q) (hcls : q.1 = J2.1.cls) (hcat : (rest.map fun v => v.category).sum ≤ 8) (h1 : mc2 + kc' ≤ kc) (h2 : ms2 + ks' ≤ ks)
    (hM : ma_ G J2 d2 mc2 ms2 (.ref b :: As) M (fun o M' => wa_ fl G J (d2 + 1) mc ms Q kc' ks' M' (pc + 3) lv (mm_res o rest))) : wa_ fl G J (d2 + 1) mc ms Q kc ks M pc lv st0 := by
  intro p l e R s m args below meth c H locs cells slots ls C hok hS hc hs' hl
  obtain ⟨⟨w1, w2, w3, w4, w5⟩, w6, w7⟩ := hL
  have hR := C.2.2.2.2.2.2.2
  have hts := C.1.2.2.2.2
  obtain ⟨-, cell, g1, g2, g3, -⟩ := mm_obj hok hs hq
  have hcl := (C.2.2.2.2.1.1.1 ci q hq).2.1
  have hcb : CallB R s args J.1.cls i J2.1 J2.2.1 J2.2.2.1 J2.2.2.2 (mm_ws J2) (mm_rm d2 mc2 ms2) mc2 ms2 n := callB_of (Ts := gt_ws) n hts (mm_good w2) rfl rfl rfl (hts _ w3) (hts _ w1) w4 ⟨by show d2 + 1 ≤ _; omega, by show 8 + (J2.2.2.1 + 11) + 80 * d2 ≤ _; omega⟩
  refine mm_call (va_runV (C := J2.1.cls) (As := As) (rest := rest) (b := b) C.1 (hM l) ⟨hcb, hts _ w6, hts _ w7⟩ ⟨mm_blind G M _, ⟨cell, g1, by rw [g3]; rfl, by rw [g2, ← hcls]; exact hcl⟩, mm_enter C hok hS (.ref b :: As)⟩ rfl hn hl.1 hst (mm_cat hcat) hd ⟨by omega, by omega⟩) hS ?_
  intro o M' H1 locs1 hQ hok1 hS1
  exact hQ p l e R s m args below meth c H1 locs1 _ _ ls C hok1 hS1 (by omega) (by omega) hl
theorem wa_callS {J2 : mm_J} {d2 mc2 ms2 i n : Nat} {As rest st0 : List Value} {kc' ks' : Nat} (hd : decode J.2.1 pc = .ok (.invokestatic i, 3)) (hL : lk_S J.1.cls i J2 n) (hn : As.length = n) (hst : st0 = As.reverse ++ rest) (hcat : (rest.map fun v => v.category).sum ≤ 8) (h1 : mc2 + kc' ≤ kc) (h2 : ms2 + ks' ≤ ks)
    (hM : ma_ G J2 d2 mc2 ms2 As M (fun o M' => wa_ fl G J (d2 + 1) mc ms Q kc' ks' M' (pc + 3) lv (mm_res o rest))) : wa_ fl G J (d2 + 1) mc ms Q kc ks M pc lv st0 := by
  intro p l e R s m args below meth c H locs cells slots ls C hok hS hc hs' hl
  obtain ⟨⟨w1, w2, w3, w4, w5⟩, w6⟩ := hL
  have hR := C.2.2.2.2.2.2.2
  have hts := C.1.2.2.2.2
  have hcb : CallB R s args J.1.cls i J2.1 J2.2.1 J2.2.2.1 J2.2.2.2 (mm_ws J2) (mm_rm d2 mc2 ms2) mc2 ms2 n := callB_of (Ts := gt_ws) n hts (mm_good w2) rfl rfl rfl (hts _ w3) (hts _ w1) w4 ⟨by show d2 + 1 ≤ _; omega, by show 8 + (J2.2.2.1 + 11) + 80 * d2 ≤ _; omega⟩
  refine mm_call (va_runS (As := As) (rest := rest) C.1 (hM l) ⟨hcb, hts _ w6⟩ ⟨mm_blind G M _, mm_enter C hok hS As⟩ rfl hn hl.1 hst (mm_cat hcat) hd ⟨by omega, by omega⟩) hS ?_
  intro o M' H1 locs1 hQ hok1 hS1
  exact hQ p l e R s m args below meth c H1 locs1 _ _ ls C hok1 hS1 (by omega) (by omega) hl
theorem wa_callI {J2 : mm_J} {d2 mc2 ms2 i n b : Nat} {As rest st0 : List Value} {kc' ks' : Nat} (hd : decode J.2.1 pc = .ok (.invokespecial i, 3)) (hL : lk_I J.1.cls i J2 n) (hret : J2.2.2.2 = none) (hn : As.length = n) (hst : st0 = As.reverse ++ .ref b :: rest) (hcat : (rest.map fun v => v.category).sum ≤ 8) (h1 : mc2 + kc' ≤ kc) (h2 : ms2 + ks' ≤ ks)
    (hM : ma_ G J2 d2 mc2 ms2 (.ref b :: As) M (fun o M' => wa_ fl G J (d2 + 1) mc ms Q kc' ks' M' (pc + 3) lv (mm_res o rest))) : wa_ fl G J (d2 + 1) mc ms Q kc ks M pc lv st0 := by
  intro p l e R s m args below meth c H locs cells slots ls C hok hS hc hs' hl
  obtain ⟨⟨w1, w2, w3, w4, w5⟩, w6, w7⟩ := hL
  have hR := C.2.2.2.2.2.2.2
  have hts := C.1.2.2.2.2
  have hcb : CallB R s args J.1.cls i J2.1 J2.2.1 J2.2.2.1 none (mm_ws J2) (mm_rm d2 mc2 ms2) mc2 ms2 n := by
    rw [← hret]
    exact callB_of (Ts := gt_ws) n hts (mm_good w2) rfl rfl rfl (hts _ w3) (hts _ w1) w4 ⟨by show d2 + 1 ≤ _; omega, by show 8 + (J2.2.2.1 + 11) + 80 * d2 ≤ _; omega⟩
  refine mm_call (va_runI (As := As) (rest := rest) (b := b) C.1 (hM l) ⟨hcb, w6, hts _ w7⟩ ⟨mm_blind G M _, mm_enter C hok hS (.ref b :: As)⟩ rfl hn hl.1 hst (mm_cat hcat) hd ⟨by omega, by omega⟩) hS ?_
  intro o M' H1 locs1 hQ hok1 hS1
  exact hQ p l e R s m args below meth c H1 locs1 _ _ ls C hok1 hS1 (by omega) (by omega) hl
/-- the call of Object's own constructor -/
theorem wa_obj {i a : Nat} (hd : decode J.2.1 pc = .ok (.invokespecial i, 3)) (hw : Cond.methodLink J.1.cls i objectInit ∈ gt_ws) (hw2 : Cond.instanceMethod objectInit ∈ gt_ws) (hw3 : Cond.code objectInit ⟨#[0xb1]⟩ 1 none ∈ gt_ws) (hcat : (st.map fun v => v.category).sum ≤ 8) (kk : wa_ fl G J (d + 1) mc ms Q kc ks M (pc + 3) lv st) : wa_ fl G J (d + 1) mc ms Q kc ks M pc lv (.ref a :: st) := by
  intro p l e R s m args below meth c H locs cells slots ls C hok hS hc hs' hl
  have hR := C.2.2.2.2.2.2.2
  have hts := C.1.2.2.2.2
  refine W.objInit C.1.1 C.1.2.1 C.1.2.2.2.1 (hts _ hw) (hts _ hw2) (hts _ hw3) rfl (by rw [C.1.2.2.1]; exact hl.1) rfl hd (by omega) ?_ (kk p l e R s m args below meth c H locs cells slots ls C hok hS hc hs' hl)
  have := mm_cat (m := m) (pc := pc) (ls := ls) (st := .ref a :: st) hcat
  omega
end ROWS3
