section ROWS4
variable {fl : Nat} {G : mm_G} {J : mm_J} {d mc ms kc ks : Nat} {Q : Option Value → mm_M → Prop} {M : mm_M} {pc : Nat} {lv : List (Option Value)} {st : List Value}
/-! arrays at a place that is a number -/
theorem mm_cl31 {j n : Nat} (h : j < n) (hn : n < 2 ^ 31) : (nI j).toNatClampNeg = j := nI_clamp (Nat.lt_trans h hn)
theorem wa_ialdN {a k n j : Nat} (hd : decode J.2.1 pc = .ok (.iaload, 1)) (hs : mm_sh M a = some (.inr (k, n))) (hk : k = 0 ∨ k = 10) (hj : j < n) (hn : n < 2 ^ 31) (kk : wa_ fl G J d mc ms Q kc ks M (pc + 1) lv (.int (mm_I M a j) :: st)) : wa_ fl G J d mc ms Q kc ks M pc lv (.int (nI j) :: .ref a :: st) :=
  wa_iald hd hs hk (vp_in_nI hj hn) (by rw [mm_cl31 hj hn]; exact kk)
theorem wa_baldN {a k n j : Nat} (hd : decode J.2.1 pc = .ok (.baload, 1)) (hs : mm_sh M a = some (.inr (k, n))) (hk : k = 1 ∨ k = 2) (hj : j < n) (hn : n < 2 ^ 31) (kk : wa_ fl G J d mc ms Q kc ks M (pc + 1) lv (.int (mm_I M a j) :: st)) : wa_ fl G J d mc ms Q kc ks M pc lv (.int (nI j) :: .ref a :: st) :=
  wa_bald hd hs hk (vp_in_nI hj hn) (by rw [mm_cl31 hj hn]; exact kk)
theorem wa_laldN {a n j : Nat} (hd : decode J.2.1 pc = .ok (.laload, 1)) (hs : mm_sh M a = some (.inr (3, n))) (hj : j < n) (hn : n < 2 ^ 31) (kk : wa_ fl G J d mc ms Q kc ks M (pc + 1) lv (.long (mm_L M a j) :: st)) : wa_ fl G J d mc ms Q kc ks M pc lv (.int (nI j) :: .ref a :: st) :=
  wa_lald hd hs (vp_in_nI hj hn) (by rw [mm_cl31 hj hn]; exact kk)
theorem wa_aaldN {a k n j : Nat} {v : Value} (hd : decode J.2.1 pc = .ok (.aaload, 1)) (hs : mm_sh M a = some (.inr (k, n))) (hk3 : 3 < k) (hk : k < 10) (hj : j < n) (hn : n < 2 ^ 31) (hv : va_rf (mm_R M a j) = v) (kk : wa_ fl G J d mc ms Q kc ks M (pc + 1) lv (v :: st)) : wa_ fl G J d mc ms Q kc ks M pc lv (.int (nI j) :: .ref a :: st) :=
  wa_aald hd hs hk3 hk (vp_in_nI hj hn) (by rw [mm_cl31 hj hn]; exact hv) kk
theorem wa_iastN {a n j : Nat} {x : Int32} (hd : decode J.2.1 pc = .ok (.iastore, 1)) (hs : mm_sh M a = some (.inr (0, n))) (hj : j < n) (hn : n < 2 ^ 31) (kk : wa_ fl G J d mc ms Q kc ks (mm_sI M a j x) (pc + 1) lv st) : wa_ fl G J d mc ms Q kc ks M pc lv (.int x :: .int (nI j) :: .ref a :: st) :=
  wa_iast hd hs (vp_in_nI hj hn) (by rw [mm_cl31 hj hn]; exact kk)
theorem wa_bastN {a n j : Nat} {x : Int32} (hd : decode J.2.1 pc = .ok (.bastore, 1)) (hs : mm_sh M a = some (.inr (1, n))) (hj : j < n) (hn : n < 2 ^ 31) (kk : wa_ fl G J d mc ms Q kc ks (mm_sI M a j (vp_nar .byte x)) (pc + 1) lv st) : wa_ fl G J d mc ms Q kc ks M pc lv (.int x :: .int (nI j) :: .ref a :: st) :=
  wa_bast hd hs (vp_in_nI hj hn) (by rw [mm_cl31 hj hn]; exact kk)
theorem wa_zastN {a n j : Nat} {x : Int32} (hd : decode J.2.1 pc = .ok (.bastore, 1)) (hs : mm_sh M a = some (.inr (2, n))) (hj : j < n) (hn : n < 2 ^ 31) (hx : narrow .boolean (.int x) = .int x) (kk : wa_ fl G J d mc ms Q kc ks (mm_sI M a j x) (pc + 1) lv st) : wa_ fl G J d mc ms Q kc ks M pc lv (.int x :: .int (nI j) :: .ref a :: st) :=
  wa_zast hd hs (vp_in_nI hj hn) hx (by rw [mm_cl31 hj hn]; exact kk)
theorem wa_lastN {a n j : Nat} {x : Int64} (hd : decode J.2.1 pc = .ok (.lastore, 1)) (hs : mm_sh M a = some (.inr (3, n))) (hj : j < n) (hn : n < 2 ^ 31) (kk : wa_ fl G J d mc ms Q kc ks (mm_sL M a j x) (pc + 1) lv st) : wa_ fl G J d mc ms Q kc ks M pc lv (.long x :: .int (nI j) :: .ref a :: st) :=
  wa_last hd hs (vp_in_nI hj hn) (by rw [mm_cl31 hj hn]; exact kk)
theorem wa_aastN {a k n ci v j : Nat} {q : vw_C} (hd : decode J.2.1 pc = .ok (.aastore, 1)) (hs : mm_sh M a = some (.inr (k, n))) (hk3 : 3 < k) (hk : k < 10) (hv : mm_sh M v = some (.inl ci)) (hq : mm_cl[ci]? = some q) (hty : mm_el k = .object q.1) (hj : j < n) (hn : n < 2 ^ 31) (kk : wa_ fl G J d mc ms Q kc ks (mm_sR M a j (some v)) (pc + 1) lv st) : wa_ fl G J d mc ms Q kc ks M pc lv (.ref v :: .int (nI j) :: .ref a :: st) :=
  wa_aast hd hs hk3 hk hv hq hty (vp_in_nI hj hn) (by rw [mm_cl31 hj hn]; exact kk)
/-- a field that a nest mate keeps to itself -/
theorem wa_getIN {a ci k i : Nat} {q : vw_C} {host : String} (hd : decode J.2.1 pc = .ok (.getfield i, 3)) (hq : mm_cl[ci]? = some q) (hk : k < q.2.2) (hw : Cond.fieldLinkNest J.1.cls i (q.2.1 k).1 (q.2.1 k).2.1 (q.2.1 k).2.2.1 host ∈ mm_nw) (hs : mm_sh M a = some (.inl ci)) (hty : mm_ty ci k = .int) (kk : wa_ fl G J d mc ms Q kc ks M (pc + 3) lv (.int (mm_I M a k) :: st)) : wa_ fl G J d mc ms Q kc ks M pc lv (.ref a :: st) := by
  intro p l e R s m args below meth c H locs cells slots ls C hok hS hc hs' hl
  obtain ⟨-, cell, q1, q2, q3, q4⟩ := mm_obj hok hs hq
  obtain ⟨hSl, hfc, kC, hkC, hkind⟩ := C.2.2.2.2.1.1.1 ci _ hq
  obtain ⟨cf, kf, fi, f, hi, hsl⟩ := hSl k hk
  refine va_Wgetf C.1.1 C.1.2.1 C.1.2.2.2.1 (va_Nw.use rfl (C.2.2.2.2.1.2.1 _ hw)) hi (u_facts hfc hkC (u_lays C.1.2.2.2.2 (mm_in ci q hq) hk) hi).1 q1 (by rw [q3]; exact fun h => by cases h) (v := .int (mm_I M a k)) ?_ rfl rfl hd (kk p l e R s m args below meth c H locs cells slots ls C hok hS hc hs' hl)
  rw [hsl, q4 k hk]
  show some (mm_fv (mm_I M a) (mm_L M a) (mm_R M a) k (mm_ty ci k)) = _
  rw [hty]
  rfl
theorem wa_putN {a ci k i : Nat} {q : vw_C} {v : Value} {host : String} (hd : decode J.2.1 pc = .ok (.putfield i, 3)) (hq : mm_cl[ci]? = some q) (hk : k < q.2.2) (hw : Cond.fieldLinkNest J.1.cls i (q.2.1 k).1 (q.2.1 k).2.1 (q.2.1 k).2.2.1 host ∈ mm_nw) (hf : (q.2.1 k).2.2.2 = false) (hs : mm_sh M a = some (.inl ci)) (hkd : mm_kd (mm_ty ci k) v = true) (kk : wa_ fl G J d mc ms Q kc ks (mm_put M a k v) (pc + 3) lv st) : wa_ fl G J d mc ms Q kc ks M pc lv (v :: .ref a :: st) := by
  intro p l e R s m args below meth c H locs cells slots ls C hok hS hc hs' hl
  have hap := va_apart (own := J.1.cls) C.1.2.2.2.2 (mm_in ci q hq) (mm_ty ci) (mm_tyok ci q hq) (mm_nm ci q hq) C.2.2.2.2.1.1 hq
  obtain ⟨hge, cell, q1, q2, q3, q4⟩ := mm_obj hok hs hq
  obtain ⟨hSl, hfc, kC, hkC, hkind⟩ := C.2.2.2.2.1.1.1 ci _ hq
  obtain ⟨cf, kf, fi, f, hi, hsl⟩ := hSl k hk
  have hlay := C.1.2.2.2.2 _ (mm_in ci q hq _ (u_in_lay hk))
  unfold u_lay at hlay
  rw [if_neg (by rw [hf]; decide)] at hlay
  have hst := (u_facts hfc hkC (u_lays C.1.2.2.2.2 (mm_in ci q hq) hk) hi).1
  obtain ⟨hn1, hn2⟩ := mm_kd_n hkd
  have h6 := u_store hfc hkC hkind hlay hi (mm_tyok ci q hq k hk) hn1 hn2
  refine va_WputK C.1.1 C.1.2.1 (f := f) C.1.2.2.2.1 (va_Nw.use rfl (C.2.2.2.2.1.2.1 _ hw)) hi hst (by rw [q2]; exact h6) q1 q3 (by rw [hsl]; exact k2_hasslot (q4 k hk)) rfl rfl hd fun H' e1 e2 e3 => ?_
  rw [hsl] at e1 ⊢
  refine kk p l e R s m args below meth c H' _ cells slots ls C (mm_ok_put hok hs (mm_put_sh M a k v) (mm_put_z M a k v) (mm_put_ne M a k v) e2 e3 ?_) (mm_S_put hS e2 e3 hge) hc hs' hl
  exact ⟨hge, q, hq, t_OB.to (V := updV (fun k => mm_fv (mm_I M a) (mm_L M a) (mm_R M a) k (mm_ty ci k)) k v) ⟨_, e1, q2, q3, t_set q4 hap hk v⟩ (fun j _ => mm_put_fv M a k v (mm_ty ci) hkd j)⟩
/-- calls of what a nest mate keeps to itself -/
def lk_N (own : String) (i : Nat) (J2 : mm_J) (n : Nat) (host : String) : Prop := Cond.methodLinkNest own i J2.1 host ∈ mm_nw ∧ Cond.code J2.1 J2.2.1 J2.2.2.1 J2.2.2.2 ∈ gt_ws ∧ Cond.initialized J2.1.cls ∈ gt_ws ∧ (J2.1.cls ≠ "java/lang/invoke/MethodHandle" ∧ J2.1.cls ≠ "java/lang/invoke/VarHandle" ∧ (parseMethodDescriptor J2.1.desc).map (fun d => d.parameters.length) = some n) ∧ J2.2.2.1 ≤ 61
theorem wa_callSN {J2 : mm_J} {d2 mc2 ms2 i n : Nat} {As rest st0 : List Value} {kc' ks' : Nat} {host : String} (hd : decode J.2.1 pc = .ok (.invokestatic i, 3)) (hL : lk_N J.1.cls i J2 n host) (hw : Cond.static J2.1 ∈ gt_ws) (hn : As.length = n) (hst : st0 = As.reverse ++ rest) (hcat : (rest.map fun v => v.category).sum ≤ 8) (h1 : mc2 + kc' ≤ kc) (h2 : ms2 + ks' ≤ ks)
    (hM : ma_ G J2 d2 mc2 ms2 As M (fun o M' => wa_ fl G J (d2 + 1) mc ms Q kc' ks' M' (pc + 3) lv (mm_res o rest))) : wa_ fl G J (d2 + 1) mc ms Q kc ks M pc lv st0 := by
  intro p l e R s m args below meth c H locs cells slots ls C hok hS hc hs' hl
  obtain ⟨w1, w2, w3, w4, w5⟩ := hL
  have hR := C.2.2.2.2.2.2.2
  have hts := C.1.2.2.2.2
  have hcb : va_CN R s args J.1.cls i J2.1 host J2.2.1 J2.2.2.1 J2.2.2.2 (mm_ws J2) (mm_rm d2 mc2 ms2) mc2 ms2 n := va_cnB (Ts := gt_ws) n hts (mm_good w2) rfl rfl rfl (C.2.2.2.2.1.2.1 _ w1) (hts _ w3) w4 ⟨by show d2 + 1 ≤ _; omega, by show 8 + (J2.2.2.1 + 11) + 80 * d2 ≤ _; omega⟩
  refine mm_call (va_runSN (As := As) (rest := rest) C.1 (hM l) ⟨hcb, hts _ hw, trivial⟩ ⟨mm_blind G M _, mm_enter C hok hS As⟩ rfl hn hl.1 hst (mm_cat hcat) hd ⟨by omega, by omega⟩) hS ?_
  intro o M' H1 locs1 hQ hok1 hS1
  exact hQ p l e R s m args below meth c H1 locs1 _ _ ls C hok1 hS1 (by omega) (by omega) hl
theorem wa_callIN {J2 : mm_J} {d2 mc2 ms2 i n b : Nat} {As rest st0 : List Value} {kc' ks' : Nat} {host : String} (hd : decode J.2.1 pc = .ok (.invokespecial i, 3)) (hL : lk_N J.1.cls i J2 n host) (hw : J2.1.name = "<init>") (hw2 : Cond.instanceMethod J2.1 ∈ gt_ws) (hret : J2.2.2.2 = none) (hn : As.length = n) (hst : st0 = As.reverse ++ .ref b :: rest) (hcat : (rest.map fun v => v.category).sum ≤ 8) (h1 : mc2 + kc' ≤ kc) (h2 : ms2 + ks' ≤ ks)
    (hM : ma_ G J2 d2 mc2 ms2 (.ref b :: As) M (fun o M' => wa_ fl G J (d2 + 1) mc ms Q kc' ks' M' (pc + 3) lv (mm_res o rest))) : wa_ fl G J (d2 + 1) mc ms Q kc ks M pc lv st0 := by
  intro p l e R s m args below meth c H locs cells slots ls C hok hS hc hs' hl
  obtain ⟨w1, w2, w3, w4, w5⟩ := hL
  have hR := C.2.2.2.2.2.2.2
  have hts := C.1.2.2.2.2
  have hcb : va_CN R s args J.1.cls i J2.1 host J2.2.1 J2.2.2.1 none (mm_ws J2) (mm_rm d2 mc2 ms2) mc2 ms2 n := by
    rw [← hret]
    exact va_cnB (Ts := gt_ws) n hts (mm_good w2) rfl rfl rfl (C.2.2.2.2.1.2.1 _ w1) (hts _ w3) w4 ⟨by show d2 + 1 ≤ _; omega, by show 8 + (J2.2.2.1 + 11) + 80 * d2 ≤ _; omega⟩
  refine mm_call (va_runIN (As := As) (rest := rest) (b := b) C.1 (hM l) ⟨hcb, hw, hts _ hw2⟩ ⟨mm_blind G M _, mm_enter C hok hS (.ref b :: As)⟩ rfl hn hl.1 hst (mm_cat hcat) hd ⟨by omega, by omega⟩) hS ?_
  intro o M' H1 locs1 hQ hok1 hS1
  exact hQ p l e R s m args below meth c H1 locs1 _ _ ls C hok1 hS1 (by omega) (by omega) hl
end ROWS4
theorem lk_X3_66 : lk_N RX3 66 jX10_accountsBelow 1 "ConsulDesk" := ⟨by decide, wd_X10_accountsBelow, wn_X10, by decide +kernel, by decide⟩
theorem lk_X10_29 : lk_N RX10 29 jX5_init 0 "ConsulDesk" := ⟨by decide, wd_X5_init, wn_X5, by decide +kernel, by decide⟩
theorem lk_X10_36 : lk_N RX10 36 jX9_init 0 "ConsulDesk" := ⟨by decide, wd_X9_init, wn_X9, by decide +kernel, by decide⟩
theorem lk_X10_52 : lk_N RX10 52 jX0_init 0 "ConsulDesk" := ⟨by decide, wd_X0_init, wn_X0, by decide +kernel, by decide⟩
/-! the reference's cells: it lies at y, what it holds behind it -/
def md_tab : List (Nat × Nat × mm_S) := [(4, 1, .inl 11), (5, 2, .inr (1, 300)), (15, 3, .inr (0, 30)), (16, 4, .inr (0, 31)), (17, 5, .inr (0, 372)), (18, 6, .inr (0, 372)), (19, 7, .inr (0, 372)), (20, 8, .inr (0, 1488)), (21, 9, .inr (0, 1488)), (22, 10, .inr (0, 1488)), (23, 11, .inr (0, 1488)), (24, 12, .inr (0, 1488)), (25, 13, .inr (0, 1488)), (28, 14, .inr (0, 8)), (29, 15, .inr (0, 8)), (30, 16, .inr (0, 8)), (31, 17, .inr (0, 8)), (32, 18, .inr (0, 8)), (33, 19, .inr (0, 40)), (34, 20, .inr (0, 240)), (35, 21, .inr (0, 240)), (36, 22, .inr (0, 240)), (37, 23, .inr (2, 240)), (39, 24, .inr (0, 200)), (40, 25, .inr (0, 200)), (41, 26, .inr (0, 200)), (42, 27, .inr (0, 200)), (43, 28, .inr (0, 200)), (44, 29, .inr (0, 200)), (45, 30, .inr (0, 200)), (46, 31, .inr (0, 200)), (47, 32, .inr (0, 1000)), (48, 33, .inr (3, 5001)), (49, 34, .inr (0, 5))]
def mdl_ (M : mm_M) (y : Nat) : Prop := mm_sh M y = some (.inl 12) ∧ ∀ q ∈ md_tab, mm_R M y q.1 = some (y + q.2.1) ∧ mm_sh M (y + q.2.1) = some q.2.2
theorem md_r4 {M : mm_M} {y : Nat} (h : mdl_ M y) : va_rf (mm_R M y 4) = .ref (y + 1) := by rw [(h.2 (4, 1, .inl 11) (List.mem_of_getElem? (i := 0) rfl)).1]; rfl
theorem md_s4 {M : mm_M} {y : Nat} (h : mdl_ M y) : mm_sh M (y + 1) = some (.inl 11) := (h.2 (4, 1, .inl 11) (List.mem_of_getElem? (i := 0) rfl)).2
theorem md_r5 {M : mm_M} {y : Nat} (h : mdl_ M y) : va_rf (mm_R M y 5) = .ref (y + 2) := by rw [(h.2 (5, 2, .inr (1, 300)) (List.mem_of_getElem? (i := 1) rfl)).1]; rfl
theorem md_s5 {M : mm_M} {y : Nat} (h : mdl_ M y) : mm_sh M (y + 2) = some (.inr (1, 300)) := (h.2 (5, 2, .inr (1, 300)) (List.mem_of_getElem? (i := 1) rfl)).2
theorem md_r15 {M : mm_M} {y : Nat} (h : mdl_ M y) : va_rf (mm_R M y 15) = .ref (y + 3) := by rw [(h.2 (15, 3, .inr (0, 30)) (List.mem_of_getElem? (i := 2) rfl)).1]; rfl
theorem md_s15 {M : mm_M} {y : Nat} (h : mdl_ M y) : mm_sh M (y + 3) = some (.inr (0, 30)) := (h.2 (15, 3, .inr (0, 30)) (List.mem_of_getElem? (i := 2) rfl)).2
theorem md_r16 {M : mm_M} {y : Nat} (h : mdl_ M y) : va_rf (mm_R M y 16) = .ref (y + 4) := by rw [(h.2 (16, 4, .inr (0, 31)) (List.mem_of_getElem? (i := 3) rfl)).1]; rfl
theorem md_s16 {M : mm_M} {y : Nat} (h : mdl_ M y) : mm_sh M (y + 4) = some (.inr (0, 31)) := (h.2 (16, 4, .inr (0, 31)) (List.mem_of_getElem? (i := 3) rfl)).2
theorem md_r17 {M : mm_M} {y : Nat} (h : mdl_ M y) : va_rf (mm_R M y 17) = .ref (y + 5) := by rw [(h.2 (17, 5, .inr (0, 372)) (List.mem_of_getElem? (i := 4) rfl)).1]; rfl
theorem md_s17 {M : mm_M} {y : Nat} (h : mdl_ M y) : mm_sh M (y + 5) = some (.inr (0, 372)) := (h.2 (17, 5, .inr (0, 372)) (List.mem_of_getElem? (i := 4) rfl)).2
theorem md_r18 {M : mm_M} {y : Nat} (h : mdl_ M y) : va_rf (mm_R M y 18) = .ref (y + 6) := by rw [(h.2 (18, 6, .inr (0, 372)) (List.mem_of_getElem? (i := 5) rfl)).1]; rfl
theorem md_s18 {M : mm_M} {y : Nat} (h : mdl_ M y) : mm_sh M (y + 6) = some (.inr (0, 372)) := (h.2 (18, 6, .inr (0, 372)) (List.mem_of_getElem? (i := 5) rfl)).2
theorem md_r19 {M : mm_M} {y : Nat} (h : mdl_ M y) : va_rf (mm_R M y 19) = .ref (y + 7) := by rw [(h.2 (19, 7, .inr (0, 372)) (List.mem_of_getElem? (i := 6) rfl)).1]; rfl
theorem md_s19 {M : mm_M} {y : Nat} (h : mdl_ M y) : mm_sh M (y + 7) = some (.inr (0, 372)) := (h.2 (19, 7, .inr (0, 372)) (List.mem_of_getElem? (i := 6) rfl)).2
theorem md_r20 {M : mm_M} {y : Nat} (h : mdl_ M y) : va_rf (mm_R M y 20) = .ref (y + 8) := by rw [(h.2 (20, 8, .inr (0, 1488)) (List.mem_of_getElem? (i := 7) rfl)).1]; rfl
theorem md_s20 {M : mm_M} {y : Nat} (h : mdl_ M y) : mm_sh M (y + 8) = some (.inr (0, 1488)) := (h.2 (20, 8, .inr (0, 1488)) (List.mem_of_getElem? (i := 7) rfl)).2
theorem md_r21 {M : mm_M} {y : Nat} (h : mdl_ M y) : va_rf (mm_R M y 21) = .ref (y + 9) := by rw [(h.2 (21, 9, .inr (0, 1488)) (List.mem_of_getElem? (i := 8) rfl)).1]; rfl
theorem md_s21 {M : mm_M} {y : Nat} (h : mdl_ M y) : mm_sh M (y + 9) = some (.inr (0, 1488)) := (h.2 (21, 9, .inr (0, 1488)) (List.mem_of_getElem? (i := 8) rfl)).2
theorem md_r22 {M : mm_M} {y : Nat} (h : mdl_ M y) : va_rf (mm_R M y 22) = .ref (y + 10) := by rw [(h.2 (22, 10, .inr (0, 1488)) (List.mem_of_getElem? (i := 9) rfl)).1]; rfl
theorem md_s22 {M : mm_M} {y : Nat} (h : mdl_ M y) : mm_sh M (y + 10) = some (.inr (0, 1488)) := (h.2 (22, 10, .inr (0, 1488)) (List.mem_of_getElem? (i := 9) rfl)).2
theorem md_r23 {M : mm_M} {y : Nat} (h : mdl_ M y) : va_rf (mm_R M y 23) = .ref (y + 11) := by rw [(h.2 (23, 11, .inr (0, 1488)) (List.mem_of_getElem? (i := 10) rfl)).1]; rfl
theorem md_s23 {M : mm_M} {y : Nat} (h : mdl_ M y) : mm_sh M (y + 11) = some (.inr (0, 1488)) := (h.2 (23, 11, .inr (0, 1488)) (List.mem_of_getElem? (i := 10) rfl)).2
theorem md_r24 {M : mm_M} {y : Nat} (h : mdl_ M y) : va_rf (mm_R M y 24) = .ref (y + 12) := by rw [(h.2 (24, 12, .inr (0, 1488)) (List.mem_of_getElem? (i := 11) rfl)).1]; rfl
theorem md_s24 {M : mm_M} {y : Nat} (h : mdl_ M y) : mm_sh M (y + 12) = some (.inr (0, 1488)) := (h.2 (24, 12, .inr (0, 1488)) (List.mem_of_getElem? (i := 11) rfl)).2
theorem md_r25 {M : mm_M} {y : Nat} (h : mdl_ M y) : va_rf (mm_R M y 25) = .ref (y + 13) := by rw [(h.2 (25, 13, .inr (0, 1488)) (List.mem_of_getElem? (i := 12) rfl)).1]; rfl
theorem md_s25 {M : mm_M} {y : Nat} (h : mdl_ M y) : mm_sh M (y + 13) = some (.inr (0, 1488)) := (h.2 (25, 13, .inr (0, 1488)) (List.mem_of_getElem? (i := 12) rfl)).2
theorem md_r28 {M : mm_M} {y : Nat} (h : mdl_ M y) : va_rf (mm_R M y 28) = .ref (y + 14) := by rw [(h.2 (28, 14, .inr (0, 8)) (List.mem_of_getElem? (i := 13) rfl)).1]; rfl
theorem md_s28 {M : mm_M} {y : Nat} (h : mdl_ M y) : mm_sh M (y + 14) = some (.inr (0, 8)) := (h.2 (28, 14, .inr (0, 8)) (List.mem_of_getElem? (i := 13) rfl)).2
theorem md_r29 {M : mm_M} {y : Nat} (h : mdl_ M y) : va_rf (mm_R M y 29) = .ref (y + 15) := by rw [(h.2 (29, 15, .inr (0, 8)) (List.mem_of_getElem? (i := 14) rfl)).1]; rfl
theorem md_s29 {M : mm_M} {y : Nat} (h : mdl_ M y) : mm_sh M (y + 15) = some (.inr (0, 8)) := (h.2 (29, 15, .inr (0, 8)) (List.mem_of_getElem? (i := 14) rfl)).2
theorem md_r30 {M : mm_M} {y : Nat} (h : mdl_ M y) : va_rf (mm_R M y 30) = .ref (y + 16) := by rw [(h.2 (30, 16, .inr (0, 8)) (List.mem_of_getElem? (i := 15) rfl)).1]; rfl
theorem md_s30 {M : mm_M} {y : Nat} (h : mdl_ M y) : mm_sh M (y + 16) = some (.inr (0, 8)) := (h.2 (30, 16, .inr (0, 8)) (List.mem_of_getElem? (i := 15) rfl)).2
theorem md_r31 {M : mm_M} {y : Nat} (h : mdl_ M y) : va_rf (mm_R M y 31) = .ref (y + 17) := by rw [(h.2 (31, 17, .inr (0, 8)) (List.mem_of_getElem? (i := 16) rfl)).1]; rfl
theorem md_s31 {M : mm_M} {y : Nat} (h : mdl_ M y) : mm_sh M (y + 17) = some (.inr (0, 8)) := (h.2 (31, 17, .inr (0, 8)) (List.mem_of_getElem? (i := 16) rfl)).2
theorem md_r32 {M : mm_M} {y : Nat} (h : mdl_ M y) : va_rf (mm_R M y 32) = .ref (y + 18) := by rw [(h.2 (32, 18, .inr (0, 8)) (List.mem_of_getElem? (i := 17) rfl)).1]; rfl
theorem md_s32 {M : mm_M} {y : Nat} (h : mdl_ M y) : mm_sh M (y + 18) = some (.inr (0, 8)) := (h.2 (32, 18, .inr (0, 8)) (List.mem_of_getElem? (i := 17) rfl)).2
theorem md_r33 {M : mm_M} {y : Nat} (h : mdl_ M y) : va_rf (mm_R M y 33) = .ref (y + 19) := by rw [(h.2 (33, 19, .inr (0, 40)) (List.mem_of_getElem? (i := 18) rfl)).1]; rfl
theorem md_s33 {M : mm_M} {y : Nat} (h : mdl_ M y) : mm_sh M (y + 19) = some (.inr (0, 40)) := (h.2 (33, 19, .inr (0, 40)) (List.mem_of_getElem? (i := 18) rfl)).2
theorem md_r34 {M : mm_M} {y : Nat} (h : mdl_ M y) : va_rf (mm_R M y 34) = .ref (y + 20) := by rw [(h.2 (34, 20, .inr (0, 240)) (List.mem_of_getElem? (i := 19) rfl)).1]; rfl
theorem md_s34 {M : mm_M} {y : Nat} (h : mdl_ M y) : mm_sh M (y + 20) = some (.inr (0, 240)) := (h.2 (34, 20, .inr (0, 240)) (List.mem_of_getElem? (i := 19) rfl)).2
theorem md_r35 {M : mm_M} {y : Nat} (h : mdl_ M y) : va_rf (mm_R M y 35) = .ref (y + 21) := by rw [(h.2 (35, 21, .inr (0, 240)) (List.mem_of_getElem? (i := 20) rfl)).1]; rfl
theorem md_s35 {M : mm_M} {y : Nat} (h : mdl_ M y) : mm_sh M (y + 21) = some (.inr (0, 240)) := (h.2 (35, 21, .inr (0, 240)) (List.mem_of_getElem? (i := 20) rfl)).2
theorem md_r36 {M : mm_M} {y : Nat} (h : mdl_ M y) : va_rf (mm_R M y 36) = .ref (y + 22) := by rw [(h.2 (36, 22, .inr (0, 240)) (List.mem_of_getElem? (i := 21) rfl)).1]; rfl
theorem md_s36 {M : mm_M} {y : Nat} (h : mdl_ M y) : mm_sh M (y + 22) = some (.inr (0, 240)) := (h.2 (36, 22, .inr (0, 240)) (List.mem_of_getElem? (i := 21) rfl)).2
theorem md_r37 {M : mm_M} {y : Nat} (h : mdl_ M y) : va_rf (mm_R M y 37) = .ref (y + 23) := by rw [(h.2 (37, 23, .inr (2, 240)) (List.mem_of_getElem? (i := 22) rfl)).1]; rfl
theorem md_s37 {M : mm_M} {y : Nat} (h : mdl_ M y) : mm_sh M (y + 23) = some (.inr (2, 240)) := (h.2 (37, 23, .inr (2, 240)) (List.mem_of_getElem? (i := 22) rfl)).2
theorem md_r39 {M : mm_M} {y : Nat} (h : mdl_ M y) : va_rf (mm_R M y 39) = .ref (y + 24) := by rw [(h.2 (39, 24, .inr (0, 200)) (List.mem_of_getElem? (i := 23) rfl)).1]; rfl
theorem md_s39 {M : mm_M} {y : Nat} (h : mdl_ M y) : mm_sh M (y + 24) = some (.inr (0, 200)) := (h.2 (39, 24, .inr (0, 200)) (List.mem_of_getElem? (i := 23) rfl)).2
theorem md_r40 {M : mm_M} {y : Nat} (h : mdl_ M y) : va_rf (mm_R M y 40) = .ref (y + 25) := by rw [(h.2 (40, 25, .inr (0, 200)) (List.mem_of_getElem? (i := 24) rfl)).1]; rfl
theorem md_s40 {M : mm_M} {y : Nat} (h : mdl_ M y) : mm_sh M (y + 25) = some (.inr (0, 200)) := (h.2 (40, 25, .inr (0, 200)) (List.mem_of_getElem? (i := 24) rfl)).2
theorem md_r41 {M : mm_M} {y : Nat} (h : mdl_ M y) : va_rf (mm_R M y 41) = .ref (y + 26) := by rw [(h.2 (41, 26, .inr (0, 200)) (List.mem_of_getElem? (i := 25) rfl)).1]; rfl
theorem md_s41 {M : mm_M} {y : Nat} (h : mdl_ M y) : mm_sh M (y + 26) = some (.inr (0, 200)) := (h.2 (41, 26, .inr (0, 200)) (List.mem_of_getElem? (i := 25) rfl)).2
theorem md_r42 {M : mm_M} {y : Nat} (h : mdl_ M y) : va_rf (mm_R M y 42) = .ref (y + 27) := by rw [(h.2 (42, 27, .inr (0, 200)) (List.mem_of_getElem? (i := 26) rfl)).1]; rfl
theorem md_s42 {M : mm_M} {y : Nat} (h : mdl_ M y) : mm_sh M (y + 27) = some (.inr (0, 200)) := (h.2 (42, 27, .inr (0, 200)) (List.mem_of_getElem? (i := 26) rfl)).2
theorem md_r43 {M : mm_M} {y : Nat} (h : mdl_ M y) : va_rf (mm_R M y 43) = .ref (y + 28) := by rw [(h.2 (43, 28, .inr (0, 200)) (List.mem_of_getElem? (i := 27) rfl)).1]; rfl
theorem md_s43 {M : mm_M} {y : Nat} (h : mdl_ M y) : mm_sh M (y + 28) = some (.inr (0, 200)) := (h.2 (43, 28, .inr (0, 200)) (List.mem_of_getElem? (i := 27) rfl)).2
theorem md_r44 {M : mm_M} {y : Nat} (h : mdl_ M y) : va_rf (mm_R M y 44) = .ref (y + 29) := by rw [(h.2 (44, 29, .inr (0, 200)) (List.mem_of_getElem? (i := 28) rfl)).1]; rfl
theorem md_s44 {M : mm_M} {y : Nat} (h : mdl_ M y) : mm_sh M (y + 29) = some (.inr (0, 200)) := (h.2 (44, 29, .inr (0, 200)) (List.mem_of_getElem? (i := 28) rfl)).2
theorem md_r45 {M : mm_M} {y : Nat} (h : mdl_ M y) : va_rf (mm_R M y 45) = .ref (y + 30) := by rw [(h.2 (45, 30, .inr (0, 200)) (List.mem_of_getElem? (i := 29) rfl)).1]; rfl
theorem md_s45 {M : mm_M} {y : Nat} (h : mdl_ M y) : mm_sh M (y + 30) = some (.inr (0, 200)) := (h.2 (45, 30, .inr (0, 200)) (List.mem_of_getElem? (i := 29) rfl)).2
theorem md_r46 {M : mm_M} {y : Nat} (h : mdl_ M y) : va_rf (mm_R M y 46) = .ref (y + 31) := by rw [(h.2 (46, 31, .inr (0, 200)) (List.mem_of_getElem? (i := 30) rfl)).1]; rfl
theorem md_s46 {M : mm_M} {y : Nat} (h : mdl_ M y) : mm_sh M (y + 31) = some (.inr (0, 200)) := (h.2 (46, 31, .inr (0, 200)) (List.mem_of_getElem? (i := 30) rfl)).2
theorem md_r47 {M : mm_M} {y : Nat} (h : mdl_ M y) : va_rf (mm_R M y 47) = .ref (y + 32) := by rw [(h.2 (47, 32, .inr (0, 1000)) (List.mem_of_getElem? (i := 31) rfl)).1]; rfl
theorem md_s47 {M : mm_M} {y : Nat} (h : mdl_ M y) : mm_sh M (y + 32) = some (.inr (0, 1000)) := (h.2 (47, 32, .inr (0, 1000)) (List.mem_of_getElem? (i := 31) rfl)).2
theorem md_r48 {M : mm_M} {y : Nat} (h : mdl_ M y) : va_rf (mm_R M y 48) = .ref (y + 33) := by rw [(h.2 (48, 33, .inr (3, 5001)) (List.mem_of_getElem? (i := 32) rfl)).1]; rfl
theorem md_s48 {M : mm_M} {y : Nat} (h : mdl_ M y) : mm_sh M (y + 33) = some (.inr (3, 5001)) := (h.2 (48, 33, .inr (3, 5001)) (List.mem_of_getElem? (i := 32) rfl)).2
theorem md_r49 {M : mm_M} {y : Nat} (h : mdl_ M y) : va_rf (mm_R M y 49) = .ref (y + 34) := by rw [(h.2 (49, 34, .inr (0, 5)) (List.mem_of_getElem? (i := 33) rfl)).1]; rfl
theorem md_s49 {M : mm_M} {y : Nat} (h : mdl_ M y) : mm_sh M (y + 34) = some (.inr (0, 5)) := (h.2 (49, 34, .inr (0, 5)) (List.mem_of_getElem? (i := 33) rfl)).2
