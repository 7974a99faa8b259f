/-! the call of the reference's tariff; the relation at the start -/
theorem mt_good : GoodIn gt_ws mt_ws := by
  intro w hw
  have hm : w ∈ gt_ws := by
    rcases List.mem_cons.mp hw with rfl | h1
    · exact wd_X12_tariff
    · exact h1
  exact ⟨hm, good_of_word (gt_good w hm)⟩
theorem wm_X12_tariff : Cond.instanceMethod jX12_tariff.1 ∈ gt_ws := gt_of 1041 (by decide +kernel) (by decide +kernel)
theorem we_X12_tariff : Cond.selects jX12_tariff.1.cls jX12_tariff.1 jX12_tariff.1 ∈ gt_ws := gt_of 1042 (by decide +kernel) (by decide +kernel)
theorem wl_L_26 : Cond.methodLink RL 26 jX12_tariff.1 ∈ gt_ws := gt_of 1040 (by decide +kernel) (by decide +kernel)
theorem wa_callT {fl : Nat} {G : mm_G} {J : mm_J} {mc ms kc ks : Nat} {Q : Option Value → mm_M → Prop} {M : mm_M} {pc : Nat} {lv : List (Option Value)} {d2 mc2 ms2 i b : Nat} {w : Int32} {rest : List Value} {kc' ks' : Nat} (hd : decode J.2.1 pc = .ok (.invokevirtual i, 3)) (w1 : Cond.methodLink J.1.cls i jX12_tariff.1 ∈ gt_ws) (hs : mm_sh M b = some (.inl 12)) (hcat : (rest.map fun v => v.category).sum ≤ 8) (h1 : mc2 + kc' ≤ kc) (h2 : ms2 + ks' ≤ ks)
    (hM : mt_ G d2 mc2 ms2 [.ref b, .int w] M (fun o M' => wa_ fl G J (d2 + 1) mc ms Q kc' ks' M' (pc + 3) lv (mm_res o rest))) : wa_ fl G J (d2 + 1) mc ms Q kc ks M pc lv (.int w :: .ref b :: rest) := by
  intro p l e R s m args below meth c H locs cells slots ls C hok hS hc hs' hl
  have hR := C.2.2.2.2.2.2.2
  have hts := C.1.2.2.2.2
  have hq : mm_cl[12]? = some (RX12, TX12, 50) := rfl
  obtain ⟨-, cell, g1, g2, g3, -⟩ := mm_obj hok hs hq
  have hcl := (C.2.2.2.2.1.1.1 12 _ hq).2.1
  have hy : jX12_tariff.1.cls ≠ "java/lang/invoke/MethodHandle" ∧ jX12_tariff.1.cls ≠ "java/lang/invoke/VarHandle" := by decide +kernel
  have hK : Back l R p e below s args jX12_tariff.1 3 8 (PreOf R mc2 ms2 (va_Pc [.ref b, .int w] (mm_pre G M))) (PostOf (mm_post G (fun o M' => wa_ fl G J (d2 + 1) mc ms Q kc' ks' M' (pc + 3) lv (mm_res o rest))) mc2 ms2 (mm_fr G)) := va_backW (hh := [(43, 47, 50, 13)]) (bytes := jX12_tariff.2.1) (maxL := 3) (ret := some .int) (hM l) (mm_blind G M _) rfl rfl (by show d2 + 1 ≤ _; omega) (by show 8 + (3 + 11) + 80 * d2 ≤ _; omega) (pay_in hts mt_good) List.mem_cons_self (fun a' U hW => word_at hW (Or.inl (by first | rfl | simp [Cond.onTables, Cond.keeps, Cond.steady])) (hts _ wn_X12))
  refine mm_call (mc2 := mc2) (ms2 := ms2) (rest := rest) (Q2 := fun o M' => wa_ fl G J (d2 + 1) mc ms Q kc' ks' M' (pc + 3) lv (mm_res o rest)) (av := ([.ref b, .int w] : List Value).toArray) ?_ hS ?_
  · intro T hT X
    obtain ⟨mk, methM, hnamed, hmethM, hstM, habM⟩ := Cond.instanceMethod_spec (hts _ wm_X12_tariff)
    obtain ⟨m9, methM', cM, hn9, hmethM', -, -, -, -, -, -, hsigM⟩ := Cond.codeWith_spec (hts _ wd_X12_tariff)
    cases hnamed.symm.trans hn9
    cases hmethM.symm.trans hmethM'
    obtain ⟨c2, r2, m2, q1, q2, q3, q4, kP, hkP, hkPi⟩ := Cond.selects_spec (hts _ we_X12_tariff)
    have hclB : s.vm.findClass jX12_tariff.1.cls = some cell.cls := by rw [g2]; exact hcl
    cases hclB.symm.trans q1
    cases (State.methodFound?_of_named hnamed hy).symm.trans q2
    cases hnamed.symm.trans q3
    have hselP : selectMethod e.platform s.vm cell.cls mk = .method mk := by rw [Launch.admits_selectMethod X.admits]; exact q4
    have hlen : ([.int w] : List Value).length = methM.sig.parameters.length := by
      have h9 : (parseMethodDescriptor jX12_tariff.1.desc).map (fun d => d.parameters.length) = some 1 := by decide +kernel
      rw [hsigM] at h9
      exact (Option.some.inj h9).symm
    obtain ⟨vm₁, X₁, hstep₁⟩ := X.invokevirtual C.1.1 C.1.2.2.2.1 (hts _ w1) hnamed hmethM hstM hkP hkPi hy (a := b) (cell := cell) (by rw [hT]; exact g1) (fun z h => by rw [g3] at h; cases h) hselP hmethM habM hkP hkPi (g := F0 m pc ls (.int w :: .ref b :: rest)) rfl (argsL := [.int w]) (rest := rest) hlen rfl (by rw [C.1.2.1]; exact hd)
    obtain ⟨v, ⟨U', l2, c9, s2⟩, X', ⟨g', mk', t, L, e1, e2, hq2, k1, hL, k2, k3⟩, hsteps⟩ := hK m meth c ⟨T.setVm vm₁, locs, cells, slots⟩ { F0 m pc ls (.int w :: .ref b :: rest) with stack := rest } (.invokevirtual i) mk (Value.ref b :: [.int w]).toArray X₁ rfl (hl.1.trans C.1.2.2.1.symm) (by rw [C.1.2.1]; exact hd) (mm_cat (m := m) (pc := pc) (ls := ls) (st := rest) hcat) (X₁.named hnamed) ⟨by show cells + mc2 ≤ _; omega, by show slots + ms2 ≤ _; omega, mm_enter C hok hS [.ref b, .int w] (T.setVm vm₁) hT X₁.warmed⟩
    dsimp only [Pt.U, Pt.locs, Pt.cells, Pt.slots] at X' e1 e2 k1 k2 k3 hsteps
    subst k1; subst k2; subst k3
    exact ⟨v, (T.setVm vm₁).calling g' mk' (Value.ref b :: [.int w]).toArray, t, U', L, hT, X', hL, e1, e2, hq2, fun target h => hstep₁ _ fun acts => by rw [doInvoke_state]; exact hsteps.trans h⟩
  · intro o M' H1 locs1 hQ hok1 hS1
    exact hQ p l e R s m args below meth c H1 locs1 _ _ ls C hok1 hS1 (by omega) (by omega) hl
theorem Rel_ini {M0 M1 M2 : mm_M} {x y w0 s0 v0 bs L : Nat} {xs : Nat → Int32} (h0 : wtb_ M0 w0) (hs : mm_sh M0 s0 = some (.inr (10, 5)) ∧ ∀ i, i < 5 → mm_I M0 s0 i = nI (Sp i)) (hv : wtb_ M0 v0) (hb : mm_sh M0 bs = some (.inr (10, L))) (hbx : ∀ j, j < L → mm_I M0 bs j = xs j) (h1 : rel_ 99 x 13 e0_ M0 rs_10 M1) (h2 : rel_ 1 y 35 e1_ M1 rs_12 M2) : Rel_ x y w0 s0 v0 bs L xs M2 := by
  obtain ⟨d1, z1⟩ := ini_10 h1
  obtain ⟨m2, z2, z3⟩ := ini_12 h2
  have n1 := h1.2.2.1
  have n2 := h2.2.2.1
  have hxy : x + 13 ≤ y := by have := h2.2.2.2.1 _ _ d1.2.2.2.2.2; omega
  have f1 : fr_ (fun _ _ => False) (fun _ => False) M1 M2 := fr_nw n2
  have hx : dsk_ M2 x := fr_dsk f1 ⟨id, id, id, id⟩ (by rw [(n2 _ _ (dsk_s6 d1)).2.2.2 id]; exact d1.2.2.2.2.1) d1
  have tb : ∀ {a n : Nat}, mm_sh M0 a = some (.inr (10, n)) → mm_sh M2 a = some (.inr (10, n)) ∧ ∀ j, mm_I M2 a j = mm_I M0 a j := fun ha => by
    have e1 := n1 _ _ ha
    have e2 := n2 _ _ e1.1
    exact ⟨e2.1, fun j => by rw [e2.2.1 id, e1.2.1 id]⟩
  have zx : ∀ k, mm_I M2 x k = 0 := fun k => by
    rw [(n2 _ _ d1.1.1).2.1 id]; exact z1 0 k (by decide) (Or.inl (by decide))
  have zx4 : ∀ k, mm_I M2 (x + 4) k = 0 := fun k => by
    rw [(n2 _ _ (dsk_s3 d1)).2.1 id]; exact z1 4 k (by decide) (Or.inl (by decide))
  have zy : ∀ k, k ≠ 2 → mm_I M2 y k = 0 := fun k hk => z3 0 k (by decide) (Or.inr hk)
  have zyk : ∀ i k, 1 ≤ i → i < 35 → mm_I M2 (y + i) k = 0 := fun i k hi hi2 => z3 i k hi2 (Or.inl (by omega))
  refine ⟨⟨hxy, hx, m2, ⟨(tb h0.1).1, fun i hi => by rw [(tb h0.1).2]; exact h0.2 i hi⟩, ⟨(tb hs.1).1, fun i hi => by rw [(tb hs.1).2]; exact hs.2 i hi⟩, ⟨(tb hv.1).1, fun i hi => by rw [(tb hv.1).2]; exact hv.2 i hi⟩, (tb hb).1, fun j hj => by rw [(tb hb).2]; exact hbx j hj⟩, ⟨by rw [zy 1 (by decide), zx], by rw [zy 3 (by decide), zx], ?_⟩, 0, 0, 0, 0, 0, (fun _ => 0), (fun _ => (0, 0, (fun _ => 0), (fun _ => false), fun _ => 0)), (fun _ => 0), (fun _ => 0), (fun _ => []), (fun _ => 0), (fun _ => 0), (fun _ => 0), ⟨⟨by decide, by decide, by decide, by decide⟩, ⟨by rw [zx]; rfl, by rw [zy 26 (by decide)]; rfl, by rw [zx]; rfl, by rw [zy 27 (by decide)]; rfl⟩, fun q hq => absurd hq (Nat.not_lt_zero q), fun q r hq => absurd hq (Nat.not_lt_zero q), fun q _ _ => ⟨zyk 16 q (by decide) (by decide), zyk 17 q (by decide) (by decide), zyk 18 q (by decide) (by decide), fun i _ => zyk 19 _ (by decide) (by decide)⟩, fun _ _ => Nat.zero_le _⟩, ⟨⟨by rw [zx]; rfl, by decide, fun t ht => absurd ht (Nat.not_lt_zero t)⟩, fun t ht => absurd ht (Nat.not_lt_zero t), fun t ht => absurd ht (Nat.not_lt_zero t), by rw [zy 14 (by decide)]; rfl, fun t ht => absurd ht (Nat.not_lt_zero t)⟩, ⟨⟨by rw [zx]; rfl, by decide, fun i hi => absurd hi (Nat.not_lt_zero i)⟩, by rw [zy 38 (by decide)]; rfl, fun i hi => absurd hi (Nat.not_lt_zero i)⟩, ⟨by rw [zx4]; rfl, by rw [zy 6 (by decide)]; rfl, by decide, fun k hk => absurd hk (Nat.not_lt_zero k)⟩⟩
  rw [z2, zx, if_neg (by decide)]
