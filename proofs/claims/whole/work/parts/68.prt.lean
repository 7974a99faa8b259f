/-! a port is opened -/
theorem opn_I (M : mm_M) (y P T : Nat) (dd td : Int32) (a j : Nat) : mm_I (md_opn M y P T dd td) a j = if a = y ∧ j = 26 then nI (P + 1) else if 30 * P ≤ j ∧ j < 30 * P + T ∧ a = y + 23 then 0 else if 30 * P ≤ j ∧ j < 30 * P + T ∧ a = y + 22 then 1000000 else if 30 * P ≤ j ∧ j < 30 * P + T ∧ a = y + 21 then 1000000 else if 30 * P ≤ j ∧ j < 30 * P + T ∧ a = y + 20 then td else if a = y + 15 ∧ j = P then td else if a = y + 14 ∧ j = P then dd else mm_I M a j := by
  unfold md_opn
  rw [mm_I_sI, md_sds_I, mm_I_sI, mm_I_sI]
theorem opn_sk (M : mm_M) (y P T : Nat) (dd td : Int32) : md_sk M (md_opn M y P T dd td) := md_sds_sk _ _ _ _ _
theorem RW_port {M M' : mm_M} {x y w0 s0 v0 bs L P T td N tp : Nat} {xs : Nat → Int32} {pa : Nat → Nat} {ar : Nat → pr_T} {ta la : Nat → Nat} {tl : Nat → List ps_L} {pp tk pq : Nat → Nat} (c : RW_ M x y w0 s0 v0 bs L xs P T td N tp pa ar ta la tl pp tk pq) {p k : Nat} (hP : P < 8) (hk1 : 1 ≤ k) (hk2 : k ≤ 60) (hF : pop_F M M' x P T p (nI k)) : RW_ (mm_sI (mm_sI (md_opn (mm_sI M' y 0 0) y P T (nI k) (nI td)) y 1 0) y 2 (-1)) x y w0 s0 v0 bs L xs (P + 1) T td N tp (fun q => if q = P then p else pa q) (fun q => if q = P then (k, td, (fun _ => td), (fun _ => false), (fun _ => 0)) else ar q) ta la tl pp tk pq := by
  have h7 := RW_T30 c
  have h8 := RW_P8 c
  have h9 := RW_N c
  have htd := RW_td c
  have hx := c.1.2.1
  have hy := c.1.2.2.1
  have hxy := c.1.1
  obtain ⟨F1, F2, F3, F4, F5, F6, F7, F8, F9, F10, F11, F12, F13, F14, F15, F16⟩ := hF
  obtain ⟨W, hW⟩ : ∃ W : Nat → Nat → Prop, W = fun a j => wk_ x y a j ∨ (a = x ∧ j = 7) ∨ (a = y ∧ j = 26) ∨ ((a = y + 14 ∨ a = y + 15) ∧ j = P) ∨ (y + 20 ≤ a ∧ a ≤ y + 23 ∧ 30 * P ≤ j) := ⟨_, rfl⟩
  obtain ⟨V, hV⟩ : ∃ V : Nat → Prop, V = fun a => vk_ x y a ∨ a = x + 1 := ⟨_, rfl⟩
  have o0 : ou_ x y p := ou_fresh hx hy (fun u => F5 0 u (by decide))
  have o1 : ou_ x y (p + 1) := ou_fresh hx hy (fun u => F5 1 u (by decide))
  have o2 : ou_ x y (p + 2) := ou_fresh hx hy (fun u => F5 2 u (by decide))
  have o3 : ou_ x y (p + 3) := ou_fresh hx hy (fun u => F5 3 u (by decide))
  have q0 := o0
  have q1 := o1
  have q2 := o2
  have q3 := o3
  unfold ou_ rg_ok_ at q0 q1 q2 q3
  have hk9 : md_sk M' (mm_sI (mm_sI (md_opn (mm_sI M' y 0 0) y P T (nI k) (nI td)) y 1 0) y 2 (-1)) := md_sk_sI (md_sk_sI (md_sk_tr (md_sk_sI (md_sk_rf M') y 0 0) (opn_sk _ _ _ _ _ _)) y 1 0) y 2 (-1)
  have hI : ∀ a j, mm_I (mm_sI (mm_sI (md_opn (mm_sI M' y 0 0) y P T (nI k) (nI td)) y 1 0) y 2 (-1)) a j = if a = y ∧ j = 2 then -1 else if a = y ∧ j = 1 then 0 else if a = y ∧ j = 26 then nI (P + 1) else if 30 * P ≤ j ∧ j < 30 * P + T ∧ a = y + 23 then 0 else if 30 * P ≤ j ∧ j < 30 * P + T ∧ a = y + 22 then 1000000 else if 30 * P ≤ j ∧ j < 30 * P + T ∧ a = y + 21 then 1000000 else if 30 * P ≤ j ∧ j < 30 * P + T ∧ a = y + 20 then nI td else if a = y + 15 ∧ j = P then nI td else if a = y + 14 ∧ j = P then nI k else if a = y ∧ j = 0 then 0 else mm_I M' a j := fun a j => by
    rw [mm_I_sI, mm_I_sI, opn_I, mm_I_sI]
  have h11 : mm_R (mm_sI (mm_sI (md_opn (mm_sI M' y 0 0) y P T (nI k) (nI td)) y 1 0) y 2 (-1)) (x + 11) 0 = some (x + 12) := by
    rw [md_sk_R hk9, (F1 _ _ (dsk_s6 hx)).2.2.2 (by show ¬ x + 11 = x + 1; omega)]; exact hx.2.2.2.2.1
  have hR1 : mm_R (mm_sI (mm_sI (md_opn (mm_sI M' y 0 0) y P T (nI k) (nI td)) y 1 0) y 2 (-1)) (x + 1) = mm_R M' (x + 1) := md_sk_R hk9 (x + 1)
  have hprt : prt_ (mm_sI (mm_sI (md_opn (mm_sI M' y 0 0) y P T (nI k) (nI td)) y 1 0) y 2 (-1)) p := md_sk_prt hk9 F4
  have hc : fr_ W V M M' := fr_mono (fr_nwx (E := fun j => j = 7 ∨ j = 11) F1 (fun j hj => F16 j (by omega) (by omega))) (fun a j z => by subst hW; unfold wk_; omega) (fun a z => by subst hV; exact Or.inr z)
  have h : fr_ W V M (mm_sI (mm_sI (md_opn (mm_sI M' y 0 0) y P T (nI k) (nI td)) y 1 0) y 2 (-1)) := fr_tr hc (fr_sk hk9 (fun a j hz => by
    subst hW
    unfold wk_ at hz
    rw [hI]
    (repeat (first | rw [if_neg (by omega)] | rw [if_pos (by omega)]))))
  generalize (mm_sI (mm_sI (md_opn (mm_sI M' y 0 0) y P T (nI k) (nI td)) y 1 0) y 2 (-1)) = M2 at *
  have hWok : wok_ M x y W := by
    subst hW
    rintro a j (z | z | z | z | z)
    · exact wk_ok M x y a j z
    all_goals exact Or.inl (by unfold rg_ok_; omega)
  have hVok : vok_ x y V := by
    subst hV
    rintro a (z | z)
    · exact vk_ok x y a z
    · exact Or.inl z
  have ex : ∀ j, mm_I M2 x j = mm_I M' x j := fun j => by
    rw [hI]
    (repeat (first | rw [if_neg (by omega)] | rw [if_pos (by omega)]))
  have ep : ∀ i j, i ≤ 3 → mm_I M2 (p + i) j = mm_I M' (p + i) j := fun i j hi => by
    rw [hI]
    (rcases (by omega : i = 0 ∨ i = 1 ∨ i = 2 ∨ i = 3) with rfl | rfl | rfl | rfl) <;> (repeat (first | rw [if_neg (by omega)] | rw [if_pos (by omega)]))
  have ep0 : ∀ j, mm_I M2 p j = mm_I M' p j := fun j => ep 0 j (by decide)
  have yk : ∀ z j, mm_sh M z ≠ none → z ≠ x → mm_I M' z j = mm_I M z j := fun z j hz hzx => by
    cases hs : mm_sh M z with
    | none => exact absurd hs hz
    | some s => rw [(F1 z s hs).2.1 hzx]
  have ey : ∀ z j, z ≤ 34 → mm_I M' (y + z) j = mm_I M (y + z) j := fun z j hz => fr_y (fr_nw F1) hy hz (by show ¬ y + z = x; omega)
  have hX : rX_ M2 x y := by
    refine rX_of (w := 0) (by rw [hI]; (repeat (first | rw [if_neg (by omega)] | rw [if_pos (by omega)]))) (by rw [ex]; exact F15) (by decide) (by rw [hI]; (repeat (first | rw [if_neg (by omega)] | rw [if_pos (by omega)]))) ?_
    rw [ex, F16 12 (by decide) (by decide), hI]
    (repeat (first | rw [if_neg (by omega)] | rw [if_pos (by omega)]))
    rw [show mm_I M' y 3 = mm_I M y 3 from ey 0 3 (by decide)]
    exact c.2.1.2.1
  obtain ⟨p1, p2, p3, p4, p5, p6⟩ := c.2.2.1
  have hP2 : rP_ M2 x y (P + 1) T td N (fun q => if q = P then p else pa q) (fun q => if q = P then (k, td, (fun _ => td), (fun _ => false), (fun _ => 0)) else ar q) := by
    refine ⟨⟨by omega, p1.2.1, p1.2.2.1, p1.2.2.2⟩, ⟨by rw [ex]; exact F14, by rw [hI]; (repeat (first | rw [if_neg (by omega)] | rw [if_pos (by omega)])), by rw [ex, F16 10 (by decide) (by decide)]; exact p2.2.2.1, ?_⟩, fun q hq => ?_, fun q r hq hr e => ?_, fun q h1 h2 => ?_, fun q i => ?_⟩
    · rw [(h _ _ hy.1).2.1 27 (by subst hW; unfold wk_; omega)]; exact p2.2.2.2
    · by_cases hqP : q = P
      · subst hqP
        show rp1_ M2 x y T td N q (if q = q then p else pa q) (if q = q then (k, td, (fun _ => td), (fun _ => false), (fun _ => 0)) else ar q)
        rw [if_pos rfl, if_pos rfl]
        obtain ⟨z1, z2, z3, z4⟩ := p5 q (Nat.le_refl _) hP
        refine ⟨by rw [hR1]; exact F2, hprt, ⟨o0, o1, o2, o3⟩, ⟨by rw [ep0]; exact F6, by rw [ep0, F7]; exact RW_10 c, by rw [ep0]; exact F8⟩, ⟨?_, ?_, ?_⟩, fun t ht => ⟨?_, ?_⟩, fun t _ _ => ?_, ⟨?_, ?_, ?_, fun t ht => ⟨?_, ?_, ?_, ?_⟩⟩, fun i hi => ⟨?_, ?_⟩, hk1, hk2, Nat.le_refl _, fun _ _ _ _ => Nat.le_refl _, fun _ _ => by show td ≤ td + k; omega⟩
        · rw [ep0, F9, hI]
          (repeat (first | rw [if_neg (by omega)] | rw [if_pos (by omega)]))
          rw [ey 16 q (by decide)]; exact z1
        · rw [ep0, F10, hI]
          (repeat (first | rw [if_neg (by omega)] | rw [if_pos (by omega)]))
          rw [ey 17 q (by decide)]; exact z2
        · rw [ep0, F10]; exact ⟨0, Nat.le_refl _, Nat.zero_le _, rfl⟩
        · rw [ep 2 t (by decide), F12 t ht]; exact RW_10 c
        · rw [ep 3 t (by decide), F13 t]; rfl
        · rw [ep 3 t (by decide), F13 t]
        · rw [hI]
          (repeat (first | rw [if_neg (by omega)] | rw [if_pos (by omega)]))
        · rw [hI]
          (repeat (first | rw [if_neg (by omega)] | rw [if_pos (by omega)]))
        · rw [hI]
          (repeat (first | rw [if_neg (by omega)] | rw [if_pos (by omega)]))
          rw [ey 18 q (by decide), z3]
          show (0 : Int32) = nI (ac_ td td)
          unfold ac_
          rw [Nat.sub_self]
          rfl
        · rw [hI]
          (repeat (first | rw [if_neg (by omega)] | rw [if_pos (by omega)]))
        · rw [hI]
          (repeat (first | rw [if_neg (by omega)] | rw [if_pos (by omega)]))
          rfl
        · rw [hI]
          (repeat (first | rw [if_neg (by omega)] | rw [if_pos (by omega)]))
          rw [ak_neg (fun z => by cases z.1)]
          rfl
        · rw [hI]
          (repeat (first | rw [if_neg (by omega)] | rw [if_pos (by omega)]))
          unfold ag_
          rw [if_pos (ak_neg (fun z => by cases z.1))]
          rfl
        · rw [ep 1 i (by decide), F11 i]; rfl
        · rw [hI]
          (repeat (first | rw [if_neg (by omega)] | rw [if_pos (by omega)]))
          rw [ey 19 _ (by decide), z4 i hi]; rfl
      · show rp1_ M2 x y T td N q (if q = P then p else pa q) (if q = P then (k, td, (fun _ => td), (fun _ => false), (fun _ => 0)) else ar q)
        rw [if_neg hqP, if_neg hqP]
        have hq2 : q < P := by omega
        refine rp1_fr2 h hx hy hVok (by rw [hR1, F3 q hqP]) (fun k h1 h2 => by subst hW; unfold wk_; omega) (fun i hi => by subst hW; unfold wk_; omega) (fun k t h1 h2 h3 => by subst hW; unfold wk_; omega) (fun i j hi => ?_) (Nat.le_refl _) (p3 q hq2)
        have ho := (p3 q hq2).2.2.1
        unfold ou_ rg_ok_ at ho
        subst hW
        unfold wk_
        (rcases (by omega : i = 0 ∨ i = 1 ∨ i = 2 ∨ i = 3) with rfl | rfl | rfl | rfl) <;> omega
    · replace e : (if q = P then p else pa q) = (if r = P then p else pa r) := e
      by_cases hqP : q = P
      · by_cases hrP : r = P
        · omega
        · rw [if_pos hqP, if_neg hrP] at e
          exact absurd ((p3 r (by omega)).2.1.1) (by rw [← e]; exact F5 0 _ (by decide))
      · by_cases hrP : r = P
        · rw [if_neg hqP, if_pos hrP] at e
          exact absurd ((p3 q (by omega)).2.1.1) (by rw [e]; exact F5 0 _ (by decide))
        · rw [if_neg hqP, if_neg hrP] at e
          exact p4 q r (by omega) (by omega) e
    · obtain ⟨z1, z2, z3, z4⟩ := p5 q (by omega) h2
      have g : ∀ k j, 16 ≤ k → k ≤ 19 → mm_I M2 (y + k) j = mm_I M (y + k) j := fun k j h1 h2 => fr_y h hy (by omega) (by subst hW; unfold wk_; omega)
      exact ⟨by rw [g 16 _ (by decide) (by decide)]; exact z1, by rw [g 17 _ (by decide) (by decide)]; exact z2, by rw [g 18 _ (by decide) (by decide)]; exact z3, fun i hi => by rw [g 19 _ (by decide) (by decide)]; exact z4 i hi⟩
    · show (if q = P then (k, td, (fun _ => td), (fun _ => false), (fun _ => 0)) else ar q).2.2.2.2 i ≤ 10000
      by_cases hqP : q = P
      · rw [if_pos hqP]; exact Nat.zero_le _
      · rw [if_neg hqP]; exact p6 q i
  have hN2 : rN_ M2 x y (P + 1) td N (fun q => if q = P then p else pa q) pp tk pq := by
    have hn := rN_fr h hx hy hWok hVok (by subst hV; unfold vk_; omega) (by subst hW; unfold wk_; omega) (fun k j h1 h2 => by subst hW; unfold wk_; omega) (fun i j hi => by have ht_ := (RW_n1 c hi).1.1; unfold ou_ rg_ok_ at ht_; subst hW; unfold wk_; omega) c.2.2.2.2.1
    refine ⟨hn.1, hn.2.1, fun i hi => ?_⟩
    obtain ⟨a1, a2, a3, a4, a5⟩ := hn.2.2 i hi
    refine ⟨⟨a1.1, fun q hq => ?_⟩, ⟨a2.1, by omega⟩, a3, a4, a5⟩
    show tk i ≠ (if q = P then p else pa q) + 1
    by_cases hqP : q = P
    · rw [if_pos hqP]
      intro e
      exact F5 1 _ (by decide) (by rw [← e]; exact ((RW_dN c).2.2 i hi).2.2.2)
    · rw [if_neg hqP]; exact a1.2 q (by omega)
  exact ⟨rS_fr h hWok hVok h11 c.1, hX, hP2, rT_fr h hx hy hWok hVok (by subst hV; unfold vk_; omega) (by subst hW; unfold wk_; omega) (fun k j h1 h2 => by subst hW; unfold wk_; omega) c.2.2.2.1, hN2, rB_fr h hx hy (by subst hW; unfold wk_; omega) (fun j => by subst hW; unfold wk_; omega) c.2.2.2.2.2⟩

theorem op_port {G : mm_G} {d : Nat} {Q : Option Value → mm_M → Prop} {M : mm_M} {x y w0 s0 v0 bs L P T td N tp : Nat} {xs : Nat → Int32} {pa : Nat → Nat} {ar : Nat → pr_T} {ta la : Nat → Nat} {tl : Nat → List ps_L} {pp tk pq : Nat → Nat} (hG0 : G.2.2.2.1 0 = .ref w0) (c : RW_ M x y w0 s0 v0 bs L xs P T td N tp pa ar ta la tl pp tk pq) (dd : Int32) (hK : ∀ (rz : Int32) (M1 : mm_M), mid_ M1 y bs L xs → (∀ (d2 : Nat) (Q2 : Option Value → mm_M → Prop), (∀ M2 : mm_M, Rel_ x y w0 s0 v0 bs L xs M2 → Q2 (some (.int rz)) M2) → ma_ G jX12_port (d2 + 1) 0 0 [.ref y, .int dd] M1 Q2) → Q (some (.int rz)) M1) : ma_ G jX10_port (d + 2) 4 73 [.ref x, .int dd] M Q := by
  have h7 := RW_T30 c
  have h8 := RW_P8 c
  have h9 := RW_N c
  have htd := RW_td c
  have hx := c.1.2.1
  have hy := c.1.2.2.1
  have hxy := c.1.1
  refine k_X10_port dd P T hx (RW_dP c).1 h8 (RW_dT c).1 h7 w0 hG0 c.1.2.2.2.1.1 (fun h0 => hK _ _ (mid_rfs 2 c) (fun d2 Q2 h2 => k_X12_port dd rfl (RV_rfs 2 c).1.2.2.1 P T (RV_26 (RV_rfs 2 c)) h8 (RV_14 (RV_rfs 2 c)) h7 (fun _ => h2 _ (RW_Rel (RW_rfs c (by decide)))) (fun _ a1 a2 => ?_) (fun _ a1 a2 => ?_))) (fun hP8 a1 a2 => hK _ _ (mid_rfs 3 c) (fun d2 Q2 h2 => k_X12_port dd rfl (RV_rfs 3 c).1.2.2.1 P T (RV_26 (RV_rfs 3 c)) h8 (RV_14 (RV_rfs 3 c)) h7 (fun h0 => absurd ⟨Int32.not_lt.mp a1, a2⟩ h0) (fun _ _ _ => h2 _ (RW_Rel (RW_rfs c (by decide)))) (fun hP9 _ _ => by omega))) (fun hP8 a1 a2 p M' hF => ?_)
  · exfalso
    rcases h0 with h0 | h0
    · exact absurd a1 (Int32.not_le.mpr h0)
    · exact absurd a2 (Int32.not_le.mpr h0)
  · exfalso
    rcases h0 with h0 | h0
    · exact absurd a1 (Int32.not_le.mpr h0)
    · exact absurd a2 (Int32.not_le.mpr h0)
  · obtain ⟨k, hk2, rfl⟩ := nI_of2 (M := 60) (n := 60) rfl (x := dd) (fun z => a1 (Int32.lt_trans z (by decide))) a2
    have hk1 : 1 ≤ k := ni_le (a := 1) (Int32.not_lt.mp a1) (by decide) (by omega)
    have F1 := hF.1
    have F16 := hF.2.2.2.2.2.2.2.2.2.2.2.2.2.2.2
    have hm : mid_ M' y bs L xs := mid_fr c (fr_nw F1) (fun a j z => Or.inl (by unfold rg_ok_; omega))
    have ey : ∀ j, mm_I M' y j = mm_I M y j := fun j => by
      rw [(F1 _ _ hy.1).2.1 (by show ¬ y = x; omega)]
    have hy1 : mdl_ M' y := fr_mdl (fr_nw F1) (by show ¬ y = x + 1; omega) hy
    have hy' : mdl_ (mm_sI M' y 0 0) y := hy1
    have e26 : mm_I (mm_sI M' y 0 0) y 26 = nI P := by
      rw [mI_ne _ _ _ _ _ (by decide), ey]; exact RW_26 c
    have e14 : mm_I (mm_sI M' y 0 0) y 14 = nI T := by
      rw [mI_ne _ _ _ _ _ (by decide), ey]; exact RW_14 c
    have e27 : mm_I (mm_sI M' y 0 0) y 27 = nI td := by
      rw [mI_ne _ _ _ _ _ (by decide), ey]; exact RW_27 c
    refine hK _ _ hm (fun d2 Q2 h2 => k_X12_port (nI k) rfl hy' P T e26 h8 e14 h7 (fun h0 => absurd ⟨Int32.not_lt.mp a1, a2⟩ h0) (fun hP9 _ _ => by omega) (fun _ _ _ => ?_))
    rw [e27]
    exact h2 _ (RW_Rel (RW_port c hP8 hk1 hk2 hF))
