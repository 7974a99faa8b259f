/-! from the entry, for every script of at most 3072 ints, the law comes to its end with true -/
theorem whole_start {p : Program} {e : Env} {s : State} {m : MethodId} {below : List Frame} {meth : Method} {c : Code} (l : Launch) {b L : Nat} {xs : Nat → Int32} (hL : L ≤ 3072) (C0 : lw_At p s m meth c b L xs) : W p l e room_1 s m #[Value.ref b] below meth c s.heap [] 0 0 (lw_Z below #[Value.ref b] s) (entryFrame m ([Value.ref b] : List Value).toArray 4) := by
  obtain ⟨hexec, hcode, hret, hml, hown, hts, hX, hbl, hlk, hgv⟩ := C0
  have hfl : ∀ w ∈ nr_L, w.before #[Value.ref b] s = true := flat_of_before _ hgv
  obtain ⟨A, hAd⟩ : ∃ A : Nat → Prop, A = fun a => s.heap.size ≤ a := ⟨_, rfl⟩
  have hA : ∀ a : Nat, a < s.heap.size → ¬ A a := fun a h z => by
    rw [hAd] at z
    exact absurd z (Nat.not_le.mpr h)
  obtain ⟨w0, e0, T0⟩ := st_tab (A := A) hfl hA in_W1 in_W2 in_W3
  obtain ⟨s0, e1, T1⟩ := st_tab (A := A) hfl hA in_S1 in_S2 in_S3
  obtain ⟨v0, e2, T2⟩ := st_tab (A := A) hfl hA in_V1 in_V2 in_V3
  have hb : (Term.arg 0).eval #[Value.ref b] s none [] s = some (.ref b) := rfl
  have n0 : b ≠ w0 := va_neR (hfl _ in_nW) hb e0
  have n1 : b ≠ s0 := va_neR (hfl _ in_nS) hb e1
  have n2 : b ≠ v0 := va_neR (hfl _ in_nV) hb e2
  have z0 : va_Z "ConsulDesk" "WORTHS" "[I" (.ref w0) A s s.heap := va_Zof (hts _ (tb_at (w := .laysStatic "ConsulDesk" "WORTHS" "[I") 108 (by decide +kernel))) (hts _ (tb_at (w := .initialized "ConsulDesk") 1 (by decide +kernel))) e0 hA
  have z1 : va_Z "ConsulDesk" "SPARED" "[I" (.ref s0) A s s.heap := va_Zof (hts _ (tb_at (w := .laysStatic "ConsulDesk" "SPARED" "[I") 696 (by decide +kernel))) (hts _ (tb_at (w := .initialized "ConsulDesk") 1 (by decide +kernel))) e1 hA
  have z2 : va_Z "ConsulDeskModel" "WORTH" "[I" (.ref v0) A s s.heap := va_Zof (hts _ (tb_at (w := .laysStatic "ConsulDeskModel" "WORTH" "[I") 1185 (by decide +kernel))) (hts _ (tb_at (w := .initialized "ConsulDeskModel") 6 (by decide +kernel))) e2 hA
  have z3 : va_Z "java/lang/String" "COMPACT_STRINGS" "Z" (.int 1) A s s.heap := va_Zof (hts _ (tb_at (w := .laysStatic "java/lang/String" "COMPACT_STRINGS" "Z") 258 (by decide +kernel))) (hts _ (tb_at (w := .initialized "java/lang/String") 12 (by decide +kernel))) (va_eqt (hfl _ in_cs)) hA
  obtain ⟨r4, z4⟩ := st_rn (A := A) (hts _ (tb_at (w := .laysStatic "java/lang/Throwable" "UNASSIGNED_STACK" "[Ljava/lang/StackTraceElement;") 821 (by decide +kernel))) (hts _ (tb_at (w := .initialized "java/lang/Throwable") 7 (by decide +kernel))) (hfl _ in_r4) hA
  obtain ⟨r5, z5⟩ := st_rn (A := A) (hts _ (tb_at (w := .laysStatic "java/lang/Throwable" "SUPPRESSED_SENTINEL" "Ljava/util/List;") 823 (by decide +kernel))) (hts _ (tb_at (w := .initialized "java/lang/Throwable") 7 (by decide +kernel))) (hfl _ in_r5) hA
  obtain ⟨r6, z6⟩ := st_rn (A := A) (hts _ (tb_at (w := .laysStatic "jdk/internal/util/Preconditions" "SIOOBE_FORMATTER" "Ljava/util/function/BiFunction;") 274 (by decide +kernel))) (hts _ (tb_at (w := .initialized "jdk/internal/util/Preconditions") 14 (by decide +kernel))) (hfl _ in_r6) hA
  obtain ⟨adK, adV, hS9, hev⟩ := vk_Sof (args := #[Value.ref b]) (s := s) (N := 9) (tm := st_tm) (len := mm_tl) (byt := mm_tx) (A := A) (by decide) (fun i hi => hfl _ (st_ex i hi)) (fun i hi => hfl _ (st_co i hi)) (fun i hi => hfl _ (st_ar i hi)) (fun i hi => hfl _ (st_le i hi)) (fun i hi j hj => hfl _ (st_el i hi j hj)) (fun i j hi hj hij => (st_ne i hi j hj hij).imp (fun h => hfl _ h) (fun h => hfl _ h)) hA
  obtain ⟨D, hD⟩ := st_cl hts
  obtain ⟨aC, haC⟩ := st_arr hts
  obtain ⟨sv, hsv⟩ : ∃ sv : Nat → Value, sv = fun k => match k with | 0 => .ref w0 | 1 => .ref s0 | 2 => .ref v0 | 3 => .int 1 | 4 => va_rn r4 | 5 => va_rn r5 | _ => va_rn r6 := ⟨_, rfl⟩
  obtain ⟨G, hG⟩ : ∃ G : mm_G, G = (D, aC, s.heap.size, sv, adK, adV) := ⟨_, rfl⟩
  have hsz : mm_sz G = s.heap.size := by rw [hG]
  have hfr : mm_fr G = A := by
    rw [hAd, hG]
    rfl
  have g0 : G.2.2.2.1 0 = .ref w0 := by rw [hG, hsv]; rfl
  have g1 : G.2.2.2.1 1 = .ref s0 := by rw [hG, hsv]; rfl
  have g2 : G.2.2.2.1 2 = .ref v0 := by rw [hG, hsv]; rfl
  have g3 : G.2.2.2.1 3 = .int 1 := by rw [hG, hsv]; rfl
  have g4 : G.2.2.2.1 4 = va_rn r4 := by rw [hG, hsv]; rfl
  have g5 : G.2.2.2.1 5 = va_rn r5 := by rw [hG, hsv]; rfl
  have g6 : G.2.2.2.1 6 = va_rn r6 := by rw [hG, hsv]; rfl
  have hK : mm_K G s := by
    refine ⟨⟨fun ci q hq => by rw [hG]; exact hD ci q hq, fun k q hk => ?_⟩, st_nw hts, fun q hq => ?_⟩
    · have hk10 : k < 10 := (List.getElem?_eq_some_iff.mp hk).1
      rw [mm_tys_at G hk10] at hk
      cases hk
      rw [hG]
      exact haC k hk10
    · obtain ⟨t1, t2⟩ := tr_eq q hq
      refine vk_R.of (A := #[Value.ref b]) (hts _ (List.mem_append_right _ (tr_in q hq))) ?_
      have h9 : (st_tm q.2.2.2).eval #[Value.ref b] s none [] s = some (.ref (G.2.2.2.2.1 q.2.2.2)) := by
        rw [hG]; exact hev _ t1
      rcases t2 with t2 | ⟨t2, t3⟩
      · rw [t2]; exact h9
      · obtain ⟨a, c9, cA, kA, q1, -⟩ := Cond.exactly_spec (args := #[Value.ref b]) (first := s) (o := none) (s := s) (idx := []) (t := .string q.1 q.2.1) (cls := "java/lang/String") (hfl _ t3)
        have := eqR_ (hfl _ t2) h9 q1
        rw [q1, ← this]
  have hZ : mm_Z G s s.heap := by
    refine ⟨fun k q hk => ?_, by rw [hfr, hG]; exact hS9⟩
    rw [hfr]
    match k, hk with
    | 0, hk => cases hk; rw [g0]; exact z0
    | 1, hk => cases hk; rw [g1]; exact z1
    | 2, hk => cases hk; rw [g2]; exact z2
    | 3, hk => cases hk; rw [g3]; exact z3
    | 4, hk => cases hk; rw [g4]; exact z4
    | 5, hk => cases hk; rw [g5]; exact z5
    | 6, hk => cases hk; rw [g6]; exact z6
    | n + 7, hk => cases hk
  have hok : mm_ok G (hp_M s.heap b L w0 s0 v0) s s.heap := hp_ok hsz hbl hX T0 T1 T2
  have t0 : wtb_ (hp_M s.heap b L w0 s0 v0) w0 := ⟨hp_sh (Ne.symm n0) (Or.inl rfl), (hp_T T0).2.1⟩
  have t1 : mm_sh (hp_M s.heap b L w0 s0 v0) s0 = some (.inr (10, 5)) ∧ ∀ i, i < 5 → mm_I (hp_M s.heap b L w0 s0 v0) s0 i = nI (Sp i) := ⟨hp_sh (Ne.symm n1) (Or.inr (Or.inl rfl)), (hp_T T1).2.1⟩
  have t2 : wtb_ (hp_M s.heap b L w0 s0 v0) v0 := ⟨hp_sh (Ne.symm n2) (Or.inr (Or.inr rfl)), (hp_T T2).2.1⟩
  have hl := lv_entry ([Value.ref b] : List Value) (n := 4) (Nat.le_of_ble_eq_true rfl)
  rw [lg_entry_eq]
  have hC : wa_C G jL_law (900 + 10) 601024 7293034 p room_1 s m #[Value.ref b] meth c := ⟨⟨hexec, hcode, hml, hown, fun w hw => hts w (gt_tbl w hw)⟩, hret, hlk, Or.inl rfl, hK, hZ, Nat.le_of_eq hsz, Nat.le_refl _, Nat.le_refl _, by decide, by decide⟩
  have K := law_body (G := G) (d := 900) (mc := 601024) (ms := 7293034) (M0 := hp_M s.heap b L w0 s0 v0) (L / 6) g0 g1 g2 g3 g4 g5 g6 hL (by omega) t0 t1 t2 hp_shb (hp_X hX).1 p l e room_1 s m #[Value.ref b] below meth c s.heap [] 0 0 _ hC hok va_S.rf (by omega) (by omega) hl
  intro T hT X
  obtain ⟨t, st, o, r1, r2, ⟨⟨⟨o2, M2, e9, e8, -⟩, -⟩, Ls, hF, hLs⟩⟩ := K T hT X
  refine ⟨t, st, o, r1, r2, ?_, lw_of hF (fun q hq => ?_) (Nat.le_refl _) (Nat.le_refl _)⟩
  · rw [e9, e8]
  · have := hLs q hq
    rw [hfr, hAd] at this
    exact this
