/-! the law: tariff, the loop, the start -/
theorem lc_tariff {G : mm_G} {d mc ms : Nat} {Q : Option Value → mm_M → Prop} {kc ks : Nat} {M : mm_M} {x y w0 s0 v0 bs L i : Nat} {xs : Nat → Int32} {f9 : Nat} (hcs : G.2.2.2.1 3 = .int 1) (hsf : G.2.2.2.1 6 = va_rn f9) (hR : Rel_ x y w0 s0 v0 bs L xs M) (hL : L ≤ 3072) (hi : i + 6 ≤ L) (hk : ∀ M2 : mm_M, Rel_ x y w0 s0 v0 bs L xs M2 → wa_ 0 G jL_law (d + 10) mc ms Q kc ks M2 876 (lvL bs x y i) []) : wa_ 0 G jL_law (d + 10) mc ms Q (kc + 171) (ks + 547) M 230 (lvL bs x y i) [] := by
  obtain ⟨rS, rX, P, T, td, N, tp, pa, ar, ta, la, tl, pp, tk, pq, rP, rT, rN, rB⟩ := hR
  have c : RW_ M x y w0 s0 v0 bs L xs P T td N tp pa ar ta la tl pp tk pq := ⟨rS, rX, rP, rT, rN, rB⟩
  have hm0 := RW_mid c
  have htp := rB.2.2.1
  obtain ⟨w, hw⟩ : ∃ w : Int32, xs (i + 1) = w := ⟨_, rfl⟩
  refine wa_aload_n dL_law_230 rfl rfl ?_
  refine law_rd 1 (by decide) dL_law_231 dL_law_232 dL_law_233 dL_law_234 dL_law_235 hm0.2 hi hL hw ?_
  by_cases hb : w < 0 ∨ nI tp < w
  · refine wa_callV (kc' := kc) (ks' := ks) (q := (RX10, TX10, 13)) (As := [.int w]) dL_law_236 lk_L_23 rfl rfl rS.2.1.1.1 rfl rfl (Nat.le_of_ble_eq_true rfl) (by omega) (by omega) (op_tariffB c _ hb (fun rz M1 hm hop => ?_))
    refine wa_aload_n dL_law_239 rfl rfl ?_
    refine law_rd 1 (by decide) dL_law_240 dL_law_241 dL_law_242 dL_law_243 dL_law_244 hm.2 hi hL hw ?_
    refine wa_callT (kc' := kc) (ks' := ks) dL_law_245 wl_L_26 hm.1 (Nat.le_of_ble_eq_true rfl) (by omega) (by omega) (hop _ _ (fun M2 hr => ?_))
    exact wa_icmp_eq (tgt := 876) dL_law_248 (by decide) (fun _ => hk M2 hr) (fun h => absurd rfl h)
  · obtain ⟨n, hn, rfl⟩ : ∃ n : Nat, n ≤ tp ∧ w = nI n := by
      rcases pk_ix w (n := tp + 1) (by omega) with q | q | ⟨j, hj, e⟩
      · exact absurd (Or.inl q) hb
      · exact absurd (Or.inr (Int32.lt_of_lt_of_le ((nI_ltI (by omega) (by omega)).mpr (Nat.lt_succ_self tp)) q)) hb
      · exact ⟨j, by omega, e⟩
    refine wa_callV (kc' := kc) (ks' := ks) (q := (RX10, TX10, 13)) (As := [.int (nI n)]) dL_law_236 lk_L_23 rfl rfl rS.2.1.1.1 rfl rfl (Nat.le_of_ble_eq_true rfl) (by omega) (by omega) (op_tariffO hcs hsf c n hn (fun rz M1 hm hop => ?_))
    refine wa_aload_n dL_law_239 rfl rfl ?_
    refine law_rd 1 (by decide) dL_law_240 dL_law_241 dL_law_242 dL_law_243 dL_law_244 hm.2 hi hL hw ?_
    refine wa_callT (kc' := kc) (ks' := ks) dL_law_245 wl_L_26 hm.1 (Nat.le_of_ble_eq_true rfl) (by omega) (by omega) (hop _ _ (fun M2 hr => ?_))
    exact wa_icmp_eq (tgt := 876) dL_law_248 (by decide) (fun _ => hk M2 hr) (fun h => absurd rfl h)
theorem law_cmp {L i : Nat} (hL : L ≤ 3072) (hi : i ≤ 4000) : nI L - nI 6 < nI i ↔ L < i + 6 := by
  have h1 : (nI L - nI 6).toInt = (L : Int) - 6 := pk_sub_toInt (a := L) (b := 6) (by omega) (by decide)
  have h2 : (nI i).toInt = (i : Int) := by
    have h3 := pk_sub_toInt (a := i) (b := 0) (by omega) (by decide)
    rw [show nI i - nI 0 = nI i from (pk_sub (Nat.zero_le i))] at h3
    omega
  rw [Int32.lt_iff_toInt_lt, h1, h2]
  omega
theorem law_loop {G : mm_G} {d mc ms : Nat} {x y w0 s0 v0 bs L f9 : Nat} {xs : Nat → Int32} (hG0 : G.2.2.2.1 0 = .ref w0) (hG1 : G.2.2.2.1 1 = .ref s0) (hG2 : G.2.2.2.1 2 = .ref v0) (hcs : G.2.2.2.1 3 = .int 1) (hsf : G.2.2.2.1 6 = va_rn f9) (hL : L ≤ 3072) : ∀ (n i : Nat) (M : mm_M), L < i + 6 * n + 6 → i ≤ L + 6 → Rel_ x y w0 s0 v0 bs L xs M → wa_ 0 G jL_law (d + 10) mc ms (fun o _ => o = some (.int 1)) (171 * n) (547 * n) M 18 (lvL bs x y i) [] := by
  intro n
  induction n with
  | zero =>
    intro i M h1 h2 hR
    have hb := hR.1.2.2.2.2.2.2.1
    refine wa_iload_n dL_law_18 rfl ?_
    refine wa_aload_n dL_law_19 rfl rfl ?_
    refine wa_alen dL_law_20 hb ?_
    refine wa_bipush (v := nI 6) dL_law_21 (by decide) ?_
    refine wa_isub dL_law_23 ?_
    refine wa_icmp_gt (tgt := 882) dL_law_24 (by decide) (fun _ => ?_) (fun h => absurd ((law_cmp hL (by omega)).mpr (by omega)) h)
    refine wa_iconst (v := 1) dL_law_882 (by decide) ?_
    exact wa_zret dL_law_883 rfl (by decide) rfl
  | succ n ih =>
    intro i M h1 h2 hR
    have hb := hR.1.2.2.2.2.2.2.1
    have hx := hR.1.2.2.2.2.2.2.2
    refine wa_iload_n dL_law_18 rfl ?_
    refine wa_aload_n dL_law_19 rfl rfl ?_
    refine wa_alen dL_law_20 hb ?_
    refine wa_bipush (v := nI 6) dL_law_21 (by decide) ?_
    refine wa_isub dL_law_23 ?_
    refine wa_icmp_gt (tgt := 882) dL_law_24 (by decide) (fun _ => ?_) (fun h => ?_)
    · refine wa_iconst (v := 1) dL_law_882 (by decide) ?_
      exact wa_zret dL_law_883 rfl (by decide) rfl
    · have hi : i + 6 ≤ L := Nat.not_lt.mp (fun z => h ((law_cmp hL (by omega)).mpr z))
      have hk : ∀ M2 : mm_M, Rel_ x y w0 s0 v0 bs L xs M2 → wa_ 0 G jL_law (d + 10) mc ms (fun o _ => o = some (.int 1)) (171 * n) (547 * n) M2 876 (lvL bs x y i) [] := fun M2 h9 => by
        refine wa_iinc (v := nI (i + 6)) (lv' := lvL bs x y (i + 6)) dL_law_876 rfl (nI_add i 6) (by decide) rfl rfl ?_
        exact wa_goto (tgt := 18) dL_law_879 (by decide) (ih (i + 6) M2 (by omega) (by omega) h9)
      have e1 : 171 * (n + 1) = 171 * n + 171 := by omega
      have e2 : 547 * (n + 1) = 547 * n + 547 := by omega
      rw [e1, e2]
      refine wa_aload_n dL_law_27 rfl rfl ?_
      refine wa_iload_n dL_law_28 rfl ?_
      refine wa_ialdN dL_law_29 hb (Or.inr rfl) (by omega) (by omega) ?_
      refine wa_bipush (v := 31) dL_law_30 (by decide) ?_
      refine wa_iand dL_law_32 ?_
      obtain ⟨j, hj, e⟩ := pk_andE (mm_I M bs i) (m := 31) 5 rfl
      rw [e]
      have hj2 : j < 32 := hj
      rcases (by omega : j = 0 ∨ j = 1 ∨ j = 2 ∨ j = 3 ∨ j = 4 ∨ j = 5 ∨ j = 6 ∨ j = 7 ∨ j = 8 ∨ j = 9 ∨ j = 10 ∨ j = 11 ∨ j = 12 ∨ j = 13 ∨ j = 14 ∨ j = 15 ∨ j = 16 ∨ j = 17 ∨ j = 18 ∨ j = 19 ∨ j = 20 ∨ j = 21 ∨ j = 22 ∨ j = 23 ∨ j = 24 ∨ j = 25 ∨ j = 26 ∨ j = 27 ∨ j = 28 ∨ j = 29 ∨ j = 30 ∨ j = 31) with rfl | rfl | rfl | rfl | rfl | rfl | rfl | rfl | rfl | rfl | rfl | rfl | rfl | rfl | rfl | rfl | rfl | rfl | rfl | rfl | rfl | rfl | rfl | rfl | rfl | rfl | rfl | rfl | rfl | rfl | rfl | rfl
      · exact wa_tableIn (off := 111) (tgt := 144) dL_law_33 (by decide) (by decide) (by decide) (by decide) (lc_port hG0 hR hL hi hk)
      · exact wa_tableIn (off := 134) (tgt := 167) dL_law_33 (by decide) (by decide) (by decide) (by decide) (lc_feed hR hL hi hk)
      · exact wa_tableIn (off := 197) (tgt := 230) dL_law_33 (by decide) (by decide) (by decide) (by decide) (lc_tariff hcs hsf hR hL hi hk)
      · exact wa_tableIn (off := 220) (tgt := 253) dL_law_33 (by decide) (by decide) (by decide) (by decide) (lc_fault hR hL hi hk)
      · exact wa_tableIn (off := 233) (tgt := 266) dL_law_33 (by decide) (by decide) (by decide) (by decide) (lc_where hR hL hi hk)
      · exact wa_tableIn (off := 246) (tgt := 279) dL_law_33 (by decide) (by decide) (by decide) (by decide) (lc_lost hR hL hi hk)
      · exact wa_tableIn (off := 279) (tgt := 312) dL_law_33 (by decide) (by decide) (by decide) (by decide) (lc_pass hR hL hi hk)
      · exact wa_tableIn (off := 302) (tgt := 335) dL_law_33 (by decide) (by decide) (by decide) (by decide) (lc_force hR hL hi hk)
      · exact wa_tableIn (off := 325) (tgt := 358) dL_law_33 (by decide) (by decide) (by decide) (by decide) (lc_came hR hL hi hk)
      · exact wa_tableIn (off := 358) (tgt := 391) dL_law_33 (by decide) (by decide) (by decide) (by decide) (lc_asked hR hL hi hk)
      · exact wa_tableIn (off := 391) (tgt := 424) dL_law_33 (by decide) (by decide) (by decide) (by decide) (lc_under hR hL hi hk)
      · exact wa_tableIn (off := 414) (tgt := 447) dL_law_33 (by decide) (by decide) (by decide) (by decide) (lc_stock hG0 hR hL hi hk)
      · exact wa_tableIn (off := 457) (tgt := 490) dL_law_33 (by decide) (by decide) (by decide) (by decide) (lc_fee hR hL hi hk)
      · exact wa_tableIn (off := 520) (tgt := 553) dL_law_33 (by decide) (by decide) (by decide) (by decide) (lc_seal hG0 hG1 hG2 hR hL hi hk)
      · exact wa_tableIn (off := 573) (tgt := 606) dL_law_33 (by decide) (by decide) (by decide) (by decide) (lc_paper hG0 hR hL hi hk)
      · exact wa_tableIn (off := 606) (tgt := 639) dL_law_33 (by decide) (by decide) (by decide) (by decide) (lc_stamps hG0 hR hL hi hk)
      · exact wa_tableIn (off := 639) (tgt := 672) dL_law_33 (by decide) (by decide) (by decide) (by decide) (lc_about hG0 hR hL hi hk)
      · exact wa_tableIn (off := 672) (tgt := 705) dL_law_33 (by decide) (by decide) (by decide) (by decide) (lc_known hR hL hi hk)
      · exact wa_tableIn (off := 705) (tgt := 738) dL_law_33 (by decide) (by decide) (by decide) (by decide) (lc_sum hR hL hi hk)
      · exact wa_tableIn (off := 738) (tgt := 771) dL_law_33 (by decide) (by decide) (by decide) (by decide) (lc_homes hR hL hi hk)
      · exact wa_tableIn (off := 761) (tgt := 794) dL_law_33 (by decide) (by decide) (by decide) (by decide) (lc_difference hR hL hi hk)
      · exact wa_tableIn (off := 784) (tgt := 817) dL_law_33 (by decide) (by decide) (by decide) (by decide) (lc_unlike hR hL hi hk)
      · exact wa_tableIn (off := 807) (tgt := 840) dL_law_33 (by decide) (by decide) (by decide) (by decide) (lc_count hR hL hi hk)
      · exact wa_tableIn (off := 830) (tgt := 863) dL_law_33 (by decide) (by decide) (by decide) (by decide) (lc_trouble hR hL hi hk)
      · exact wa_tableOut (tgt := 876) dL_law_33 (Or.inr (by decide)) (by decide) (wa_kc (by omega) (by omega) (hk M hR))
      · exact wa_tableOut (tgt := 876) dL_law_33 (Or.inr (by decide)) (by decide) (wa_kc (by omega) (by omega) (hk M hR))
      · exact wa_tableOut (tgt := 876) dL_law_33 (Or.inr (by decide)) (by decide) (wa_kc (by omega) (by omega) (hk M hR))
      · exact wa_tableOut (tgt := 876) dL_law_33 (Or.inr (by decide)) (by decide) (wa_kc (by omega) (by omega) (hk M hR))
      · exact wa_tableOut (tgt := 876) dL_law_33 (Or.inr (by decide)) (by decide) (wa_kc (by omega) (by omega) (hk M hR))
      · exact wa_tableOut (tgt := 876) dL_law_33 (Or.inr (by decide)) (by decide) (wa_kc (by omega) (by omega) (hk M hR))
      · exact wa_tableOut (tgt := 876) dL_law_33 (Or.inr (by decide)) (by decide) (wa_kc (by omega) (by omega) (hk M hR))
      · exact wa_tableOut (tgt := 876) dL_law_33 (Or.inr (by decide)) (by decide) (wa_kc (by omega) (by omega) (hk M hR))
theorem nw_rfl (M : mm_M) : nw_ (fun _ => False) (fun _ => False) M M := fun _ _ h => ⟨h, fun _ => rfl, rfl, fun _ => rfl⟩
theorem rel_0 {M : mm_M} {w : Nat} {s : mm_S} (h : mm_ext M s) : rel_ w (mm_z M) 1 e0_ M (rs_n rs_0 0 s) (mm_new M s) := rl_new (n := 0) ⟨fun b t hb => (h b t hb).2.2, rfl, nw_rfl M, fun b t hb => (h b t hb).2.2, fun i hi => absurd hi (Nat.not_lt_zero i)⟩ s (e0_n 0)
theorem law_body {G : mm_G} {d mc ms : Nat} {M0 : mm_M} {w0 s0 v0 bs L f9 a4 a5 : Nat} {xs : Nat → Int32} (n : Nat) (hG0 : G.2.2.2.1 0 = .ref w0) (hG1 : G.2.2.2.1 1 = .ref s0) (hG2 : G.2.2.2.1 2 = .ref v0) (hcs : G.2.2.2.1 3 = .int 1) (h4 : G.2.2.2.1 4 = va_rn a4) (h5 : G.2.2.2.1 5 = va_rn a5) (hsf : G.2.2.2.1 6 = va_rn f9) (hL : L ≤ 3072) (hn : L < 6 * n + 6) (t0 : wtb_ M0 w0) (t1 : mm_sh M0 s0 = some (.inr (10, 5)) ∧ ∀ i, i < 5 → mm_I M0 s0 i = nI (Sp i)) (t2 : wtb_ M0 v0) (t3 : mm_sh M0 bs = some (.inr (10, L))) (t4 : ∀ j, j < L → mm_I M0 bs j = xs j) : wa_ 0 G jL_law (d + 10) mc ms (fun o _ => o = some (.int 1)) (171 * n + 34 + 1 + 12 + 1) (547 * n + 19059 + 50 + 1461 + 13) M0 0 [some (.ref bs), none, none, none] [] := by
  refine wa_new (q := (RX10, TX10, 13)) (ci := 10) dL_law_0 rfl rfl wc_L_7 wt_X10 wn_X10 (fun hext => ?_)
  refine wa_dup dL_law_3 rfl ?_
  refine wa_callI (kc' := 171 * n + 34 + 1) (ks' := 547 * n + 19059 + 50) (As := []) dL_law_4 lk_L_9 rfl rfl rfl (Nat.le_of_ble_eq_true rfl) (by omega) (by omega) (k_X10_init (rel_0 hext) w0 hG0 t0.1 (fun M1 hr1 => ?_))
  refine wa_astore_n (lv' := [some (.ref bs), some (.ref (mm_z M0)), none, none]) dL_law_7 (by decide) rfl rfl rfl ?_
  refine wa_new (q := (RX12, TX12, 50)) (ci := 12) dL_law_8 rfl rfl wc_L_10 wt_X12 wn_X12 (fun hext2 => ?_)
  refine wa_dup dL_law_11 rfl ?_
  refine wa_callI (kc' := 171 * n) (ks' := 547 * n) (As := []) dL_law_12 lk_L_12 rfl rfl rfl (Nat.le_of_ble_eq_true rfl) (by omega) (by omega) (k_X12_init (rel_0 hext2) h4 h5 (fun M2 hr2 => ?_))
  refine wa_astore_n (lv' := [some (.ref bs), some (.ref (mm_z M0)), some (.ref (mm_z M1)), none]) dL_law_15 (by decide) rfl rfl rfl ?_
  refine wa_iconst (v := nI 0) dL_law_16 (by decide) ?_
  refine wa_istore_n (lv' := lvL bs (mm_z M0) (mm_z M1) 0) dL_law_17 (by decide) rfl rfl ?_
  exact law_loop hG0 hG1 hG2 hcs hsf hL n 0 M2 (by omega) (by omega) (Rel_ini t0 t1 t2 t3 t4 hr1 hr2)
