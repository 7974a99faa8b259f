/-! days pass: who isn't there isn't touched -/
def md_fs (P : Nat) (M M' : mm_M) (y : Nat) : Prop := md_sk M M' ∧ ∀ a j, ¬ (a = y + 18 ∧ j < P) → a ≠ y + 21 → a ≠ y + 22 → ¬ (a = y ∧ j = 27) → mm_I M' a j = mm_I M a j
theorem md_fs_rf (P : Nat) (M : mm_M) (y : Nat) : md_fs P M M y := ⟨md_sk_rf M, fun _ _ _ _ _ _ => rfl⟩
theorem md_fs_18 {P : Nat} {M M' : mm_M} {y q : Nat} {v : Int32} (h : md_fs P M M' y) (hq : q < P) : md_fs P M (mm_sI M' (y + 18) q v) y := ⟨h.1, fun a j h1 h2 h3 h4 => by rw [mm_I_sI, if_neg (fun z => h1 ⟨z.1, by rw [z.2]; exact hq⟩)]; exact h.2 a j h1 h2 h3 h4⟩
theorem md_fs_27 {P : Nat} {M M' : mm_M} {y : Nat} {v : Int32} (h : md_fs P M M' y) : md_fs P M (mm_sI M' y 27 v) y := ⟨h.1, fun a j h1 h2 h3 h4 => by rw [mm_I_sI, if_neg (fun q => h4 q)]; exact h.2 a j h1 h2 h3 h4⟩
theorem md_fs_ad {P : Nat} {M M' M2 : mm_M} {y p T : Nat} {dd : Int32} (h : md_fs P M M' y) (hA : md_ad M' M2 y p T dd 0) : md_fs P M M2 y := ⟨md_sk_tr h.1 hA.1, fun a j h1 h2 h3 h4 => by rw [hA.2.1 a j h2 h3]; exact h.2 a j h1 h2 h3 h4⟩
theorem k_X12_pass2 {G : mm_G} {d : Nat} {Q : Option Value → mm_M → Prop} {M : mm_M} {y : Nat} (w : Int32) {M0 : mm_M} (hM0 : M0 = mm_sI M y 0 0) (hY : mdl_ M0 y) (P T td : Nat) (dy op : Nat → Nat) (f : Nat → Nat → Nat) (l : Nat → Nat → Bool) (hP : mm_I M0 y 26 = nI P) (hP8 : P ≤ 8) (hT : mm_I M0 y 14 = nI T) (hT30 : T ≤ 30) (h27 : mm_I M0 y 27 = nI td) (htd : td ≤ 10000) (hB : ∀ p, p < P → md_BP M0 y p T td td (dy p) (op p) (f p) (l p)) (hm : ∀ p, p < P → ∀ a b, a ≤ b → b < T → f p a ≤ f p b) (hf : ∀ p, p < P → ∀ a, a < T → f p a ≤ 20000) (hop : ∀ p, p < P → op p ≤ td) (hdy : ∀ p, p < P → dy p ≤ 60) (h2 : ¬ (1 ≤ w ∧ w ≤ 400) ∨ 10000 < mm_I M0 y 27 + w → Q (some (.int (-1))) (mm_sI (mm_sI M0 y 1 2) y 2 (-1))) (h1 : ∀ (n : Nat) (M1 : mm_M), w = nI n → 1 ≤ n → n ≤ 400 → td + n ≤ 10000 → md_fs P M0 M1 y → mm_I M1 y 27 = nI (td + n) → (∀ p, p < P → md_BP M1 y p T (td + n) (td + n) (dy p) (op p) (f p) (l p)) → Q (some (.int (nI (td + n)))) (mm_sI (mm_sI M1 y 1 0) y 2 (-1))) : ma_ G jX12_pass (d + 3) 0 0 [.ref y, .int w] M Q := by
  refine ma_of [some (.ref y), some (.int w), none, none] (by decide) rfl (Nat.le_of_ble_eq_true rfl) ?_
  have hY0 : mdl_ M y := by subst hM0; exact hY
  refine wa_aload_n dX12_pass_0 rfl rfl ?_
  refine wa_iconst (v := 0) dX12_pass_1 (by decide) ?_
  refine wa_put (q := (RX12, TX12, 50)) (ci := 12) (k := 0) dX12_pass_2 rfl (by decide) wf_X12_123 rfl hY0.1 rfl ?_
  rw [show mm_put M y 0 (.int 0) = M0 from hM0.symm]
  have fin : ∀ (n : Nat) (M1 : mm_M), w = nI n → 1 ≤ n → n ≤ 400 → td + n ≤ 10000 → md_fs P M0 M1 y → mm_I M1 y 27 = nI (td + n) → (∀ p, 0 ≤ p → p < P → md_BP M1 y p T (td + n) (td + n) (dy p) (op p) (f p) (l p)) → wa_ 0 G jX12_pass (d + 3) 0 0 Q 0 0 M1 135 [some (.ref y), some (.int (nI n)), some (.int (nI n)), none] [] := by
    intro n M1 hw hn1 hn4 hnt hfr h27 hB1
    have hY1 : mdl_ M1 y := md_sk_mdl hfr.1 hY
    refine wa_aload_n dX12_pass_135 rfl rfl ?_
    refine wa_aload_n dX12_pass_136 rfl rfl ?_
    refine wa_getI (q := (RX12, TX12, 50)) (ci := 12) (k := 27) dX12_pass_137 rfl (by decide) wf_X12_239 hY1.1 rfl ?_
    rw [h27]
    refine wa_callV (q := (RX12, TX12, 50)) (As := [.int (nI (td + n))]) dX12_pass_140 lk_X12_246 rfl rfl hY1.1 rfl rfl (Nat.le_of_ble_eq_true rfl) (Nat.le_of_eq (Nat.zero_add _)) (Nat.le_of_eq (Nat.zero_add _)) (k_X12_done _ hY1 ?_)
    exact wa_iret dX12_pass_143 rfl (h1 n M1 hw hn1 hn4 hnt hfr h27 (fun p hp => hB1 p (Nat.zero_le _) hp))
  have lpB : ∀ (n k : Nat), n ≤ 400 → td + n ≤ 10000 → k < n → (∀ M2 : mm_M, md_fs P M0 M2 y → mm_I M2 y 27 = nI (td + k + 1) → (∀ p, 0 ≤ p → p < P → md_BP M2 y p T (td + k + 1) (td + k + 1) (dy p) (op p) (f p) (l p)) → wa_ 0 G jX12_pass (d + 3) 0 0 Q 0 0 M2 129 [some (.ref y), some (.int (nI n)), some (.int (nI k)), some (.int (nI P))] []) → ∀ (r q : Nat) (M1 : mm_M), P - q = r → q ≤ P → md_fs P M0 M1 y → mm_I M1 y 27 = nI (td + k + 1) → (∀ p, 0 ≤ p → p < q → md_BP M1 y p T (td + k + 1) (td + k + 1) (dy p) (op p) (f p) (l p)) → (∀ p, q ≤ p → p < P → md_BP M1 y p T (td + k + 1) (td + k) (dy p) (op p) (f p) (l p)) → wa_ 0 G jX12_pass (d + 3) 0 0 Q 0 0 M1 106 [some (.ref y), some (.int (nI n)), some (.int (nI k)), some (.int (nI q))] [] := by
    intro n k hn4 hnt hk hcont r
    induction r with
    | zero =>
      intro q M1 hr hq hfr h27 hB1 hB2
      have hqP : q = P := by omega
      subst hqP
      have hY1 : mdl_ M1 y := md_sk_mdl hfr.1 hY
      have h26 : mm_I M1 y 26 = nI q := by rw [hfr.2 y 26 (by omega) (by omega) (by omega) (by omega)]; exact hP
      refine wa_iload_n dX12_pass_106 rfl ?_
      refine wa_aload_n dX12_pass_107 rfl rfl ?_
      refine wa_getI (q := (RX12, TX12, 50)) (ci := 12) (k := 26) dX12_pass_108 rfl (by decide) wf_X12_236 hY1.1 rfl ?_
      rw [h26]
      refine wa_icmp_ge (tgt := 129) dX12_pass_111 (by decide) (fun hT111 => ?_) (fun hF111 => absurd (nI_le (Nat.le_refl q) (by omega)) hF111)
      exact hcont M1 hfr h27 hB1
    | succ r ih =>
      intro q M1 hr hq hfr h27 hB1 hB2
      have hY1 : mdl_ M1 y := md_sk_mdl hfr.1 hY
      have h26 : mm_I M1 y 26 = nI P := by rw [hfr.2 y 26 (by omega) (by omega) (by omega) (by omega)]; exact hP
      have h14 : mm_I M1 y 14 = nI T := by rw [hfr.2 y 14 (by omega) (by omega) (by omega) (by omega)]; exact hT
      refine wa_iload_n dX12_pass_106 rfl ?_
      refine wa_aload_n dX12_pass_107 rfl rfl ?_
      refine wa_getI (q := (RX12, TX12, 50)) (ci := 12) (k := 26) dX12_pass_108 rfl (by decide) wf_X12_236 hY1.1 rfl ?_
      rw [h26]
      refine wa_icmp_ge (tgt := 129) dX12_pass_111 (by decide) (fun hT111 => absurd hT111 (nI_ge (by omega) (by omega))) (fun hF111 => ?_)
      refine wa_aload_n dX12_pass_114 rfl rfl ?_
      refine wa_iload_n dX12_pass_115 rfl ?_
      refine wa_aload_n dX12_pass_116 rfl rfl ?_
      refine wa_getI (q := (RX12, TX12, 50)) (ci := 12) (k := 27) dX12_pass_117 rfl (by decide) wf_X12_239 hY1.1 rfl ?_
      rw [h27]
      refine wa_callV (q := (RX12, TX12, 50)) (As := [.int (nI q), .int (nI (td + k + 1))]) dX12_pass_120 lk_X12_271 rfl rfl hY1.1 rfl rfl (Nat.le_of_ble_eq_true rfl) (Nat.le_of_eq (Nat.zero_add _)) (Nat.le_of_eq (Nat.zero_add _)) (k_X12_asks q T _ hY1 (by omega) h14 hT30 (fun M2 hA => ?_))
      refine wa_iinc (v := nI (q + 1)) dX12_pass_123 rfl (ni_i1 q) (by decide) rfl rfl ?_
      refine wa_goto (tgt := 106) dX12_pass_126 (by decide) ?_
      exact ih (q + 1) M2 (by omega) (by omega) (md_fs_ad hfr hA) (by rw [hA.2.1 y 27 (by omega) (by omega)]; exact h27) (fun p h5 h6 => by
        by_cases hpq : p = q
        · subst hpq; exact md_BP_askq (hB2 p (Nat.le_refl _) (by omega)) hA (hm p (by omega)) (hf p (by omega)) (by omega) (hdy p (by omega))
        · exact md_BP_ask (hB1 p h5 (by omega)) hA hT30 hpq) (fun p h5 h6 => md_BP_ask (hB2 p (by omega) h6) hA hT30 (by omega))
  have lpA : ∀ (n k : Nat), n ≤ 400 → td + n ≤ 10000 → k < n → (∀ M2 : mm_M, md_fs P M0 M2 y → mm_I M2 y 27 = nI (td + k) → (∀ p, 0 ≤ p → p < P → md_BP M2 y p T (td + k + 1) (td + k) (dy p) (op p) (f p) (l p)) → wa_ 0 G jX12_pass (d + 3) 0 0 Q 0 0 M2 94 [some (.ref y), some (.int (nI n)), some (.int (nI k)), some (.int (nI P))] []) → ∀ (r q : Nat) (M1 : mm_M), P - q = r → q ≤ P → md_fs P M0 M1 y → mm_I M1 y 27 = nI (td + k) → (∀ p, 0 ≤ p → p < q → md_BP M1 y p T (td + k + 1) (td + k) (dy p) (op p) (f p) (l p)) → (∀ p, q ≤ p → p < P → md_BP M1 y p T (td + k) (td + k) (dy p) (op p) (f p) (l p)) → wa_ 0 G jX12_pass (d + 3) 0 0 Q 0 0 M1 43 [some (.ref y), some (.int (nI n)), some (.int (nI k)), some (.int (nI q))] [] := by
    intro n k hn4 hnt hk hcont r
    induction r with
    | zero =>
      intro q M1 hr hq hfr h27 hB1 hB2
      have hqP : q = P := by omega
      subst hqP
      have hY1 : mdl_ M1 y := md_sk_mdl hfr.1 hY
      have h26 : mm_I M1 y 26 = nI q := by rw [hfr.2 y 26 (by omega) (by omega) (by omega) (by omega)]; exact hP
      refine wa_iload_n dX12_pass_43 rfl ?_
      refine wa_aload_n dX12_pass_44 rfl rfl ?_
      refine wa_getI (q := (RX12, TX12, 50)) (ci := 12) (k := 26) dX12_pass_45 rfl (by decide) wf_X12_236 hY1.1 rfl ?_
      rw [h26]
      refine wa_icmp_ge (tgt := 94) dX12_pass_48 (by decide) (fun hT48 => ?_) (fun hF48 => absurd (nI_le (Nat.le_refl q) (by omega)) hF48)
      exact hcont M1 hfr h27 hB1
    | succ r ih =>
      intro q M1 hr hq hfr h27 hB1 hB2
      have hY1 : mdl_ M1 y := md_sk_mdl hfr.1 hY
      have h26 : mm_I M1 y 26 = nI P := by rw [hfr.2 y 26 (by omega) (by omega) (by omega) (by omega)]; exact hP
      have hBq := hB2 q (Nat.le_refl _) (by omega)
      have hgo : ∀ v : Int32, v = nI (ac_ (td + k + 1) (op q)) → wa_ 0 G jX12_pass (d + 3) 0 0 Q 0 0 (mm_sI M1 (y + 18) q v) 43 [some (.ref y), some (.int (nI n)), some (.int (nI k)), some (.int (nI (q + 1)))] [] := fun v hv => ih (q + 1) _ (by omega) (by omega) (md_fs_18 hfr (by omega)) (by rw [mm_I_sI, if_neg (by omega)]; exact h27) (fun p h5 h6 => by
        by_cases hpq : p = q
        · subst hpq; exact md_BP_acq hBq hv
        · exact md_BP_acc (hB1 p h5 (by omega)) hpq) (fun p h5 h6 => md_BP_acc (hB2 p (by omega) h6) (by omega))
      have hopq := hop q (by omega)
      have hac := ac_step (td + k) (op q) (by omega)
      refine wa_iload_n dX12_pass_43 rfl ?_
      refine wa_aload_n dX12_pass_44 rfl rfl ?_
      refine wa_getI (q := (RX12, TX12, 50)) (ci := 12) (k := 26) dX12_pass_45 rfl (by decide) wf_X12_236 hY1.1 rfl ?_
      rw [h26]
      refine wa_icmp_ge (tgt := 94) dX12_pass_48 (by decide) (fun hT48 => absurd hT48 (nI_ge (by omega) (by omega))) (fun hF48 => ?_)
      refine wa_aload_n dX12_pass_51 rfl rfl ?_
      refine wa_getR (q := (RX12, TX12, 50)) (ci := 12) (k := 32) dX12_pass_52 rfl (by decide) wf_X12_70 hY1.1 rfl (md_r32 hY1) ?_
      refine wa_iload_n dX12_pass_55 rfl ?_
      refine wa_dup2 dX12_pass_56 rfl rfl ?_
      refine wa_ialdN dX12_pass_57 (md_s32 hY1) (Or.inl rfl) (by omega) (by decide) ?_
      rw [hBq.2.2.1]
      refine wa_aload_n dX12_pass_58 rfl rfl ?_
      refine wa_getI (q := (RX12, TX12, 50)) (ci := 12) (k := 27) dX12_pass_59 rfl (by decide) wf_X12_239 hY1.1 rfl ?_
      rw [h27]
      refine wa_bipush (v := 30) dX12_pass_62 (by decide) ?_
      refine wa_irem dX12_pass_64 (by decide) ?_
      rw [ni_rem30 (by omega)]
      refine wa_if_ne (tgt := 85) dX12_pass_65 (by decide) (fun hT65 => ?_) (fun hF65 => ?_)
      · refine wa_iconst (v := 0) dX12_pass_85 (by decide) ?_
        refine wa_iadd dX12_pass_86 ?_
        refine wa_iastN dX12_pass_87 (md_s32 hY1) (by omega) (by decide) ?_
        refine wa_iinc (v := nI (q + 1)) dX12_pass_88 rfl (ni_i1 q) (by decide) rfl rfl ?_
        refine wa_goto (tgt := 43) dX12_pass_91 (by decide) ?_
        refine hgo _ ?_
        rw [hac]
        first
          | (rw [if_neg (fun q9 => hT65 (by rw [q9]; rfl))]; exact nI_add _ 0)
          | exact absurd (ni_lt hT78 (by omega) (by omega)) (by omega)
          | (rw [if_pos (ni_0 hF65 (by omega))]; exact nI_add _ 1)
      · refine wa_aload_n dX12_pass_68 rfl rfl ?_
        refine wa_getI (q := (RX12, TX12, 50)) (ci := 12) (k := 27) dX12_pass_69 rfl (by decide) wf_X12_239 hY1.1 rfl ?_
        rw [h27]
        refine wa_aload_n dX12_pass_72 rfl rfl ?_
        refine wa_getR (q := (RX12, TX12, 50)) (ci := 12) (k := 29) dX12_pass_73 rfl (by decide) wf_X12_61 hY1.1 rfl (md_r29 hY1) ?_
        refine wa_iload_n dX12_pass_76 rfl ?_
        refine wa_ialdN dX12_pass_77 (md_s29 hY1) (Or.inl rfl) (by omega) (by decide) ?_
        rw [hBq.2.1]
        refine wa_icmp_lt (tgt := 85) dX12_pass_78 (by decide) (fun hT78 => ?_) (fun hF78 => ?_)
        · refine wa_iconst (v := 0) dX12_pass_85 (by decide) ?_
          refine wa_iadd dX12_pass_86 ?_
          refine wa_iastN dX12_pass_87 (md_s32 hY1) (by omega) (by decide) ?_
          refine wa_iinc (v := nI (q + 1)) dX12_pass_88 rfl (ni_i1 q) (by decide) rfl rfl ?_
          refine wa_goto (tgt := 43) dX12_pass_91 (by decide) ?_
          refine hgo _ ?_
          rw [hac]
          first
            | (rw [if_neg (fun q9 => hT65 (by rw [q9]; rfl))]; exact nI_add _ 0)
            | exact absurd (ni_lt hT78 (by omega) (by omega)) (by omega)
            | (rw [if_pos (ni_0 hF65 (by omega))]; exact nI_add _ 1)
        · refine wa_iconst (v := 1) dX12_pass_81 (by decide) ?_
          refine wa_goto (tgt := 86) dX12_pass_82 (by decide) ?_
          refine wa_iadd dX12_pass_86 ?_
          refine wa_iastN dX12_pass_87 (md_s32 hY1) (by omega) (by decide) ?_
          refine wa_iinc (v := nI (q + 1)) dX12_pass_88 rfl (ni_i1 q) (by decide) rfl rfl ?_
          refine wa_goto (tgt := 43) dX12_pass_91 (by decide) ?_
          refine hgo _ ?_
          rw [hac]
          first
            | (rw [if_neg (fun q9 => hT65 (by rw [q9]; rfl))]; exact nI_add _ 0)
            | exact absurd (ni_lt hT78 (by omega) (by omega)) (by omega)
            | (rw [if_pos (ni_0 hF65 (by omega))]; exact nI_add _ 1)
  have lpO : ∀ (n : Nat), w = nI n → 1 ≤ n → n ≤ 400 → td + n ≤ 10000 → ∀ (r k : Nat) (M1 : mm_M), n - k = r → k ≤ n → md_fs P M0 M1 y → mm_I M1 y 27 = nI (td + k) → (∀ p, 0 ≤ p → p < P → md_BP M1 y p T (td + k) (td + k) (dy p) (op p) (f p) (l p)) → wa_ 0 G jX12_pass (d + 3) 0 0 Q 0 0 M1 36 [some (.ref y), some (.int (nI n)), some (.int (nI k)), none] [] := by
    intro n hw hn1 hn4 hnt r
    induction r with
    | zero =>
      intro k M1 hr hk hfr h27 hB1
      have hkn : k = n := by omega
      subst hkn
      have hY1 : mdl_ M1 y := md_sk_mdl hfr.1 hY
      refine wa_iload_n dX12_pass_36 rfl ?_
      refine wa_iload_n dX12_pass_37 rfl ?_
      refine wa_icmp_ge (tgt := 135) dX12_pass_38 (by decide) (fun hT38 => ?_) (fun hF38 => absurd (nI_le (Nat.le_refl k) (by omega)) hF38)
      exact fin k M1 hw hn1 hn4 hnt hfr h27 hB1
    | succ r ih =>
      intro k M1 hr hk hfr h27 hB1
      have hY1 : mdl_ M1 y := md_sk_mdl hfr.1 hY
      refine wa_iload_n dX12_pass_36 rfl ?_
      refine wa_iload_n dX12_pass_37 rfl ?_
      refine wa_icmp_ge (tgt := 135) dX12_pass_38 (by decide) (fun hT38 => absurd hT38 (nI_ge (by omega) (by omega))) (fun hF38 => ?_)
      refine wa_iconst (v := 0) dX12_pass_41 (by decide) ?_
      refine wa_istore_n dX12_pass_42 (by decide) rfl rfl ?_
      refine lpA n k hn4 hnt (by omega) (fun M2 hfr2 h272 hB2 => ?_) P 0 M1 (by omega) (by omega) hfr h27 (fun p h5 h6 => absurd h6 (by omega)) hB1
      have hY2 : mdl_ M2 y := md_sk_mdl hfr2.1 hY
      refine wa_aload_n dX12_pass_94 rfl rfl ?_
      refine wa_dup dX12_pass_95 rfl ?_
      refine wa_getI (q := (RX12, TX12, 50)) (ci := 12) (k := 27) dX12_pass_96 rfl (by decide) wf_X12_239 hY2.1 rfl ?_
      rw [h272]
      refine wa_iconst (v := 1) dX12_pass_99 (by decide) ?_
      refine wa_iadd dX12_pass_100 ?_
      rw [show nI (td + k) + 1 = nI (td + k + 1) from nI_1 _]
      refine wa_put (q := (RX12, TX12, 50)) (ci := 12) (k := 27) dX12_pass_101 rfl (by decide) wf_X12_239 rfl hY2.1 rfl ?_
      refine wa_iconst (v := 0) dX12_pass_104 (by decide) ?_
      refine wa_istore_n dX12_pass_105 (by decide) rfl rfl ?_
      refine lpB n k hn4 hnt (by omega) (fun M3 hfr3 h273 hB3 => ?_) P 0 _ (by omega) (by omega) (md_fs_27 hfr2) (by show mm_I (mm_sI _ _ _ _) _ _ = _; rw [mm_I_sI, if_pos ⟨rfl, rfl⟩]) (fun p h5 h6 => absurd h6 (by omega)) (fun p h5 h6 => md_BP_y (hB2 p h5 h6))
      refine wa_iinc (v := nI (k + 1)) dX12_pass_129 rfl (ni_i1 k) (by decide) rfl rfl ?_
      refine wa_goto (tgt := 36) dX12_pass_132 (by decide) ?_
      refine wa_set0 3 ?_
      exact ih (k + 1) M3 (by omega) (by omega) hfr3 h273 hB3
  refine wa_iload_n dX12_pass_5 rfl ?_
  refine wa_iconst (v := 1) dX12_pass_6 (by decide) ?_
  refine wa_sipush (v := 400) dX12_pass_7 (by decide) ?_
  refine wa_callS (As := [.int w, .int 1, .int 400]) dX12_pass_10 lk_X12_229 rfl rfl (Nat.le_of_ble_eq_true rfl) (Nat.le_of_eq (Nat.zero_add _)) (Nat.le_of_eq (Nat.zero_add _)) (k_X12_in w 1 400 (fun ha hb => ?_) (fun ha => ?_))
  · refine wa_if_eq (tgt := 28) dX12_pass_13 (by decide) (fun h9 => absurd h9 (by decide)) (fun _ => ?_)
    refine wa_aload_n dX12_pass_16 rfl rfl ?_
    refine wa_getI (q := (RX12, TX12, 50)) (ci := 12) (k := 27) dX12_pass_17 rfl (by decide) wf_X12_239 hY.1 rfl ?_
    refine wa_iload_n dX12_pass_20 rfl ?_
    refine wa_iadd dX12_pass_21 ?_
    refine wa_sipush (v := 10000) dX12_pass_22 (by decide) ?_
    refine wa_icmp_le (tgt := 34) dX12_pass_25 (by decide) (fun hT25 => ?_) (fun hF25 => ?_)
    · refine wa_iconst (v := 0) dX12_pass_34 (by decide) ?_
      refine wa_istore_n dX12_pass_35 (by decide) rfl rfl ?_
      obtain ⟨n, hn, hw⟩ := ix_in (n := 400) rfl (Int32.le_trans (by decide) ha) hb
      subst hw
      have hn1 : 1 ≤ n := ni_le (a := 1) ha (by decide) (by omega)
      rw [h27, nI_add] at hT25
      have hnt := ni_le (b := 10000) hT25 (by omega) (by decide)
      exact lpO n rfl hn1 hn hnt n 0 M0 (by omega) (by omega) (md_fs_rf P M0 y) h27 (fun p _ hp => hB p hp)
    · refine wa_aload_n dX12_pass_28 rfl rfl ?_
      refine wa_iconst (v := 2) dX12_pass_29 (by decide) ?_
      refine wa_callV (q := (RX12, TX12, 50)) (As := [.int 2]) dX12_pass_30 lk_X12_233 rfl rfl hY.1 rfl rfl (Nat.le_of_ble_eq_true rfl) (Nat.le_of_eq (Nat.zero_add _)) (Nat.le_of_eq (Nat.zero_add _)) (k_X12_refused 2 hY ?_)
      exact wa_iret dX12_pass_33 rfl (h2 (by first | exact Or.inl ha | exact Or.inr (Int32.not_le.mp (by assumption))))
  · refine wa_if_eq (tgt := 28) dX12_pass_13 (by decide) (fun _ => ?_) (fun h9 => absurd h9 (by decide))
    refine wa_aload_n dX12_pass_28 rfl rfl ?_
    refine wa_iconst (v := 2) dX12_pass_29 (by decide) ?_
    refine wa_callV (q := (RX12, TX12, 50)) (As := [.int 2]) dX12_pass_30 lk_X12_233 rfl rfl hY.1 rfl rfl (Nat.le_of_ble_eq_true rfl) (Nat.le_of_eq (Nat.zero_add _)) (Nat.le_of_eq (Nat.zero_add _)) (k_X12_refused 2 hY ?_)
    exact wa_iret dX12_pass_33 rfl (h2 (by first | exact Or.inl ha | exact Or.inr (Int32.not_le.mp (by assumption))))
