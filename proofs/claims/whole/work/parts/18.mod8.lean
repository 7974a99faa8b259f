/-! counting -/
def ct_ (c : Nat → Bool) : Nat → Nat
  | 0 => 0
  | n + 1 => ct_ c n + if c n then 1 else 0
def sm_ (g : Nat → Nat) : Nat → Nat
  | 0 => 0
  | n + 1 => sm_ g n + g n
theorem ct_le (c : Nat → Bool) : ∀ n, ct_ c n ≤ n := by
  intro n
  induction n with
  | zero => exact Nat.le_refl _
  | succ n ih => simp only [ct_]; split <;> omega
theorem ct_s1 {c : Nat → Bool} {t A : Nat} (h : c t = true) : nI (A + ct_ c t) + 1 = nI (A + ct_ c (t + 1)) := by
  rw [show (1 : Int32) = nI 1 from rfl, nI_add]
  simp only [ct_, h, if_true]
  congr 1
theorem ct_s0 {c : Nat → Bool} {t A : Nat} (h : c t = false) : nI (A + ct_ c t) + 0 = nI (A + ct_ c (t + 1)) := by
  rw [show (0 : Int32) = nI 0 from rfl, nI_add]
  simp only [ct_, h]
  congr 1
/-- the day on which a question comes home -/
def md_hm (M : mm_M) (y p k : Nat) : Int32 := if mm_I M (y + 22) k = 1000000 then 1000000 else mm_I M (y + 22) k + mm_I M (y + 14) p
def md_u0 (M : mm_M) (y p t : Nat) : Bool := decide ((mm_I M (y + 23) (30 * p + t) = 0 ∧ mm_I M y 27 < mm_I M (y + 20) (30 * p + t)) ∨ (md_hm M y p (30 * p + t) ≤ mm_I M y 27 ∧ mm_I M y 27 < mm_I M (y + 21) (30 * p + t)))
def md_u1 (M : mm_M) (y p t : Nat) : Bool := decide (¬ md_hm M y p (30 * p + t) = 1000000 ∧ mm_I M y 27 < md_hm M y p (30 * p + t))
def md_u2 (M : mm_M) (y p i : Nat) : Bool := decide (mm_I M (y + 15) p ≤ nI (30 * i) ∧ mm_I M y 27 < nI (30 * i) + mm_I M (y + 14) p)

theorem k_X12_under {G : mm_G} {d : Nat} {Q : Option Value → mm_M → Prop} {M : mm_M} {y : Nat} (w : Int32) {M0 : mm_M} (hM0 : M0 = mm_sI M y 0 0) (hY : mdl_ M0 y) (P T td : Nat) (hP : mm_I M0 y 26 = nI P) (hP8 : P ≤ 8) (hT : mm_I M0 y 14 = nI T) (hT30 : T ≤ 30) (h27 : mm_I M0 y 27 = nI td) (htd : td ≤ 10000) (hN : ¬ (0 ≤ w ∧ w ≤ 2) → Q (some (.int (-1))) M0) (h0 : w = nI 0 → Q (some (.int (nI (sm_ (fun q => ct_ (md_u0 M0 y q) T) P)))) M0) (h1 : w = nI 1 → Q (some (.int (nI (sm_ (fun q => ct_ (md_u1 M0 y q) T) P)))) M0) (h2 : w = nI 2 → Q (some (.int (nI (sm_ (fun q => ct_ (md_u2 M0 y q) ((td + 29) / 30)) P)))) M0) : ma_ G jX12_under (d + 1) 0 0 [.ref y, .int w] M Q := by
  refine ma_of [some (.ref y), some (.int w), none, none, none, none, none] (by decide) rfl (Nat.le_of_ble_eq_true rfl) ?_
  have hY0 : mdl_ M y := by subst hM0; exact hY
  refine wa_aload_n dX12_under_0 rfl rfl ?_
  refine wa_iconst (v := 0) dX12_under_1 (by decide) ?_
  refine wa_put (q := (RX12, TX12, 50)) (ci := 12) (k := 0) dX12_under_2 rfl (by decide) wf_X12_123 rfl hY0.1 rfl ?_
  rw [show mm_put M y 0 (.int 0) = M0 from hM0.symm]
  have hfin : ∀ (w : Int32) (v : Nat), Q (some (.int (nI v))) M0 → wa_ 0 G jX12_under (d + 1) 0 0 Q 0 0 M0 243 [some (.ref y), some (.int w), some (.int (nI v)), some (.int (nI P)), none, none, none] [] := by
    intro w v hq
    refine wa_iload_n dX12_under_243 rfl ?_
    exact wa_iret dX12_under_244 rfl (hq)
  have mid0 : ∀ (A p t : Nat), p < P → t < T → wa_ 0 G jX12_under (d + 1) 0 0 Q 0 0 M0 31 [some (.ref y), some (.int (nI 0)), some (.int (nI (A + ct_ (md_u0 M0 y p) (t + 1)))), some (.int (nI p)), some (.int (nI (t + 1))), none, none] [] → wa_ 0 G jX12_under (d + 1) 0 0 Q 0 0 M0 82 [some (.ref y), some (.int (nI 0)), some (.int (nI (A + ct_ (md_u0 M0 y p) t))), some (.int (nI p)), some (.int (nI t)), some (.int (nI (30 * p + t))), some (.int (md_hm M0 y p (30 * p + t)))] [] := by
    intro A p t hp ht hc9
    refine wa_iload_n dX12_under_82 rfl ?_
    refine wa_if_ne (tgt := 144) dX12_under_83 (by decide) (fun h9 => absurd h9 (by decide)) (fun _ => ?_)
    refine wa_iload_n dX12_under_86 rfl ?_
    refine wa_aload_n dX12_under_87 rfl rfl ?_
    refine wa_getR (q := (RX12, TX12, 50)) (ci := 12) (k := 37) dX12_under_88 rfl (by decide) wf_X12_85 hY.1 rfl (md_r37 hY) ?_
    refine wa_iload dX12_under_91 rfl ?_
    refine wa_baldN dX12_under_93 (md_s37 hY) (Or.inr rfl) (by omega) (by decide) ?_
    refine wa_if_ne (tgt := 111) dX12_under_94 (by decide) (fun hT94 => ?_) (fun hF94 => ?_)
    · refine wa_iload dX12_under_111 rfl ?_
      refine wa_aload_n dX12_under_113 rfl rfl ?_
      refine wa_getI (q := (RX12, TX12, 50)) (ci := 12) (k := 27) dX12_under_114 rfl (by decide) wf_X12_239 hY.1 rfl ?_
      refine wa_icmp_gt (tgt := 138) dX12_under_117 (by decide) (fun hT117 => ?_) (fun hF117 => ?_)
      · refine wa_iconst (v := 0) dX12_under_138 (by decide) ?_
        refine wa_iadd dX12_under_139 ?_
        refine wa_istore_n dX12_under_140 (by decide) rfl rfl ?_
        refine wa_goto (tgt := 173) dX12_under_141 (by decide) ?_
        refine wa_iinc (v := nI (t + 1)) dX12_under_173 rfl (ni_i1 t) (by decide) rfl rfl ?_
        refine wa_goto (tgt := 31) dX12_under_176 (by decide) ?_
        refine wa_set0 6 ?_
        refine wa_set0 5 ?_
        first
          | (rw [ct_s1 (c := md_u0 M0 y p) (t := t) (A := A) (decide_eq_true (by first | exact Or.inl ⟨by assumption, by assumption⟩ | exact Or.inr ⟨Int32.not_lt.mp (by assumption), Int32.not_le.mp (by assumption)⟩))]; exact hc9)
          | (rw [ct_s0 (c := md_u0 M0 y p) (t := t) (A := A) (decide_eq_false (by rintro (⟨a, b⟩ | ⟨a, b⟩) <;> first | exact absurd a (by assumption) | exact absurd b (by assumption) | exact absurd a (Int32.not_le.mpr (by assumption)) | exact absurd b (Int32.not_lt.mpr (by assumption))))]; exact hc9)
      · refine wa_aload_n dX12_under_120 rfl rfl ?_
        refine wa_getR (q := (RX12, TX12, 50)) (ci := 12) (k := 35) dX12_under_121 rfl (by decide) wf_X12_79 hY.1 rfl (md_r35 hY) ?_
        refine wa_iload dX12_under_124 rfl ?_
        refine wa_ialdN dX12_under_126 (md_s35 hY) (Or.inl rfl) (by omega) (by decide) ?_
        refine wa_aload_n dX12_under_127 rfl rfl ?_
        refine wa_getI (q := (RX12, TX12, 50)) (ci := 12) (k := 27) dX12_under_128 rfl (by decide) wf_X12_239 hY.1 rfl ?_
        refine wa_icmp_le (tgt := 138) dX12_under_131 (by decide) (fun hT131 => ?_) (fun hF131 => ?_)
        · refine wa_iconst (v := 0) dX12_under_138 (by decide) ?_
          refine wa_iadd dX12_under_139 ?_
          refine wa_istore_n dX12_under_140 (by decide) rfl rfl ?_
          refine wa_goto (tgt := 173) dX12_under_141 (by decide) ?_
          refine wa_iinc (v := nI (t + 1)) dX12_under_173 rfl (ni_i1 t) (by decide) rfl rfl ?_
          refine wa_goto (tgt := 31) dX12_under_176 (by decide) ?_
          refine wa_set0 6 ?_
          refine wa_set0 5 ?_
          first
            | (rw [ct_s1 (c := md_u0 M0 y p) (t := t) (A := A) (decide_eq_true (by first | exact Or.inl ⟨by assumption, by assumption⟩ | exact Or.inr ⟨Int32.not_lt.mp (by assumption), Int32.not_le.mp (by assumption)⟩))]; exact hc9)
            | (rw [ct_s0 (c := md_u0 M0 y p) (t := t) (A := A) (decide_eq_false (by rintro (⟨a, b⟩ | ⟨a, b⟩) <;> first | exact absurd a (by assumption) | exact absurd b (by assumption) | exact absurd a (Int32.not_le.mpr (by assumption)) | exact absurd b (Int32.not_lt.mpr (by assumption))))]; exact hc9)
        · refine wa_iconst (v := 1) dX12_under_134 (by decide) ?_
          refine wa_goto (tgt := 139) dX12_under_135 (by decide) ?_
          refine wa_iadd dX12_under_139 ?_
          refine wa_istore_n dX12_under_140 (by decide) rfl rfl ?_
          refine wa_goto (tgt := 173) dX12_under_141 (by decide) ?_
          refine wa_iinc (v := nI (t + 1)) dX12_under_173 rfl (ni_i1 t) (by decide) rfl rfl ?_
          refine wa_goto (tgt := 31) dX12_under_176 (by decide) ?_
          refine wa_set0 6 ?_
          refine wa_set0 5 ?_
          first
            | (rw [ct_s1 (c := md_u0 M0 y p) (t := t) (A := A) (decide_eq_true (by first | exact Or.inl ⟨by assumption, by assumption⟩ | exact Or.inr ⟨Int32.not_lt.mp (by assumption), Int32.not_le.mp (by assumption)⟩))]; exact hc9)
            | (rw [ct_s0 (c := md_u0 M0 y p) (t := t) (A := A) (decide_eq_false (by rintro (⟨a, b⟩ | ⟨a, b⟩) <;> first | exact absurd a (by assumption) | exact absurd b (by assumption) | exact absurd a (Int32.not_le.mpr (by assumption)) | exact absurd b (Int32.not_lt.mpr (by assumption))))]; exact hc9)
    · refine wa_aload_n dX12_under_97 rfl rfl ?_
      refine wa_getR (q := (RX12, TX12, 50)) (ci := 12) (k := 34) dX12_under_98 rfl (by decide) wf_X12_76 hY.1 rfl (md_r34 hY) ?_
      refine wa_iload dX12_under_101 rfl ?_
      refine wa_ialdN dX12_under_103 (md_s34 hY) (Or.inl rfl) (by omega) (by decide) ?_
      refine wa_aload_n dX12_under_104 rfl rfl ?_
      refine wa_getI (q := (RX12, TX12, 50)) (ci := 12) (k := 27) dX12_under_105 rfl (by decide) wf_X12_239 hY.1 rfl ?_
      refine wa_icmp_gt (tgt := 134) dX12_under_108 (by decide) (fun hT108 => ?_) (fun hF108 => ?_)
      · refine wa_iconst (v := 1) dX12_under_134 (by decide) ?_
        refine wa_goto (tgt := 139) dX12_under_135 (by decide) ?_
        refine wa_iadd dX12_under_139 ?_
        refine wa_istore_n dX12_under_140 (by decide) rfl rfl ?_
        refine wa_goto (tgt := 173) dX12_under_141 (by decide) ?_
        refine wa_iinc (v := nI (t + 1)) dX12_under_173 rfl (ni_i1 t) (by decide) rfl rfl ?_
        refine wa_goto (tgt := 31) dX12_under_176 (by decide) ?_
        refine wa_set0 6 ?_
        refine wa_set0 5 ?_
        first
          | (rw [ct_s1 (c := md_u0 M0 y p) (t := t) (A := A) (decide_eq_true (by first | exact Or.inl ⟨by assumption, by assumption⟩ | exact Or.inr ⟨Int32.not_lt.mp (by assumption), Int32.not_le.mp (by assumption)⟩))]; exact hc9)
          | (rw [ct_s0 (c := md_u0 M0 y p) (t := t) (A := A) (decide_eq_false (by rintro (⟨a, b⟩ | ⟨a, b⟩) <;> first | exact absurd a (by assumption) | exact absurd b (by assumption) | exact absurd a (Int32.not_le.mpr (by assumption)) | exact absurd b (Int32.not_lt.mpr (by assumption))))]; exact hc9)
      · refine wa_iload dX12_under_111 rfl ?_
        refine wa_aload_n dX12_under_113 rfl rfl ?_
        refine wa_getI (q := (RX12, TX12, 50)) (ci := 12) (k := 27) dX12_under_114 rfl (by decide) wf_X12_239 hY.1 rfl ?_
        refine wa_icmp_gt (tgt := 138) dX12_under_117 (by decide) (fun hT117 => ?_) (fun hF117 => ?_)
        · refine wa_iconst (v := 0) dX12_under_138 (by decide) ?_
          refine wa_iadd dX12_under_139 ?_
          refine wa_istore_n dX12_under_140 (by decide) rfl rfl ?_
          refine wa_goto (tgt := 173) dX12_under_141 (by decide) ?_
          refine wa_iinc (v := nI (t + 1)) dX12_under_173 rfl (ni_i1 t) (by decide) rfl rfl ?_
          refine wa_goto (tgt := 31) dX12_under_176 (by decide) ?_
          refine wa_set0 6 ?_
          refine wa_set0 5 ?_
          first
            | (rw [ct_s1 (c := md_u0 M0 y p) (t := t) (A := A) (decide_eq_true (by first | exact Or.inl ⟨by assumption, by assumption⟩ | exact Or.inr ⟨Int32.not_lt.mp (by assumption), Int32.not_le.mp (by assumption)⟩))]; exact hc9)
            | (rw [ct_s0 (c := md_u0 M0 y p) (t := t) (A := A) (decide_eq_false (by rintro (⟨a, b⟩ | ⟨a, b⟩) <;> first | exact absurd a (by assumption) | exact absurd b (by assumption) | exact absurd a (Int32.not_le.mpr (by assumption)) | exact absurd b (Int32.not_lt.mpr (by assumption))))]; exact hc9)
        · refine wa_aload_n dX12_under_120 rfl rfl ?_
          refine wa_getR (q := (RX12, TX12, 50)) (ci := 12) (k := 35) dX12_under_121 rfl (by decide) wf_X12_79 hY.1 rfl (md_r35 hY) ?_
          refine wa_iload dX12_under_124 rfl ?_
          refine wa_ialdN dX12_under_126 (md_s35 hY) (Or.inl rfl) (by omega) (by decide) ?_
          refine wa_aload_n dX12_under_127 rfl rfl ?_
          refine wa_getI (q := (RX12, TX12, 50)) (ci := 12) (k := 27) dX12_under_128 rfl (by decide) wf_X12_239 hY.1 rfl ?_
          refine wa_icmp_le (tgt := 138) dX12_under_131 (by decide) (fun hT131 => ?_) (fun hF131 => ?_)
          · refine wa_iconst (v := 0) dX12_under_138 (by decide) ?_
            refine wa_iadd dX12_under_139 ?_
            refine wa_istore_n dX12_under_140 (by decide) rfl rfl ?_
            refine wa_goto (tgt := 173) dX12_under_141 (by decide) ?_
            refine wa_iinc (v := nI (t + 1)) dX12_under_173 rfl (ni_i1 t) (by decide) rfl rfl ?_
            refine wa_goto (tgt := 31) dX12_under_176 (by decide) ?_
            refine wa_set0 6 ?_
            refine wa_set0 5 ?_
            first
              | (rw [ct_s1 (c := md_u0 M0 y p) (t := t) (A := A) (decide_eq_true (by first | exact Or.inl ⟨by assumption, by assumption⟩ | exact Or.inr ⟨Int32.not_lt.mp (by assumption), Int32.not_le.mp (by assumption)⟩))]; exact hc9)
              | (rw [ct_s0 (c := md_u0 M0 y p) (t := t) (A := A) (decide_eq_false (by rintro (⟨a, b⟩ | ⟨a, b⟩) <;> first | exact absurd a (by assumption) | exact absurd b (by assumption) | exact absurd a (Int32.not_le.mpr (by assumption)) | exact absurd b (Int32.not_lt.mpr (by assumption))))]; exact hc9)
          · refine wa_iconst (v := 1) dX12_under_134 (by decide) ?_
            refine wa_goto (tgt := 139) dX12_under_135 (by decide) ?_
            refine wa_iadd dX12_under_139 ?_
            refine wa_istore_n dX12_under_140 (by decide) rfl rfl ?_
            refine wa_goto (tgt := 173) dX12_under_141 (by decide) ?_
            refine wa_iinc (v := nI (t + 1)) dX12_under_173 rfl (ni_i1 t) (by decide) rfl rfl ?_
            refine wa_goto (tgt := 31) dX12_under_176 (by decide) ?_
            refine wa_set0 6 ?_
            refine wa_set0 5 ?_
            first
              | (rw [ct_s1 (c := md_u0 M0 y p) (t := t) (A := A) (decide_eq_true (by first | exact Or.inl ⟨by assumption, by assumption⟩ | exact Or.inr ⟨Int32.not_lt.mp (by assumption), Int32.not_le.mp (by assumption)⟩))]; exact hc9)
              | (rw [ct_s0 (c := md_u0 M0 y p) (t := t) (A := A) (decide_eq_false (by rintro (⟨a, b⟩ | ⟨a, b⟩) <;> first | exact absurd a (by assumption) | exact absurd b (by assumption) | exact absurd a (Int32.not_le.mpr (by assumption)) | exact absurd b (Int32.not_lt.mpr (by assumption))))]; exact hc9)
  have lpT0 : ∀ (A p : Nat), p < P → wa_ 0 G jX12_under (d + 1) 0 0 Q 0 0 M0 179 [some (.ref y), some (.int (nI 0)), some (.int (nI (A + ct_ (md_u0 M0 y p) T))), some (.int (nI p)), some (.int (nI T)), none, none] [] → ∀ (r t : Nat), T - t = r → t ≤ T → wa_ 0 G jX12_under (d + 1) 0 0 Q 0 0 M0 31 [some (.ref y), some (.int (nI 0)), some (.int (nI (A + ct_ (md_u0 M0 y p) t))), some (.int (nI p)), some (.int (nI t)), none, none] [] := by
    intro A p hp hc8 r
    induction r with
    | zero =>
      intro t hr ht
      have htT : t = T := by omega
      subst htT
      refine wa_iload dX12_under_31 rfl ?_
      refine wa_aload_n dX12_under_33 rfl rfl ?_
      refine wa_getI (q := (RX12, TX12, 50)) (ci := 12) (k := 14) dX12_under_34 rfl (by decide) wf_X12_201 hY.1 rfl ?_
      rw [hT]
      refine wa_icmp_ge (tgt := 179) dX12_under_37 (by decide) (fun hT37 => ?_) (fun hF37 => absurd (nI_le (Nat.le_refl t) (by omega)) hF37)
      exact hc8
    | succ r ih =>
      intro t hr ht
      refine wa_iload dX12_under_31 rfl ?_
      refine wa_aload_n dX12_under_33 rfl rfl ?_
      refine wa_getI (q := (RX12, TX12, 50)) (ci := 12) (k := 14) dX12_under_34 rfl (by decide) wf_X12_201 hY.1 rfl ?_
      rw [hT]
      refine wa_icmp_ge (tgt := 179) dX12_under_37 (by decide) (fun hT37 => absurd hT37 (nI_ge (by omega) (by omega))) (fun hF37 => ?_)
      refine wa_bipush (v := 30) dX12_under_40 (by decide) ?_
      refine wa_iload_n dX12_under_42 rfl ?_
      refine wa_imul dX12_under_43 ?_
      refine wa_iload dX12_under_44 rfl ?_
      refine wa_iadd dX12_under_46 ?_
      rw [ix_30 p t]
      refine wa_istore dX12_under_47 (by decide) rfl rfl ?_
      refine wa_aload_n dX12_under_49 rfl rfl ?_
      refine wa_getR (q := (RX12, TX12, 50)) (ci := 12) (k := 36) dX12_under_50 rfl (by decide) wf_X12_82 hY.1 rfl (md_r36 hY) ?_
      refine wa_iload dX12_under_53 rfl ?_
      refine wa_ialdN dX12_under_55 (md_s36 hY) (Or.inl rfl) (by omega) (by decide) ?_
      refine wa_ldc dX12_under_56 wl_X12_249 ?_
      refine wa_icmp_ne (tgt := 66) dX12_under_58 (by decide) (fun hT58 => ?_) (fun hF58 => ?_)
      · refine wa_aload_n dX12_under_66 rfl rfl ?_
        refine wa_getR (q := (RX12, TX12, 50)) (ci := 12) (k := 36) dX12_under_67 rfl (by decide) wf_X12_82 hY.1 rfl (md_r36 hY) ?_
        refine wa_iload dX12_under_70 rfl ?_
        refine wa_ialdN dX12_under_72 (md_s36 hY) (Or.inl rfl) (by omega) (by decide) ?_
        refine wa_aload_n dX12_under_73 rfl rfl ?_
        refine wa_getR (q := (RX12, TX12, 50)) (ci := 12) (k := 28) dX12_under_74 rfl (by decide) wf_X12_58 hY.1 rfl (md_r28 hY) ?_
        refine wa_iload_n dX12_under_77 rfl ?_
        refine wa_ialdN dX12_under_78 (md_s28 hY) (Or.inl rfl) (by omega) (by decide) ?_
        refine wa_iadd dX12_under_79 ?_
        first | rw [show (1000000 : Int32) = md_hm M0 y p (30 * p + t) from (if_pos hF58).symm] | rw [show mm_I M0 (y + 22) (30 * p + t) + mm_I M0 (y + 14) p = md_hm M0 y p (30 * p + t) from (if_neg hT58).symm]
        refine wa_istore dX12_under_80 (by decide) rfl rfl ?_
        exact mid0 A p t hp (by omega) (ih (t + 1) (by omega) (by omega))
      · refine wa_ldc dX12_under_61 wl_X12_249 ?_
        refine wa_goto (tgt := 80) dX12_under_63 (by decide) ?_
        first | rw [show (1000000 : Int32) = md_hm M0 y p (30 * p + t) from (if_pos hF58).symm] | rw [show mm_I M0 (y + 22) (30 * p + t) + mm_I M0 (y + 14) p = md_hm M0 y p (30 * p + t) from (if_neg hT58).symm]
        refine wa_istore dX12_under_80 (by decide) rfl rfl ?_
        exact mid0 A p t hp (by omega) (ih (t + 1) (by omega) (by omega))
  have lpD0 : ∀ (A p : Nat), p < P → wa_ 0 G jX12_under (d + 1) 0 0 Q 0 0 M0 20 [some (.ref y), some (.int (nI 0)), some (.int (nI A)), some (.int (nI (p + 1))), none, none, none] [] → wa_ 0 G jX12_under (d + 1) 0 0 Q 0 0 M0 182 [some (.ref y), some (.int (nI 0)), some (.int (nI A)), some (.int (nI p)), some (.int (nI (30 * 0))), none, none] [] := by
    intro A p hp hc8
    refine wa_iload dX12_under_182 rfl ?_
    refine wa_aload_n dX12_under_184 rfl rfl ?_
    refine wa_getI (q := (RX12, TX12, 50)) (ci := 12) (k := 27) dX12_under_185 rfl (by decide) wf_X12_239 hY.1 rfl ?_
    refine wa_icmp_ge (tgt := 237) dX12_under_188 (by decide) (fun hT188 => ?_) (fun hF188 => ?_)
    · refine wa_iinc (v := nI (p + 1)) dX12_under_237 rfl (ni_i1 p) (by decide) rfl rfl ?_
      refine wa_goto (tgt := 20) dX12_under_240 (by decide) ?_
      refine wa_set0 4 ?_
      exact hc8
    · refine wa_iload_n dX12_under_191 rfl ?_
      refine wa_iconst (v := 2) dX12_under_192 (by decide) ?_
      refine wa_icmp_ne (tgt := 237) dX12_under_193 (by decide) (fun _ => ?_) (fun h9 => absurd h9 (by decide))
      refine wa_iinc (v := nI (p + 1)) dX12_under_237 rfl (ni_i1 p) (by decide) rfl rfl ?_
      refine wa_goto (tgt := 20) dX12_under_240 (by decide) ?_
      refine wa_set0 4 ?_
      exact hc8
  have lpP0 : Q (some (.int (nI (sm_ (fun q => ct_ (md_u0 M0 y q) T) P)))) M0 → ∀ (r p : Nat), P - p = r → p ≤ P → wa_ 0 G jX12_under (d + 1) 0 0 Q 0 0 M0 20 [some (.ref y), some (.int (nI 0)), some (.int (nI (sm_ (fun q => ct_ (md_u0 M0 y q) T) p))), some (.int (nI p)), none, none, none] [] := by
    intro hq r
    induction r with
    | zero =>
      intro p hr hp
      have hpP : p = P := by omega
      subst hpP
      refine wa_iload_n dX12_under_20 rfl ?_
      refine wa_aload_n dX12_under_21 rfl rfl ?_
      refine wa_getI (q := (RX12, TX12, 50)) (ci := 12) (k := 26) dX12_under_22 rfl (by decide) wf_X12_236 hY.1 rfl ?_
      rw [hP]
      refine wa_icmp_ge (tgt := 243) dX12_under_25 (by decide) (fun hT25 => ?_) (fun hF25 => absurd (nI_le (Nat.le_refl p) (by omega)) hF25)
      exact hfin _ _ hq
    | succ r ih =>
      intro p hr hp
      have hnext := ih (p + 1) (by omega) (by omega)
      refine wa_iload_n dX12_under_20 rfl ?_
      refine wa_aload_n dX12_under_21 rfl rfl ?_
      refine wa_getI (q := (RX12, TX12, 50)) (ci := 12) (k := 26) dX12_under_22 rfl (by decide) wf_X12_236 hY.1 rfl ?_
      rw [hP]
      refine wa_icmp_ge (tgt := 243) dX12_under_25 (by decide) (fun hT25 => absurd hT25 (nI_ge (by omega) (by omega))) (fun hF25 => ?_)
      refine wa_iconst (v := 0) dX12_under_28 (by decide) ?_
      refine wa_istore dX12_under_29 (by decide) rfl rfl ?_
      refine lpT0 (sm_ (fun q => ct_ (md_u0 M0 y q) T) p) p (by omega) ?_ T 0 (by omega) (by omega)
      refine wa_iconst (v := 0) dX12_under_179 (by decide) ?_
      refine wa_istore dX12_under_180 (by decide) rfl rfl ?_
      exact lpD0 _ p (by omega) hnext
  have mid1 : ∀ (A p t : Nat), p < P → t < T → wa_ 0 G jX12_under (d + 1) 0 0 Q 0 0 M0 31 [some (.ref y), some (.int (nI 1)), some (.int (nI (A + ct_ (md_u1 M0 y p) (t + 1)))), some (.int (nI p)), some (.int (nI (t + 1))), none, none] [] → wa_ 0 G jX12_under (d + 1) 0 0 Q 0 0 M0 82 [some (.ref y), some (.int (nI 1)), some (.int (nI (A + ct_ (md_u1 M0 y p) t))), some (.int (nI p)), some (.int (nI t)), some (.int (nI (30 * p + t))), some (.int (md_hm M0 y p (30 * p + t)))] [] := by
    intro A p t hp ht hc9
    refine wa_iload_n dX12_under_82 rfl ?_
    refine wa_if_ne (tgt := 144) dX12_under_83 (by decide) (fun _ => ?_) (fun h9 => absurd h9 (by decide))
    refine wa_iload_n dX12_under_144 rfl ?_
    refine wa_iconst (v := 1) dX12_under_145 (by decide) ?_
    refine wa_icmp_ne (tgt := 173) dX12_under_146 (by decide) (fun h9 => absurd h9 (by decide)) (fun _ => ?_)
    refine wa_iload_n dX12_under_149 rfl ?_
    refine wa_iload dX12_under_150 rfl ?_
    refine wa_ldc dX12_under_152 wl_X12_249 ?_
    refine wa_icmp_eq (tgt := 170) dX12_under_154 (by decide) (fun hT154 => ?_) (fun hF154 => ?_)
    · refine wa_iconst (v := 0) dX12_under_170 (by decide) ?_
      refine wa_iadd dX12_under_171 ?_
      refine wa_istore_n dX12_under_172 (by decide) rfl rfl ?_
      refine wa_iinc (v := nI (t + 1)) dX12_under_173 rfl (ni_i1 t) (by decide) rfl rfl ?_
      refine wa_goto (tgt := 31) dX12_under_176 (by decide) ?_
      refine wa_set0 6 ?_
      refine wa_set0 5 ?_
      first
        | (rw [ct_s1 (c := md_u1 M0 y p) (t := t) (A := A) (decide_eq_true ⟨by assumption, Int32.not_le.mp (by assumption)⟩)]; exact hc9)
        | (rw [ct_s0 (c := md_u1 M0 y p) (t := t) (A := A) (decide_eq_false (by rintro ⟨a, b⟩; first | exact absurd (by assumption) a | exact absurd b (Int32.not_lt.mpr (by assumption))))]; exact hc9)
    · refine wa_iload dX12_under_157 rfl ?_
      refine wa_aload_n dX12_under_159 rfl rfl ?_
      refine wa_getI (q := (RX12, TX12, 50)) (ci := 12) (k := 27) dX12_under_160 rfl (by decide) wf_X12_239 hY.1 rfl ?_
      refine wa_icmp_le (tgt := 170) dX12_under_163 (by decide) (fun hT163 => ?_) (fun hF163 => ?_)
      · refine wa_iconst (v := 0) dX12_under_170 (by decide) ?_
        refine wa_iadd dX12_under_171 ?_
        refine wa_istore_n dX12_under_172 (by decide) rfl rfl ?_
        refine wa_iinc (v := nI (t + 1)) dX12_under_173 rfl (ni_i1 t) (by decide) rfl rfl ?_
        refine wa_goto (tgt := 31) dX12_under_176 (by decide) ?_
        refine wa_set0 6 ?_
        refine wa_set0 5 ?_
        first
          | (rw [ct_s1 (c := md_u1 M0 y p) (t := t) (A := A) (decide_eq_true ⟨by assumption, Int32.not_le.mp (by assumption)⟩)]; exact hc9)
          | (rw [ct_s0 (c := md_u1 M0 y p) (t := t) (A := A) (decide_eq_false (by rintro ⟨a, b⟩; first | exact absurd (by assumption) a | exact absurd b (Int32.not_lt.mpr (by assumption))))]; exact hc9)
      · refine wa_iconst (v := 1) dX12_under_166 (by decide) ?_
        refine wa_goto (tgt := 171) dX12_under_167 (by decide) ?_
        refine wa_iadd dX12_under_171 ?_
        refine wa_istore_n dX12_under_172 (by decide) rfl rfl ?_
        refine wa_iinc (v := nI (t + 1)) dX12_under_173 rfl (ni_i1 t) (by decide) rfl rfl ?_
        refine wa_goto (tgt := 31) dX12_under_176 (by decide) ?_
        refine wa_set0 6 ?_
        refine wa_set0 5 ?_
        first
          | (rw [ct_s1 (c := md_u1 M0 y p) (t := t) (A := A) (decide_eq_true ⟨by assumption, Int32.not_le.mp (by assumption)⟩)]; exact hc9)
          | (rw [ct_s0 (c := md_u1 M0 y p) (t := t) (A := A) (decide_eq_false (by rintro ⟨a, b⟩; first | exact absurd (by assumption) a | exact absurd b (Int32.not_lt.mpr (by assumption))))]; exact hc9)
  have lpT1 : ∀ (A p : Nat), p < P → wa_ 0 G jX12_under (d + 1) 0 0 Q 0 0 M0 179 [some (.ref y), some (.int (nI 1)), some (.int (nI (A + ct_ (md_u1 M0 y p) T))), some (.int (nI p)), some (.int (nI T)), none, none] [] → ∀ (r t : Nat), T - t = r → t ≤ T → wa_ 0 G jX12_under (d + 1) 0 0 Q 0 0 M0 31 [some (.ref y), some (.int (nI 1)), some (.int (nI (A + ct_ (md_u1 M0 y p) t))), some (.int (nI p)), some (.int (nI t)), none, none] [] := by
    intro A p hp hc8 r
    induction r with
    | zero =>
      intro t hr ht
      have htT : t = T := by omega
      subst htT
      refine wa_iload dX12_under_31 rfl ?_
      refine wa_aload_n dX12_under_33 rfl rfl ?_
      refine wa_getI (q := (RX12, TX12, 50)) (ci := 12) (k := 14) dX12_under_34 rfl (by decide) wf_X12_201 hY.1 rfl ?_
      rw [hT]
      refine wa_icmp_ge (tgt := 179) dX12_under_37 (by decide) (fun hT37 => ?_) (fun hF37 => absurd (nI_le (Nat.le_refl t) (by omega)) hF37)
      exact hc8
    | succ r ih =>
      intro t hr ht
      refine wa_iload dX12_under_31 rfl ?_
      refine wa_aload_n dX12_under_33 rfl rfl ?_
      refine wa_getI (q := (RX12, TX12, 50)) (ci := 12) (k := 14) dX12_under_34 rfl (by decide) wf_X12_201 hY.1 rfl ?_
      rw [hT]
      refine wa_icmp_ge (tgt := 179) dX12_under_37 (by decide) (fun hT37 => absurd hT37 (nI_ge (by omega) (by omega))) (fun hF37 => ?_)
      refine wa_bipush (v := 30) dX12_under_40 (by decide) ?_
      refine wa_iload_n dX12_under_42 rfl ?_
      refine wa_imul dX12_under_43 ?_
      refine wa_iload dX12_under_44 rfl ?_
      refine wa_iadd dX12_under_46 ?_
      rw [ix_30 p t]
      refine wa_istore dX12_under_47 (by decide) rfl rfl ?_
      refine wa_aload_n dX12_under_49 rfl rfl ?_
      refine wa_getR (q := (RX12, TX12, 50)) (ci := 12) (k := 36) dX12_under_50 rfl (by decide) wf_X12_82 hY.1 rfl (md_r36 hY) ?_
      refine wa_iload dX12_under_53 rfl ?_
      refine wa_ialdN dX12_under_55 (md_s36 hY) (Or.inl rfl) (by omega) (by decide) ?_
      refine wa_ldc dX12_under_56 wl_X12_249 ?_
      refine wa_icmp_ne (tgt := 66) dX12_under_58 (by decide) (fun hT58 => ?_) (fun hF58 => ?_)
      · refine wa_aload_n dX12_under_66 rfl rfl ?_
        refine wa_getR (q := (RX12, TX12, 50)) (ci := 12) (k := 36) dX12_under_67 rfl (by decide) wf_X12_82 hY.1 rfl (md_r36 hY) ?_
        refine wa_iload dX12_under_70 rfl ?_
        refine wa_ialdN dX12_under_72 (md_s36 hY) (Or.inl rfl) (by omega) (by decide) ?_
        refine wa_aload_n dX12_under_73 rfl rfl ?_
        refine wa_getR (q := (RX12, TX12, 50)) (ci := 12) (k := 28) dX12_under_74 rfl (by decide) wf_X12_58 hY.1 rfl (md_r28 hY) ?_
        refine wa_iload_n dX12_under_77 rfl ?_
        refine wa_ialdN dX12_under_78 (md_s28 hY) (Or.inl rfl) (by omega) (by decide) ?_
        refine wa_iadd dX12_under_79 ?_
        first | rw [show (1000000 : Int32) = md_hm M0 y p (30 * p + t) from (if_pos hF58).symm] | rw [show mm_I M0 (y + 22) (30 * p + t) + mm_I M0 (y + 14) p = md_hm M0 y p (30 * p + t) from (if_neg hT58).symm]
        refine wa_istore dX12_under_80 (by decide) rfl rfl ?_
        exact mid1 A p t hp (by omega) (ih (t + 1) (by omega) (by omega))
      · refine wa_ldc dX12_under_61 wl_X12_249 ?_
        refine wa_goto (tgt := 80) dX12_under_63 (by decide) ?_
        first | rw [show (1000000 : Int32) = md_hm M0 y p (30 * p + t) from (if_pos hF58).symm] | rw [show mm_I M0 (y + 22) (30 * p + t) + mm_I M0 (y + 14) p = md_hm M0 y p (30 * p + t) from (if_neg hT58).symm]
        refine wa_istore dX12_under_80 (by decide) rfl rfl ?_
        exact mid1 A p t hp (by omega) (ih (t + 1) (by omega) (by omega))
  have lpD1 : ∀ (A p : Nat), p < P → wa_ 0 G jX12_under (d + 1) 0 0 Q 0 0 M0 20 [some (.ref y), some (.int (nI 1)), some (.int (nI A)), some (.int (nI (p + 1))), none, none, none] [] → wa_ 0 G jX12_under (d + 1) 0 0 Q 0 0 M0 182 [some (.ref y), some (.int (nI 1)), some (.int (nI A)), some (.int (nI p)), some (.int (nI (30 * 0))), none, none] [] := by
    intro A p hp hc8
    refine wa_iload dX12_under_182 rfl ?_
    refine wa_aload_n dX12_under_184 rfl rfl ?_
    refine wa_getI (q := (RX12, TX12, 50)) (ci := 12) (k := 27) dX12_under_185 rfl (by decide) wf_X12_239 hY.1 rfl ?_
    refine wa_icmp_ge (tgt := 237) dX12_under_188 (by decide) (fun hT188 => ?_) (fun hF188 => ?_)
    · refine wa_iinc (v := nI (p + 1)) dX12_under_237 rfl (ni_i1 p) (by decide) rfl rfl ?_
      refine wa_goto (tgt := 20) dX12_under_240 (by decide) ?_
      refine wa_set0 4 ?_
      exact hc8
    · refine wa_iload_n dX12_under_191 rfl ?_
      refine wa_iconst (v := 2) dX12_under_192 (by decide) ?_
      refine wa_icmp_ne (tgt := 237) dX12_under_193 (by decide) (fun _ => ?_) (fun h9 => absurd h9 (by decide))
      refine wa_iinc (v := nI (p + 1)) dX12_under_237 rfl (ni_i1 p) (by decide) rfl rfl ?_
      refine wa_goto (tgt := 20) dX12_under_240 (by decide) ?_
      refine wa_set0 4 ?_
      exact hc8
  have lpP1 : Q (some (.int (nI (sm_ (fun q => ct_ (md_u1 M0 y q) T) P)))) M0 → ∀ (r p : Nat), P - p = r → p ≤ P → wa_ 0 G jX12_under (d + 1) 0 0 Q 0 0 M0 20 [some (.ref y), some (.int (nI 1)), some (.int (nI (sm_ (fun q => ct_ (md_u1 M0 y q) T) p))), some (.int (nI p)), none, none, none] [] := by
    intro hq r
    induction r with
    | zero =>
      intro p hr hp
      have hpP : p = P := by omega
      subst hpP
      refine wa_iload_n dX12_under_20 rfl ?_
      refine wa_aload_n dX12_under_21 rfl rfl ?_
      refine wa_getI (q := (RX12, TX12, 50)) (ci := 12) (k := 26) dX12_under_22 rfl (by decide) wf_X12_236 hY.1 rfl ?_
      rw [hP]
      refine wa_icmp_ge (tgt := 243) dX12_under_25 (by decide) (fun hT25 => ?_) (fun hF25 => absurd (nI_le (Nat.le_refl p) (by omega)) hF25)
      exact hfin _ _ hq
    | succ r ih =>
      intro p hr hp
      have hnext := ih (p + 1) (by omega) (by omega)
      refine wa_iload_n dX12_under_20 rfl ?_
      refine wa_aload_n dX12_under_21 rfl rfl ?_
      refine wa_getI (q := (RX12, TX12, 50)) (ci := 12) (k := 26) dX12_under_22 rfl (by decide) wf_X12_236 hY.1 rfl ?_
      rw [hP]
      refine wa_icmp_ge (tgt := 243) dX12_under_25 (by decide) (fun hT25 => absurd hT25 (nI_ge (by omega) (by omega))) (fun hF25 => ?_)
      refine wa_iconst (v := 0) dX12_under_28 (by decide) ?_
      refine wa_istore dX12_under_29 (by decide) rfl rfl ?_
      refine lpT1 (sm_ (fun q => ct_ (md_u1 M0 y q) T) p) p (by omega) ?_ T 0 (by omega) (by omega)
      refine wa_iconst (v := 0) dX12_under_179 (by decide) ?_
      refine wa_istore dX12_under_180 (by decide) rfl rfl ?_
      exact lpD1 _ p (by omega) hnext
  have mid2 : ∀ (A p t : Nat), p < P → t < T → wa_ 0 G jX12_under (d + 1) 0 0 Q 0 0 M0 31 [some (.ref y), some (.int (nI 2)), some (.int (nI A)), some (.int (nI p)), some (.int (nI (t + 1))), none, none] [] → wa_ 0 G jX12_under (d + 1) 0 0 Q 0 0 M0 82 [some (.ref y), some (.int (nI 2)), some (.int (nI A)), some (.int (nI p)), some (.int (nI t)), some (.int (nI (30 * p + t))), some (.int (md_hm M0 y p (30 * p + t)))] [] := by
    intro A p t hp ht hc9
    refine wa_iload_n dX12_under_82 rfl ?_
    refine wa_if_ne (tgt := 144) dX12_under_83 (by decide) (fun _ => ?_) (fun h9 => absurd h9 (by decide))
    refine wa_iload_n dX12_under_144 rfl ?_
    refine wa_iconst (v := 1) dX12_under_145 (by decide) ?_
    refine wa_icmp_ne (tgt := 173) dX12_under_146 (by decide) (fun _ => ?_) (fun h9 => absurd h9 (by decide))
    refine wa_iinc (v := nI (t + 1)) dX12_under_173 rfl (ni_i1 t) (by decide) rfl rfl ?_
    refine wa_goto (tgt := 31) dX12_under_176 (by decide) ?_
    refine wa_set0 6 ?_
    refine wa_set0 5 ?_
    exact hc9
  have lpT2 : ∀ (A p : Nat), p < P → wa_ 0 G jX12_under (d + 1) 0 0 Q 0 0 M0 179 [some (.ref y), some (.int (nI 2)), some (.int (nI A)), some (.int (nI p)), some (.int (nI T)), none, none] [] → ∀ (r t : Nat), T - t = r → t ≤ T → wa_ 0 G jX12_under (d + 1) 0 0 Q 0 0 M0 31 [some (.ref y), some (.int (nI 2)), some (.int (nI A)), some (.int (nI p)), some (.int (nI t)), none, none] [] := by
    intro A p hp hc8 r
    induction r with
    | zero =>
      intro t hr ht
      have htT : t = T := by omega
      subst htT
      refine wa_iload dX12_under_31 rfl ?_
      refine wa_aload_n dX12_under_33 rfl rfl ?_
      refine wa_getI (q := (RX12, TX12, 50)) (ci := 12) (k := 14) dX12_under_34 rfl (by decide) wf_X12_201 hY.1 rfl ?_
      rw [hT]
      refine wa_icmp_ge (tgt := 179) dX12_under_37 (by decide) (fun hT37 => ?_) (fun hF37 => absurd (nI_le (Nat.le_refl t) (by omega)) hF37)
      exact hc8
    | succ r ih =>
      intro t hr ht
      refine wa_iload dX12_under_31 rfl ?_
      refine wa_aload_n dX12_under_33 rfl rfl ?_
      refine wa_getI (q := (RX12, TX12, 50)) (ci := 12) (k := 14) dX12_under_34 rfl (by decide) wf_X12_201 hY.1 rfl ?_
      rw [hT]
      refine wa_icmp_ge (tgt := 179) dX12_under_37 (by decide) (fun hT37 => absurd hT37 (nI_ge (by omega) (by omega))) (fun hF37 => ?_)
      refine wa_bipush (v := 30) dX12_under_40 (by decide) ?_
      refine wa_iload_n dX12_under_42 rfl ?_
      refine wa_imul dX12_under_43 ?_
      refine wa_iload dX12_under_44 rfl ?_
      refine wa_iadd dX12_under_46 ?_
      rw [ix_30 p t]
      refine wa_istore dX12_under_47 (by decide) rfl rfl ?_
      refine wa_aload_n dX12_under_49 rfl rfl ?_
      refine wa_getR (q := (RX12, TX12, 50)) (ci := 12) (k := 36) dX12_under_50 rfl (by decide) wf_X12_82 hY.1 rfl (md_r36 hY) ?_
      refine wa_iload dX12_under_53 rfl ?_
      refine wa_ialdN dX12_under_55 (md_s36 hY) (Or.inl rfl) (by omega) (by decide) ?_
      refine wa_ldc dX12_under_56 wl_X12_249 ?_
      refine wa_icmp_ne (tgt := 66) dX12_under_58 (by decide) (fun hT58 => ?_) (fun hF58 => ?_)
      · refine wa_aload_n dX12_under_66 rfl rfl ?_
        refine wa_getR (q := (RX12, TX12, 50)) (ci := 12) (k := 36) dX12_under_67 rfl (by decide) wf_X12_82 hY.1 rfl (md_r36 hY) ?_
        refine wa_iload dX12_under_70 rfl ?_
        refine wa_ialdN dX12_under_72 (md_s36 hY) (Or.inl rfl) (by omega) (by decide) ?_
        refine wa_aload_n dX12_under_73 rfl rfl ?_
        refine wa_getR (q := (RX12, TX12, 50)) (ci := 12) (k := 28) dX12_under_74 rfl (by decide) wf_X12_58 hY.1 rfl (md_r28 hY) ?_
        refine wa_iload_n dX12_under_77 rfl ?_
        refine wa_ialdN dX12_under_78 (md_s28 hY) (Or.inl rfl) (by omega) (by decide) ?_
        refine wa_iadd dX12_under_79 ?_
        first | rw [show (1000000 : Int32) = md_hm M0 y p (30 * p + t) from (if_pos hF58).symm] | rw [show mm_I M0 (y + 22) (30 * p + t) + mm_I M0 (y + 14) p = md_hm M0 y p (30 * p + t) from (if_neg hT58).symm]
        refine wa_istore dX12_under_80 (by decide) rfl rfl ?_
        exact mid2 A p t hp (by omega) (ih (t + 1) (by omega) (by omega))
      · refine wa_ldc dX12_under_61 wl_X12_249 ?_
        refine wa_goto (tgt := 80) dX12_under_63 (by decide) ?_
        first | rw [show (1000000 : Int32) = md_hm M0 y p (30 * p + t) from (if_pos hF58).symm] | rw [show mm_I M0 (y + 22) (30 * p + t) + mm_I M0 (y + 14) p = md_hm M0 y p (30 * p + t) from (if_neg hT58).symm]
        refine wa_istore dX12_under_80 (by decide) rfl rfl ?_
        exact mid2 A p t hp (by omega) (ih (t + 1) (by omega) (by omega))
  have lpD2 : ∀ (A p : Nat), p < P → wa_ 0 G jX12_under (d + 1) 0 0 Q 0 0 M0 20 [some (.ref y), some (.int (nI 2)), some (.int (nI (A + ct_ (md_u2 M0 y p) ((td + 29) / 30)))), some (.int (nI (p + 1))), none, none, none] [] → ∀ (r i : Nat), (td + 29) / 30 - i = r → i ≤ (td + 29) / 30 → wa_ 0 G jX12_under (d + 1) 0 0 Q 0 0 M0 182 [some (.ref y), some (.int (nI 2)), some (.int (nI (A + ct_ (md_u2 M0 y p) i))), some (.int (nI p)), some (.int (nI (30 * i))), none, none] [] := by
    intro A p hp hc8 r
    induction r with
    | zero =>
      intro i hr hi
      have hiT : i = (td + 29) / 30 := by omega
      refine wa_iload dX12_under_182 rfl ?_
      refine wa_aload_n dX12_under_184 rfl rfl ?_
      refine wa_getI (q := (RX12, TX12, 50)) (ci := 12) (k := 27) dX12_under_185 rfl (by decide) wf_X12_239 hY.1 rfl ?_
      rw [h27]
      refine wa_icmp_ge (tgt := 237) dX12_under_188 (by decide) (fun hT188 => ?_) (fun hF188 => absurd (nI_le (by omega) (by omega)) hF188)
      refine wa_iinc (v := nI (p + 1)) dX12_under_237 rfl (ni_i1 p) (by decide) rfl rfl ?_
      refine wa_goto (tgt := 20) dX12_under_240 (by decide) ?_
      refine wa_set0 4 ?_
      rw [hiT]
      exact hc8
    | succ r ih =>
      intro i hr hi
      refine wa_iload dX12_under_182 rfl ?_
      refine wa_aload_n dX12_under_184 rfl rfl ?_
      refine wa_getI (q := (RX12, TX12, 50)) (ci := 12) (k := 27) dX12_under_185 rfl (by decide) wf_X12_239 hY.1 rfl ?_
      rw [h27]
      refine wa_icmp_ge (tgt := 237) dX12_under_188 (by decide) (fun hT188 => absurd hT188 (nI_ge (by omega) (by omega))) (fun hF188 => ?_)
      refine wa_iload_n dX12_under_191 rfl ?_
      refine wa_iconst (v := 2) dX12_under_192 (by decide) ?_
      refine wa_icmp_ne (tgt := 237) dX12_under_193 (by decide) (fun h9 => absurd h9 (by decide)) (fun _ => ?_)
      refine wa_iload_n dX12_under_196 rfl ?_
      refine wa_iload dX12_under_197 rfl ?_
      refine wa_aload_n dX12_under_199 rfl rfl ?_
      refine wa_getR (q := (RX12, TX12, 50)) (ci := 12) (k := 29) dX12_under_200 rfl (by decide) wf_X12_61 hY.1 rfl (md_r29 hY) ?_
      refine wa_iload_n dX12_under_203 rfl ?_
      refine wa_ialdN dX12_under_204 (md_s29 hY) (Or.inl rfl) (by omega) (by decide) ?_
      refine wa_icmp_lt (tgt := 228) dX12_under_205 (by decide) (fun hT205 => ?_) (fun hF205 => ?_)
      · refine wa_iconst (v := 0) dX12_under_228 (by decide) ?_
        refine wa_iadd dX12_under_229 ?_
        refine wa_istore_n dX12_under_230 (by decide) rfl rfl ?_
        refine wa_iinc (v := nI (30 * (i + 1))) dX12_under_231 rfl (by rw [show Int32.ofInt 30 = nI 30 from rfl, nI_add]; exact congrArg nI (by omega)) (by decide) rfl rfl ?_
        refine wa_goto (tgt := 182) dX12_under_234 (by decide) ?_
        first
          | (rw [ct_s1 (c := md_u2 M0 y p) (t := i) (A := A) (decide_eq_true ⟨Int32.not_lt.mp (by assumption), Int32.not_le.mp (by assumption)⟩)]; exact ih (i + 1) (by omega) (by omega))
          | (rw [ct_s0 (c := md_u2 M0 y p) (t := i) (A := A) (decide_eq_false (by rintro ⟨a, b⟩; first | exact absurd a (Int32.not_le.mpr (by assumption)) | exact absurd b (Int32.not_lt.mpr (by assumption))))]; exact ih (i + 1) (by omega) (by omega))
      · refine wa_iload dX12_under_208 rfl ?_
        refine wa_aload_n dX12_under_210 rfl rfl ?_
        refine wa_getR (q := (RX12, TX12, 50)) (ci := 12) (k := 28) dX12_under_211 rfl (by decide) wf_X12_58 hY.1 rfl (md_r28 hY) ?_
        refine wa_iload_n dX12_under_214 rfl ?_
        refine wa_ialdN dX12_under_215 (md_s28 hY) (Or.inl rfl) (by omega) (by decide) ?_
        refine wa_iadd dX12_under_216 ?_
        refine wa_aload_n dX12_under_217 rfl rfl ?_
        refine wa_getI (q := (RX12, TX12, 50)) (ci := 12) (k := 27) dX12_under_218 rfl (by decide) wf_X12_239 hY.1 rfl ?_
        refine wa_icmp_le (tgt := 228) dX12_under_221 (by decide) (fun hT221 => ?_) (fun hF221 => ?_)
        · refine wa_iconst (v := 0) dX12_under_228 (by decide) ?_
          refine wa_iadd dX12_under_229 ?_
          refine wa_istore_n dX12_under_230 (by decide) rfl rfl ?_
          refine wa_iinc (v := nI (30 * (i + 1))) dX12_under_231 rfl (by rw [show Int32.ofInt 30 = nI 30 from rfl, nI_add]; exact congrArg nI (by omega)) (by decide) rfl rfl ?_
          refine wa_goto (tgt := 182) dX12_under_234 (by decide) ?_
          first
            | (rw [ct_s1 (c := md_u2 M0 y p) (t := i) (A := A) (decide_eq_true ⟨Int32.not_lt.mp (by assumption), Int32.not_le.mp (by assumption)⟩)]; exact ih (i + 1) (by omega) (by omega))
            | (rw [ct_s0 (c := md_u2 M0 y p) (t := i) (A := A) (decide_eq_false (by rintro ⟨a, b⟩; first | exact absurd a (Int32.not_le.mpr (by assumption)) | exact absurd b (Int32.not_lt.mpr (by assumption))))]; exact ih (i + 1) (by omega) (by omega))
        · refine wa_iconst (v := 1) dX12_under_224 (by decide) ?_
          refine wa_goto (tgt := 229) dX12_under_225 (by decide) ?_
          refine wa_iadd dX12_under_229 ?_
          refine wa_istore_n dX12_under_230 (by decide) rfl rfl ?_
          refine wa_iinc (v := nI (30 * (i + 1))) dX12_under_231 rfl (by rw [show Int32.ofInt 30 = nI 30 from rfl, nI_add]; exact congrArg nI (by omega)) (by decide) rfl rfl ?_
          refine wa_goto (tgt := 182) dX12_under_234 (by decide) ?_
          first
            | (rw [ct_s1 (c := md_u2 M0 y p) (t := i) (A := A) (decide_eq_true ⟨Int32.not_lt.mp (by assumption), Int32.not_le.mp (by assumption)⟩)]; exact ih (i + 1) (by omega) (by omega))
            | (rw [ct_s0 (c := md_u2 M0 y p) (t := i) (A := A) (decide_eq_false (by rintro ⟨a, b⟩; first | exact absurd a (Int32.not_le.mpr (by assumption)) | exact absurd b (Int32.not_lt.mpr (by assumption))))]; exact ih (i + 1) (by omega) (by omega))
  have lpP2 : Q (some (.int (nI (sm_ (fun q => ct_ (md_u2 M0 y q) ((td + 29) / 30)) P)))) M0 → ∀ (r p : Nat), P - p = r → p ≤ P → wa_ 0 G jX12_under (d + 1) 0 0 Q 0 0 M0 20 [some (.ref y), some (.int (nI 2)), some (.int (nI (sm_ (fun q => ct_ (md_u2 M0 y q) ((td + 29) / 30)) p))), some (.int (nI p)), none, none, none] [] := by
    intro hq r
    induction r with
    | zero =>
      intro p hr hp
      have hpP : p = P := by omega
      subst hpP
      refine wa_iload_n dX12_under_20 rfl ?_
      refine wa_aload_n dX12_under_21 rfl rfl ?_
      refine wa_getI (q := (RX12, TX12, 50)) (ci := 12) (k := 26) dX12_under_22 rfl (by decide) wf_X12_236 hY.1 rfl ?_
      rw [hP]
      refine wa_icmp_ge (tgt := 243) dX12_under_25 (by decide) (fun hT25 => ?_) (fun hF25 => absurd (nI_le (Nat.le_refl p) (by omega)) hF25)
      exact hfin _ _ hq
    | succ r ih =>
      intro p hr hp
      have hnext := ih (p + 1) (by omega) (by omega)
      refine wa_iload_n dX12_under_20 rfl ?_
      refine wa_aload_n dX12_under_21 rfl rfl ?_
      refine wa_getI (q := (RX12, TX12, 50)) (ci := 12) (k := 26) dX12_under_22 rfl (by decide) wf_X12_236 hY.1 rfl ?_
      rw [hP]
      refine wa_icmp_ge (tgt := 243) dX12_under_25 (by decide) (fun hT25 => absurd hT25 (nI_ge (by omega) (by omega))) (fun hF25 => ?_)
      refine wa_iconst (v := 0) dX12_under_28 (by decide) ?_
      refine wa_istore dX12_under_29 (by decide) rfl rfl ?_
      refine lpT2 (sm_ (fun q => ct_ (md_u2 M0 y q) ((td + 29) / 30)) p) p (by omega) ?_ T 0 (by omega) (by omega)
      refine wa_iconst (v := 0) dX12_under_179 (by decide) ?_
      refine wa_istore dX12_under_180 (by decide) rfl rfl ?_
      exact lpD2 _ p (by omega) hnext ((td + 29) / 30) 0 (by omega) (by omega)
  refine wa_iload_n dX12_under_5 rfl ?_
  refine wa_iconst (v := 0) dX12_under_6 (by decide) ?_
  refine wa_iconst (v := 2) dX12_under_7 (by decide) ?_
  refine wa_callS (As := [.int w, .int 0, .int 2]) dX12_under_8 lk_X12_229 rfl rfl (Nat.le_of_ble_eq_true rfl) (Nat.le_of_eq (Nat.zero_add _)) (Nat.le_of_eq (Nat.zero_add _)) (k_X12_in w 0 2 (fun ha hb => ?_) (fun ha => ?_))
  · refine wa_if_ne (tgt := 16) dX12_under_11 (by decide) (fun _ => ?_) (fun h9 => absurd h9 (by decide))
    refine wa_iconst (v := 0) dX12_under_16 (by decide) ?_
    refine wa_istore_n dX12_under_17 (by decide) rfl rfl ?_
    refine wa_iconst (v := 0) dX12_under_18 (by decide) ?_
    refine wa_istore_n dX12_under_19 (by decide) rfl rfl ?_
    obtain ⟨j, hj, rfl⟩ := ix_in (n := 2) rfl ha hb
    rcases (by omega : j = 0 ∨ j = 1 ∨ j = 2) with rfl | rfl | rfl
    · exact lpP0 (h0 rfl) P 0 (by omega) (by omega)
    · exact lpP1 (h1 rfl) P 0 (by omega) (by omega)
    · exact lpP2 (h2 rfl) P 0 (by omega) (by omega)
  · refine wa_if_ne (tgt := 16) dX12_under_11 (by decide) (fun h9 => absurd h9 (by decide)) (fun _ => ?_)
    refine wa_iconst (v := -1) dX12_under_14 (by decide) ?_
    exact wa_iret dX12_under_15 rfl (hN ha)
