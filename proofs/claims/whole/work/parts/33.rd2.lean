theorem pn_m1 {k : Int32} (h : pn_ k = 0) : ¬ k - 8 = -1 ∧ ¬ k = 12 := by
  unfold pn_ at h
  split at h
  · exact absurd h (by decide)
  · split at h
    · rename_i hk
      rcases hk with e | e | e | e <;> (subst e; decide)
    · exact absurd h (by decide)

theorem k_X12_readTerm {G : mm_G} {d : Nat} {Q : Option Value → mm_M → Prop} {M : mm_M} {y i l c : Nat} {b : Nat → Int32} {n m : Nat} {K L V : Nat → Int32} {P : Nat → Nat} (f : Nat) (hcs : G.2.2.2.1 3 = .int 1) (hsf : G.2.2.2.1 6 = va_rn f) (hs : stm_ b n m K L V P) (hi : i ≤ m) (hr : rat_ b n K L V P M y (i)) (hl : l < 372) (hc4 : c ≤ 4) (hc : mm_I M (y + 7) l = nI c)
    (hF : ∀ (q : Int32) (j : Nat) (M' : mm_M), ps_term K V c i = .inl (q, j) → pfx_ (xm_ y l c) M M' y → spd_ M' y q (L j) → Q (some (.retAddr (y + 1))) M')
    (hO : ∀ (t : ps_T) (j : Nat) (M' : mm_M), ps_term K V c i = .inr (t, j) → c < 4 → j ≤ m → pfx_ (xm_ y l c) M M' y → rat_ b n K L V P M' y (j) → mm_I M' (y + 7) l = nI (c + 1) → rm_ M' y (4 * l + c) t → Q none M') : mx_ G jX12_readTerm (d + 7) 0 0 [.ref y, .int (nI l)] M Q := by
  refine mx_of [some (.ref y), some (.int (nI l)), none, none] (by decide) rfl (Nat.le_of_ble_eq_true rfl) ?_
  have seg3 : c < 4 → ∀ (w : Int32) (t : ps_T) (j : Nat) (M3 : mm_M), ps_term K V c i = .inr (t, j) → j ≤ m → pfx_ (xm_ y l c) M M3 y → rat_ b n K L V P M3 y (j) → mm_I M3 (y + 7) l = nI c → rm_ M3 y (4 * l + c) t → wa_ 2 G jX12_readTerm (d + 7) 0 0 Q 0 0 M3 170 [some (.ref y), some (.int (nI l)), some (.int w), some (.int (nI (4 * l + c)))] [] := by
    intro c4 w t j M3 he hj hp h3 h6 ht
    have hY3 := h3.1
    refine wa_aload_n dX12_readTerm_170 rfl rfl ?_
    refine wa_getR (q := (RX12, TX12, 50)) (ci := 12) (k := 19) dX12_readTerm_171 rfl (by decide) wf_X12_37 hY3.1 rfl (md_r19 hY3) ?_
    refine wa_iload_n dX12_readTerm_174 rfl ?_
    refine wa_dup2 dX12_readTerm_175 rfl rfl ?_
    refine wa_ialdN dX12_readTerm_176 (md_s19 hY3) (Or.inl rfl) (by omega) (by decide) ?_
    rw [h6]
    refine wa_iconst (v := 1) dX12_readTerm_177 (by decide) ?_
    refine wa_iadd dX12_readTerm_178 ?_
    rw [show nI c + 1 = nI (c + 1) from ni_i1 c]
    refine wa_iastN dX12_readTerm_179 (md_s19 hY3) (by omega) (by decide) ?_
    exact wx_of0 (wa_vret dX12_readTerm_180 rfl ⟨hO t j _ he c4 hj (pfx_I hp (Or.inr (Or.inr (Or.inl ⟨rfl, rfl⟩)))) (rat_I h3 (by omega) (by omega)) (mI_eq _ _ _ _) ⟨(mI_na _ _ _ _ _ _ (by omega)).trans ht.1, (mI_na _ _ _ _ _ _ (by omega)).trans ht.2.1, (mI_na _ _ _ _ _ _ (by omega)).trans ht.2.2⟩, fun a h => by cases h⟩)
  have segD : c < 4 → ∀ (fa nm : Int32) (j : Nat) (M1 : mm_M), ps_term K V c i = ps_div K V fa nm j → pn_ nm = 0 → j ≤ m → pfx_ (xm_ y l c) M M1 y → rat_ b n K L V P M1 y (j) → mm_I M1 (y + 7) l = nI c → mm_I M1 (y + 12) (4 * l + c) = fa → mm_I M1 (y + 13) (4 * l + c) = 1 → wa_ 2 G jX12_readTerm (d + 7) 0 0 Q 0 0 M1 104 [some (.ref y), some (.int (nI l)), some (.int (nm - 8)), some (.int (nI (4 * l + c)))] [] := by
    intro c4 fa nm j M1 he hp0 hj hp h1 h7 h12 h13
    have hY3 := h1.1
    have hm := pn_m1 hp0
    have hr2 : rat_ b n K L V P (mm_sI M1 (y + 11) (4 * l + c) (nm - 8)) y (j) := rat_I h1 (by omega) (by omega)
    have hp2 : pfx_ (xm_ y l c) M (mm_sI M1 (y + 11) (4 * l + c) (nm - 8)) y := pfx_I hp (Or.inr (Or.inr (Or.inr ⟨by omega, by omega, by omega, by omega⟩)))
    have g7 : mm_I (mm_sI M1 (y + 11) (4 * l + c) (nm - 8)) (y + 7) l = nI c := (mI_na _ _ _ _ _ _ (by omega)).trans h7
    have g12 : mm_I (mm_sI M1 (y + 11) (4 * l + c) (nm - 8)) (y + 12) (4 * l + c) = fa := (mI_na _ _ _ _ _ _ (by omega)).trans h12
    have g13 : mm_I (mm_sI M1 (y + 11) (4 * l + c) (nm - 8)) (y + 13) (4 * l + c) = 1 := (mI_na _ _ _ _ _ _ (by omega)).trans h13
    have g11 : mm_I (mm_sI M1 (y + 11) (4 * l + c) (nm - 8)) (y + 11) (4 * l + c) = (if nm = 12 then -1 else nm - 8) := by rw [if_neg hm.2]; exact mI_eq _ _ _ _
    have num : K j = 47 → j + 1 ≤ m → ∀ M4 : mm_M, pfx_ (xm_ y l c) M M4 y → rat_ b n K L V P M4 y (j + 1) → mm_I M4 (y + 7) l = nI c → mm_I M4 (y + 12) (4 * l + c) = fa → mm_I M4 (y + 11) (4 * l + c) = (if nm = 12 then -1 else nm - 8) → wa_ 2 G jX12_readTerm (d + 7) 0 0 Q 0 0 M4 129 [some (.ref y), some (.int (nI l)), some (.int (nm - 8)), some (.int (nI (4 * l + c)))] [] := by
      intro hj47 j1 M4 q1 q2 q3 q4 q5
      have hY4 := q2.1
      refine wa_aload_n dX12_readTerm_129 rfl rfl ?_
      refine wa_getI (q := (RX12, TX12, 50)) (ci := 12) (k := 9) dX12_readTerm_130 rfl (by decide) wf_X12_157 hY4.1 rfl ?_
      refine wa_iconst (v := 3) dX12_readTerm_133 (by decide) ?_
      refine wa_icmp_eq (tgt := 143) dX12_readTerm_134 (by decide) (fun hT134 => ?_) (fun hF134 => ?_)
      · have hk2 : K (j + 1) = 2 := tk_k2 q2.2.2.2.1 hT134
        have hn2 := (tk_num q2.2.2.2.1 hk2).2
        refine wa_aload_n dX12_readTerm_143 rfl rfl ?_
        refine wa_getI (q := (RX12, TX12, 50)) (ci := 12) (k := 12) dX12_readTerm_144 rfl (by decide) wf_X12_174 hY4.1 rfl ?_
        rw [hn2]
        refine wa_if_ne (tgt := 156) dX12_readTerm_147 (by decide) (fun hT147 => ?_) (fun hF147 => ?_)
        · refine wa_aload_n dX12_readTerm_156 rfl rfl ?_
          refine wa_getR (q := (RX12, TX12, 50)) (ci := 12) (k := 25) dX12_readTerm_157 rfl (by decide) wf_X12_55 hY4.1 rfl (md_r25 hY4) ?_
          refine wa_iload_n dX12_readTerm_160 rfl ?_
          refine wa_aload_n dX12_readTerm_161 rfl rfl ?_
          refine wa_getI (q := (RX12, TX12, 50)) (ci := 12) (k := 12) dX12_readTerm_162 rfl (by decide) wf_X12_174 hY4.1 rfl ?_
          rw [hn2]
          refine wa_iastN dX12_readTerm_165 (md_s25 hY4) (by omega) (by decide) ?_
          refine wa_aload_n dX12_readTerm_166 rfl rfl ?_
          refine wa_callV (q := (RX12, TX12, 50)) (As := []) dX12_readTerm_167 lk_X12_204 rfl rfl hY4.1 rfl rfl (Nat.le_of_ble_eq_true rfl) (Nat.le_of_eq (Nat.zero_add _)) (Nat.le_of_eq (Nat.zero_add _)) (kp_next hs (rat_I q2 (by omega) (by omega)) (by rw [hk2]; decide) (by rw [hk2]; decide) j1 (fun M5 hf5 hr5 => ?_))
          exact seg3 c4 _ (fa, nm, V (j + 1)) (j + 2) M5 (by rw [he]; simp [ps_div, hj47, hk2, hT147]) (kp_lt hs j1 (by rw [hk2]; decide)) (pfx_tk (pfx_I q1 (Or.inr (Or.inr (Or.inr ⟨by omega, by omega, by omega, by omega⟩)))) hf5 (xm_y y l c)) hr5 ((tkf_i hf5 (by omega)).trans ((mI_na _ _ _ _ _ _ (by omega)).trans q3)) ⟨(tkf_i hf5 (by omega)).trans ((mI_na _ _ _ _ _ _ (by omega)).trans q4), (tkf_i hf5 (by omega)).trans ((mI_na _ _ _ _ _ _ (by omega)).trans q5), (tkf_i hf5 (by omega)).trans (mI_eq _ _ _ _)⟩
        · refine wa_aload_n dX12_readTerm_150 rfl rfl ?_
          refine wa_iconst (v := 3) dX12_readTerm_151 (by decide) ?_
          refine wa_callV (q := (RX12, TX12, 50)) (As := [.int 3]) dX12_readTerm_152 lk_X12_192 rfl rfl hY4.1 rfl rfl (Nat.le_of_ble_eq_true rfl) (Nat.le_of_eq (Nat.zero_add _)) (Nat.le_of_eq (Nat.zero_add _)) (k_X12_stop 3 q2.1 ?_)
          exact wx_throw dX12_readTerm_155 wd_X12_readTerm (by decide) (by rw [q2.2.2.2.1.1]; exact hF 3 (j + 1) _ (by rw [he]; simp [ps_div, hj47, hk2, hF147]) (pfx_stp q1 (xm_1 y l c)) (spd_of _ _ _ _))
      · have hk2 : ¬ K (j + 1) = 2 := fun e => hF134 (tk_num q2.2.2.2.1 e).1
        refine wa_aload_n dX12_readTerm_137 rfl rfl ?_
        refine wa_iconst (v := 1) dX12_readTerm_138 (by decide) ?_
        refine wa_callV (q := (RX12, TX12, 50)) (As := [.int 1]) dX12_readTerm_139 lk_X12_192 rfl rfl hY4.1 rfl rfl (Nat.le_of_ble_eq_true rfl) (Nat.le_of_eq (Nat.zero_add _)) (Nat.le_of_eq (Nat.zero_add _)) (k_X12_stop 1 q2.1 ?_)
        exact wx_throw dX12_readTerm_142 wd_X12_readTerm (by decide) (by rw [q2.2.2.2.1.1]; exact hF 1 (j + 1) _ (by rw [he]; simp [ps_div, hj47, hk2]) (pfx_stp q1 (xm_1 y l c)) (spd_of _ _ _ _))
    have go : ∀ M2 : mm_M, rat_ b n K L V P M2 y (j) → pfx_ (xm_ y l c) M M2 y → mm_I M2 (y + 7) l = nI c → mm_I M2 (y + 12) (4 * l + c) = fa → mm_I M2 (y + 13) (4 * l + c) = 1 → mm_I M2 (y + 11) (4 * l + c) = (if nm = 12 then -1 else nm - 8) → wa_ 2 G jX12_readTerm (d + 7) 0 0 Q 0 0 M2 111 [some (.ref y), some (.int (nI l)), some (.int (nm - 8)), some (.int (nI (4 * l + c)))] [] := by
      intro M2 hr2 hp2 g7 g12 g13 g11
      have hY2 := hr2.1
      refine wa_iload_n dX12_readTerm_111 rfl ?_
      refine wa_iconst (v := -1) dX12_readTerm_112 (by decide) ?_
      refine wa_icmp_eq (tgt := 170) dX12_readTerm_113 (by decide) (fun hT113 => absurd hT113 hm.1) (fun hF113 => ?_)
      refine wa_aload_n dX12_readTerm_116 rfl rfl ?_
      refine wa_bipush (v := 47) dX12_readTerm_117 (by decide) ?_
      refine wa_callV (q := (RX12, TX12, 50)) (As := [.int 47]) dX12_readTerm_119 lk_X12_214 rfl rfl hY2.1 rfl rfl (Nat.le_of_ble_eq_true rfl) (Nat.le_of_eq (Nat.zero_add _)) (Nat.le_of_eq (Nat.zero_add _)) (kt_is 47 hr2.1 (by unfold sg_; decide) hr2.2.2.2.1 (fun hk1 => ?_) (fun hk1 => ?_))
      · refine wa_if_eq (tgt := 170) dX12_readTerm_122 (by decide) (fun h9 => absurd h9 (by decide)) (fun _ => ?_)
        refine wa_aload_n dX12_readTerm_125 rfl rfl ?_
        refine wa_callV (q := (RX12, TX12, 50)) (As := []) dX12_readTerm_126 lk_X12_204 rfl rfl hY2.1 rfl rfl (Nat.le_of_ble_eq_true rfl) (Nat.le_of_eq (Nat.zero_add _)) (Nat.le_of_eq (Nat.zero_add _)) (kp_next hs hr2 (by rw [hk1]; decide) (by rw [hk1]; decide) hj (fun M4 hf4 hr4 => ?_))
        exact num hk1 (kp_lt hs hj (by rw [hk1]; decide)) M4 (pfx_tk hp2 hf4 (xm_y y l c)) hr4 ((tkf_i hf4 (by omega)).trans g7) ((tkf_i hf4 (by omega)).trans g12) ((tkf_i hf4 (by omega)).trans g11)
      · refine wa_if_eq (tgt := 170) dX12_readTerm_122 (by decide) (fun _ => ?_) (fun h9 => absurd h9 (by decide))
        exact seg3 c4 _ (fa, nm, 1) j M2 (by rw [he]; simp [ps_div, hk1]) hj hp2 hr2 g7 ⟨g12, g11, g13⟩
    refine wa_aload_n dX12_readTerm_104 rfl rfl ?_
    refine wa_getR (q := (RX12, TX12, 50)) (ci := 12) (k := 23) dX12_readTerm_105 rfl (by decide) wf_X12_49 hY3.1 rfl (md_r23 hY3) ?_
    refine wa_iload_n dX12_readTerm_108 rfl ?_
    refine wa_iload_n dX12_readTerm_109 rfl ?_
    refine wa_iastN dX12_readTerm_110 (md_s23 hY3) (by omega) (by decide) ?_
    exact go _ hr2 hp2 g7 g12 g13 g11
  have segN : c < 4 → K i = 2 → i + 1 ≤ m → ∀ (M1 : mm_M), pfx_ (xm_ y l c) M M1 y → rat_ b n K L V P M1 y (i + 1) → mm_I M1 (y + 7) l = nI c → mm_I M1 (y + 12) (4 * l + c) = V i → mm_I M1 (y + 13) (4 * l + c) = 1 → wa_ 2 G jX12_readTerm (d + 7) 0 0 Q 0 0 M1 77 [some (.ref y), some (.int (nI l)), some (.int (-1)), some (.int (nI (4 * l + c)))] [] := by
    intro c4 hki i1 M1 hp h1 h7 h12 h13
    have hY3 := h1.1
    have star : K (i + 1) = 42 → i + 2 ≤ m → ∀ M2 : mm_M, pfx_ (xm_ y l c) M M2 y → rat_ b n K L V P M2 y (i + 2) → mm_I M2 (y + 7) l = nI c → mm_I M2 (y + 12) (4 * l + c) = V i → mm_I M2 (y + 13) (4 * l + c) = 1 → wa_ 2 G jX12_readTerm (d + 7) 0 0 Q 0 0 M2 95 [some (.ref y), some (.int (nI l)), some (.int (-1)), some (.int (nI (4 * l + c)))] [] := by
      intro hk i2 M2 q1 q2 q3 q4 q5
      have hY2 := q2.1
      refine wa_aload_n dX12_readTerm_95 rfl rfl ?_
      refine wx_callV (q := (RX12, TX12, 50)) (As := []) dX12_readTerm_96 lk_X12_216 rfl rfl hY2.1 rfl rfl (Nat.le_of_ble_eq_true rfl) (Nat.le_of_eq (Nat.zero_add _)) (Nat.le_of_eq (Nat.zero_add _)) wd_X12_readTerm (by decide) (k_X12_nameHere f hcs hsf q2.1 q2.2.2.2.1 (fun q hq hq0 => ?_) (fun hq0 => ?_))
      · exact hF q (i + 2) _ (by simp [ps_term, hki, hk, hq, hq0, Nat.ne_of_lt c4]) (pfx_stp q1 (xm_1 y l c)) (spd_of _ _ _ _)
      · refine wa_istore_n dX12_readTerm_99 (by decide) rfl rfl ?_
        refine wa_aload_n dX12_readTerm_100 rfl rfl ?_
        refine wa_callV (q := (RX12, TX12, 50)) (As := []) dX12_readTerm_101 lk_X12_204 rfl rfl hY2.1 rfl rfl (Nat.le_of_ble_eq_true rfl) (Nat.le_of_eq (Nat.zero_add _)) (Nat.le_of_eq (Nat.zero_add _)) (kp_next hs q2 (pn_0 hq0).2.1 (pn_0 hq0).1 i2 (fun M4 hf4 hr4 => ?_))
        exact segD c4 (V i) (K (i + 2)) (i + 3) M4 (by simp [ps_term, hki, hk, hq0, Nat.ne_of_lt c4]) hq0 (kp_lt hs i2 (pn_0 hq0).1) (pfx_tk q1 hf4 (xm_y y l c)) hr4 ((tkf_i hf4 (by omega)).trans q3) ((tkf_i hf4 (by omega)).trans q4) ((tkf_i hf4 (by omega)).trans q5)
    refine wa_iload_n dX12_readTerm_77 rfl ?_
    refine wa_iconst (v := -1) dX12_readTerm_78 (by decide) ?_
    refine wa_icmp_ne (tgt := 104) dX12_readTerm_79 (by decide) (fun h9 => absurd h9 (by decide)) (fun _ => ?_)
    refine wa_aload_n dX12_readTerm_82 rfl rfl ?_
    refine wa_bipush (v := 42) dX12_readTerm_83 (by decide) ?_
    refine wa_callV (q := (RX12, TX12, 50)) (As := [.int 42]) dX12_readTerm_85 lk_X12_214 rfl rfl hY3.1 rfl rfl (Nat.le_of_ble_eq_true rfl) (Nat.le_of_eq (Nat.zero_add _)) (Nat.le_of_eq (Nat.zero_add _)) (kt_is 42 h1.1 (by unfold sg_; decide) h1.2.2.2.1 (fun hk1 => ?_) (fun hk1 => ?_))
    · refine wa_if_eq (tgt := 104) dX12_readTerm_88 (by decide) (fun h9 => absurd h9 (by decide)) (fun _ => ?_)
      refine wa_aload_n dX12_readTerm_91 rfl rfl ?_
      refine wa_callV (q := (RX12, TX12, 50)) (As := []) dX12_readTerm_92 lk_X12_204 rfl rfl hY3.1 rfl rfl (Nat.le_of_ble_eq_true rfl) (Nat.le_of_eq (Nat.zero_add _)) (Nat.le_of_eq (Nat.zero_add _)) (kp_next hs h1 (by rw [hk1]; decide) (by rw [hk1]; decide) i1 (fun M2 hf2 hr2 => ?_))
      exact star hk1 (kp_lt hs i1 (by rw [hk1]; decide)) M2 (pfx_tk hp hf2 (xm_y y l c)) hr2 ((tkf_i hf2 (by omega)).trans h7) ((tkf_i hf2 (by omega)).trans h12) ((tkf_i hf2 (by omega)).trans h13)
    · refine wa_if_eq (tgt := 104) dX12_readTerm_88 (by decide) (fun _ => ?_) (fun h9 => absurd h9 (by decide))
      refine wa_aload_n dX12_readTerm_104 rfl rfl ?_
      refine wa_getR (q := (RX12, TX12, 50)) (ci := 12) (k := 23) dX12_readTerm_105 rfl (by decide) wf_X12_49 hY3.1 rfl (md_r23 hY3) ?_
      refine wa_iload_n dX12_readTerm_108 rfl ?_
      refine wa_iload_n dX12_readTerm_109 rfl ?_
      refine wa_iastN dX12_readTerm_110 (md_s23 hY3) (by omega) (by decide) ?_
      refine wa_iload_n dX12_readTerm_111 rfl ?_
      refine wa_iconst (v := -1) dX12_readTerm_112 (by decide) ?_
      refine wa_icmp_eq (tgt := 170) dX12_readTerm_113 (by decide) (fun _ => ?_) (fun h9 => absurd h9 (by decide))
      exact seg3 c4 _ (V i, 12, 1) (i + 1) _ (by simp [ps_term, hki, hk1, Nat.ne_of_lt c4]) i1 (pfx_I hp (Or.inr (Or.inr (Or.inr ⟨by omega, by omega, by omega, by omega⟩)))) (rat_I h1 (by omega) (by omega)) ((mI_na _ _ _ _ _ _ (by omega)).trans h7) ⟨(mI_na _ _ _ _ _ _ (by omega)).trans h12, mI_eq _ _ _ _, (mI_na _ _ _ _ _ _ (by omega)).trans h13⟩
  refine wa_aload_n dX12_readTerm_0 rfl rfl ?_
  refine wa_getI (q := (RX12, TX12, 50)) (ci := 12) (k := 9) dX12_readTerm_1 rfl (by decide) wf_X12_157 hr.1.1 rfl ?_
  refine wa_iconst (v := 3) dX12_readTerm_4 (by decide) ?_
  refine wa_icmp_ne (tgt := 12) dX12_readTerm_5 (by decide) (fun hT5 => ?_) (fun hF5 => ?_)
  · have hki : ¬ K i = 2 := fun e => hT5 (tk_num hr.2.2.2.1 e).1
    refine wa_aload_n dX12_readTerm_12 rfl rfl ?_
    refine wx_callV (q := (RX12, TX12, 50)) (As := []) dX12_readTerm_13 lk_X12_216 rfl rfl hr.1.1 rfl rfl (Nat.le_of_ble_eq_true rfl) (Nat.le_of_eq (Nat.zero_add _)) (Nat.le_of_eq (Nat.zero_add _)) wd_X12_readTerm (by decide) (k_X12_nameHere f hcs hsf hr.1 hr.2.2.2.1 (fun q hq hq0 => ?_) (fun hq0 => ?_))
    · exact hF q i _ (by simp [ps_term, hki, hq, hq0]) (pfx_stp (pfx_rf _ _ _) (xm_1 y l c)) (spd_of _ _ _ _)
    · refine wa_istore_n dX12_readTerm_16 (by decide) rfl rfl ?_
      refine wa_aload_n dX12_readTerm_17 rfl rfl ?_
      refine wa_getR (q := (RX12, TX12, 50)) (ci := 12) (k := 19) dX12_readTerm_18 rfl (by decide) wf_X12_37 hr.1.1 rfl (md_r19 hr.1) ?_
      refine wa_iload_n dX12_readTerm_21 rfl ?_
      refine wa_ialdN dX12_readTerm_22 (md_s19 hr.1) (Or.inl rfl) (by omega) (by decide) ?_
      rw [hc]
      refine wa_iconst (v := 4) dX12_readTerm_23 (by decide) ?_
      refine wa_icmp_ne (tgt := 33) dX12_readTerm_24 (by decide) (fun hT24 => ?_) (fun hF24 => ?_)
      · have c4 : c < 4 := Nat.lt_of_le_of_ne hc4 (fun e => hT24 (by rw [e]; rfl))
        refine wa_iconst (v := 4) dX12_readTerm_33 (by decide) ?_
        refine wa_iload_n dX12_readTerm_34 rfl ?_
        refine wa_imul dX12_readTerm_35 ?_
        refine wa_aload_n dX12_readTerm_36 rfl rfl ?_
        refine wa_getR (q := (RX12, TX12, 50)) (ci := 12) (k := 19) dX12_readTerm_37 rfl (by decide) wf_X12_37 hr.1.1 rfl (md_r19 hr.1) ?_
        refine wa_iload_n dX12_readTerm_40 rfl ?_
        refine wa_ialdN dX12_readTerm_41 (md_s19 hr.1) (Or.inl rfl) (by omega) (by decide) ?_
        rw [hc]
        refine wa_iadd dX12_readTerm_42 ?_
        rw [ix_4 l c]
        refine wa_istore_n dX12_readTerm_43 (by decide) rfl rfl ?_
        refine wa_aload_n dX12_readTerm_44 rfl rfl ?_
        refine wa_getR (q := (RX12, TX12, 50)) (ci := 12) (k := 24) dX12_readTerm_45 rfl (by decide) wf_X12_52 hr.1.1 rfl (md_r24 hr.1) ?_
        refine wa_iload_n dX12_readTerm_48 rfl ?_
        refine wa_aload_n dX12_readTerm_49 rfl rfl ?_
        refine wa_getI (q := (RX12, TX12, 50)) (ci := 12) (k := 9) dX12_readTerm_50 rfl (by decide) wf_X12_157 hr.1.1 rfl ?_
        refine wa_iconst (v := 3) dX12_readTerm_53 (by decide) ?_
        refine wa_icmp_ne (tgt := 64) dX12_readTerm_54 (by decide) (fun hT54 => ?_) (fun hF54 => absurd hF54 hT5)
        refine wa_iconst (v := 1) dX12_readTerm_64 (by decide) ?_
        
        refine wa_iastN dX12_readTerm_65 (md_s24 hr.1) (by omega) (by decide) ?_
        refine wa_aload_n dX12_readTerm_66 rfl rfl ?_
        refine wa_getR (q := (RX12, TX12, 50)) (ci := 12) (k := 25) dX12_readTerm_67 rfl (by decide) wf_X12_55 hr.1.1 rfl (md_r25 hr.1) ?_
        refine wa_iload_n dX12_readTerm_70 rfl ?_
        refine wa_iconst (v := 1) dX12_readTerm_71 (by decide) ?_
        refine wa_iastN dX12_readTerm_72 (md_s25 hr.1) (by omega) (by decide) ?_
        refine wa_aload_n dX12_readTerm_73 rfl rfl ?_
        refine wa_callV (q := (RX12, TX12, 50)) (As := []) dX12_readTerm_74 lk_X12_204 rfl rfl hr.1.1 rfl rfl (Nat.le_of_ble_eq_true rfl) (Nat.le_of_eq (Nat.zero_add _)) (Nat.le_of_eq (Nat.zero_add _)) (kp_next hs (rat_I (rat_I hr (by omega) (by omega)) (by omega) (by omega)) (pn_0 hq0).2.1 (pn_0 hq0).1 hi (fun M1 hf1 hr1 => ?_))
        refine wa_iload_n dX12_readTerm_77 rfl ?_
        refine wa_iconst (v := -1) dX12_readTerm_78 (by decide) ?_
        refine wa_icmp_ne (tgt := 104) dX12_readTerm_79 (by decide) (fun hT79 => ?_) (fun hF79 => absurd hF79 (pn_m1 hq0).1)
        exact segD c4 1 (K i) (i + 1) M1 (by simp [ps_term, hki, hq0, Nat.ne_of_lt c4]) hq0 (kp_lt hs hi (pn_0 hq0).1) (pfx_tk (pfx_I (pfx_I (pfx_rf _ _ _) (Or.inr (Or.inr (Or.inr ⟨by omega, by omega, by omega, by omega⟩)))) (Or.inr (Or.inr (Or.inr ⟨by omega, by omega, by omega, by omega⟩)))) hf1 (xm_y y l c)) hr1 ((tkf_i hf1 (by omega)).trans ((mI_na _ _ _ _ _ _ (by omega)).trans ((mI_na _ _ _ _ _ _ (by omega)).trans hc))) ((tkf_i hf1 (by omega)).trans ((mI_na _ _ _ _ _ _ (by omega)).trans (mI_eq _ _ _ _))) ((tkf_i hf1 (by omega)).trans (mI_eq _ _ _ _))
      · have hc9 : c = 4 := (nI_eq (by omega) (by decide)).mp hF24
        refine wa_aload_n dX12_readTerm_27 rfl rfl ?_
        refine wa_iconst (v := 4) dX12_readTerm_28 (by decide) ?_
        refine wa_callV (q := (RX12, TX12, 50)) (As := [.int 4]) dX12_readTerm_29 lk_X12_192 rfl rfl hr.1.1 rfl rfl (Nat.le_of_ble_eq_true rfl) (Nat.le_of_eq (Nat.zero_add _)) (Nat.le_of_eq (Nat.zero_add _)) (k_X12_stop 4 hr.1 ?_)
        exact wx_throw dX12_readTerm_32 wd_X12_readTerm (by decide) (by rw [hr.2.2.2.1.1]; exact hF 4 i _ (by simp [ps_term, hki, hq0, hc9]) (pfx_stp (pfx_rf _ _ _) (xm_1 y l c)) (spd_of _ _ _ _))
  · have hki : K i = 2 := tk_k2 hr.2.2.2.1 hF5
    have hn2 := (tk_num hr.2.2.2.1 hki).2
    refine wa_iconst (v := -1) dX12_readTerm_8 (by decide) ?_
    refine wa_goto (tgt := 16) dX12_readTerm_9 (by decide) ?_
    refine wa_istore_n dX12_readTerm_16 (by decide) rfl rfl ?_
    refine wa_aload_n dX12_readTerm_17 rfl rfl ?_
    refine wa_getR (q := (RX12, TX12, 50)) (ci := 12) (k := 19) dX12_readTerm_18 rfl (by decide) wf_X12_37 hr.1.1 rfl (md_r19 hr.1) ?_
    refine wa_iload_n dX12_readTerm_21 rfl ?_
    refine wa_ialdN dX12_readTerm_22 (md_s19 hr.1) (Or.inl rfl) (by omega) (by decide) ?_
    rw [hc]
    refine wa_iconst (v := 4) dX12_readTerm_23 (by decide) ?_
    refine wa_icmp_ne (tgt := 33) dX12_readTerm_24 (by decide) (fun hT24 => ?_) (fun hF24 => ?_)
    · have c4 : c < 4 := Nat.lt_of_le_of_ne hc4 (fun e => hT24 (by rw [e]; rfl))
      refine wa_iconst (v := 4) dX12_readTerm_33 (by decide) ?_
      refine wa_iload_n dX12_readTerm_34 rfl ?_
      refine wa_imul dX12_readTerm_35 ?_
      refine wa_aload_n dX12_readTerm_36 rfl rfl ?_
      refine wa_getR (q := (RX12, TX12, 50)) (ci := 12) (k := 19) dX12_readTerm_37 rfl (by decide) wf_X12_37 hr.1.1 rfl (md_r19 hr.1) ?_
      refine wa_iload_n dX12_readTerm_40 rfl ?_
      refine wa_ialdN dX12_readTerm_41 (md_s19 hr.1) (Or.inl rfl) (by omega) (by decide) ?_
      rw [hc]
      refine wa_iadd dX12_readTerm_42 ?_
      rw [ix_4 l c]
      refine wa_istore_n dX12_readTerm_43 (by decide) rfl rfl ?_
      refine wa_aload_n dX12_readTerm_44 rfl rfl ?_
      refine wa_getR (q := (RX12, TX12, 50)) (ci := 12) (k := 24) dX12_readTerm_45 rfl (by decide) wf_X12_52 hr.1.1 rfl (md_r24 hr.1) ?_
      refine wa_iload_n dX12_readTerm_48 rfl ?_
      refine wa_aload_n dX12_readTerm_49 rfl rfl ?_
      refine wa_getI (q := (RX12, TX12, 50)) (ci := 12) (k := 9) dX12_readTerm_50 rfl (by decide) wf_X12_157 hr.1.1 rfl ?_
      refine wa_iconst (v := 3) dX12_readTerm_53 (by decide) ?_
      refine wa_icmp_ne (tgt := 64) dX12_readTerm_54 (by decide) (fun hT54 => absurd hT54 (fun h => h hF5)) (fun hF54 => ?_)
      refine wa_aload_n dX12_readTerm_57 rfl rfl ?_
      refine wa_getI (q := (RX12, TX12, 50)) (ci := 12) (k := 12) dX12_readTerm_58 rfl (by decide) wf_X12_174 hr.1.1 rfl ?_
      refine wa_goto (tgt := 65) dX12_readTerm_61 (by decide) ?_
      rw [hn2]
      refine wa_iastN dX12_readTerm_65 (md_s24 hr.1) (by omega) (by decide) ?_
      refine wa_aload_n dX12_readTerm_66 rfl rfl ?_
      refine wa_getR (q := (RX12, TX12, 50)) (ci := 12) (k := 25) dX12_readTerm_67 rfl (by decide) wf_X12_55 hr.1.1 rfl (md_r25 hr.1) ?_
      refine wa_iload_n dX12_readTerm_70 rfl ?_
      refine wa_iconst (v := 1) dX12_readTerm_71 (by decide) ?_
      refine wa_iastN dX12_readTerm_72 (md_s25 hr.1) (by omega) (by decide) ?_
      refine wa_aload_n dX12_readTerm_73 rfl rfl ?_
      refine wa_callV (q := (RX12, TX12, 50)) (As := []) dX12_readTerm_74 lk_X12_204 rfl rfl hr.1.1 rfl rfl (Nat.le_of_ble_eq_true rfl) (Nat.le_of_eq (Nat.zero_add _)) (Nat.le_of_eq (Nat.zero_add _)) (kp_next hs (rat_I (rat_I hr (by omega) (by omega)) (by omega) (by omega)) (by rw [hki]; decide) (by rw [hki]; decide) hi (fun M1 hf1 hr1 => ?_))
      exact segN c4 hki (kp_lt hs hi (by rw [hki]; decide)) M1 (pfx_tk (pfx_I (pfx_I (pfx_rf _ _ _) (Or.inr (Or.inr (Or.inr ⟨by omega, by omega, by omega, by omega⟩)))) (Or.inr (Or.inr (Or.inr ⟨by omega, by omega, by omega, by omega⟩)))) hf1 (xm_y y l c)) hr1 ((tkf_i hf1 (by omega)).trans ((mI_na _ _ _ _ _ _ (by omega)).trans ((mI_na _ _ _ _ _ _ (by omega)).trans hc))) ((tkf_i hf1 (by omega)).trans ((mI_na _ _ _ _ _ _ (by omega)).trans (mI_eq _ _ _ _))) ((tkf_i hf1 (by omega)).trans (mI_eq _ _ _ _))
    · have hc9 : c = 4 := (nI_eq (by omega) (by decide)).mp hF24
      refine wa_aload_n dX12_readTerm_27 rfl rfl ?_
      refine wa_iconst (v := 4) dX12_readTerm_28 (by decide) ?_
      refine wa_callV (q := (RX12, TX12, 50)) (As := [.int 4]) dX12_readTerm_29 lk_X12_192 rfl rfl hr.1.1 rfl rfl (Nat.le_of_ble_eq_true rfl) (Nat.le_of_eq (Nat.zero_add _)) (Nat.le_of_eq (Nat.zero_add _)) (k_X12_stop 4 hr.1 ?_)
      exact wx_throw dX12_readTerm_32 wd_X12_readTerm (by decide) (by rw [hr.2.2.2.1.1]; exact hF 4 i _ (by simp [ps_term, hki, hc9]) (pfx_stp (pfx_rf _ _ _) (xm_1 y l c)) (spd_of _ _ _ _))
