/-! what the reference throws: its constructor, down to that of all throwables -/
abbrev jTr : mm_J := (⟨"java/lang/Throwable", "<init>", "(Ljava/lang/String;Ljava/lang/Throwable;ZZ)V"⟩, prog_23_method_5_code, 5, none)
theorem wd_jTr : Cond.code jTr.1 jTr.2.1 jTr.2.2.1 jTr.2.2.2 ∈ gt_ws := gt_of 844 (by decide +kernel) (by decide +kernel)
theorem wm_jTr : Cond.instanceMethod jTr.1 ∈ gt_ws := gt_of 843 (by decide +kernel) (by decide +kernel)
theorem wn_jTr : Cond.initialized jTr.1.cls ∈ gt_ws := gt_of 7 (by decide +kernel) (by decide +kernel)
theorem pf_jTr : plainFor jTr.1 = true := by decide +kernel
abbrev jEx : mm_J := (⟨"java/lang/Exception", "<init>", "(Ljava/lang/String;Ljava/lang/Throwable;ZZ)V"⟩, prog_17_method_5_code, 5, none)
theorem wd_jEx : Cond.code jEx.1 jEx.2.1 jEx.2.2.1 jEx.2.2.2 ∈ gt_ws := gt_of 841 (by decide +kernel) (by decide +kernel)
theorem wm_jEx : Cond.instanceMethod jEx.1 ∈ gt_ws := gt_of 840 (by decide +kernel) (by decide +kernel)
theorem wn_jEx : Cond.initialized jEx.1.cls ∈ gt_ws := gt_of 8 (by decide +kernel) (by decide +kernel)
theorem pf_jEx : plainFor jEx.1 = true := by decide +kernel
abbrev jRt : mm_J := (⟨"java/lang/RuntimeException", "<init>", "(Ljava/lang/String;Ljava/lang/Throwable;ZZ)V"⟩, prog_19_method_5_code, 5, none)
theorem wd_jRt : Cond.code jRt.1 jRt.2.1 jRt.2.2.1 jRt.2.2.2 ∈ gt_ws := gt_of 838 (by decide +kernel) (by decide +kernel)
theorem wm_jRt : Cond.instanceMethod jRt.1 ∈ gt_ws := gt_of 837 (by decide +kernel) (by decide +kernel)
theorem wn_jRt : Cond.initialized jRt.1.cls ∈ gt_ws := gt_of 9 (by decide +kernel) (by decide +kernel)
theorem pf_jRt : plainFor jRt.1 = true := by decide +kernel
theorem lk_X11_1 : lk_I RX11 1 jRt 4 := ⟨⟨gt_of 836 (by decide +kernel) (by decide +kernel), wd_jRt, wn_jRt, by decide +kernel, by decide⟩, by decide, wm_jRt⟩
theorem lk_Rt_16 : lk_I "java/lang/RuntimeException" 16 jEx 4 := ⟨⟨gt_of 839 (by decide +kernel) (by decide +kernel), wd_jEx, wn_jEx, by decide +kernel, by decide⟩, by decide, wm_jEx⟩
theorem lk_Ex_16 : lk_I "java/lang/Exception" 16 jTr 4 := ⟨⟨gt_of 842 (by decide +kernel) (by decide +kernel), wd_jTr, wn_jTr, by decide +kernel, by decide⟩, by decide, wm_jTr⟩
theorem lo_Tr_1 : Cond.methodLink "java/lang/Throwable" 1 objectInit ∈ gt_ws := gt_of 819 (by decide +kernel) (by decide +kernel)
theorem wf_Tr_7 : Cond.fieldLink "java/lang/Throwable" 7 (TX11 0).1 (TX11 0).2.1 (TX11 0).2.2.1 ∈ gt_ws := gt_of 849 (by decide +kernel) (by decide +kernel)
theorem wf_Tr_17 : Cond.fieldLink "java/lang/Throwable" 17 (TX11 1).1 (TX11 1).2.1 (TX11 1).2.2.1 ∈ gt_ws := gt_of 850 (by decide +kernel) (by decide +kernel)
theorem wf_Tr_24 : Cond.fieldLink "java/lang/Throwable" 24 (TX11 2).1 (TX11 2).2.1 (TX11 2).2.2.1 ∈ gt_ws := gt_of 851 (by decide +kernel) (by decide +kernel)
theorem wf_Tr_31 : Cond.fieldLink "java/lang/Throwable" 31 (TX11 3).1 (TX11 3).2.1 (TX11 3).2.2.1 ∈ gt_ws := gt_of 848 (by decide +kernel) (by decide +kernel)
theorem wz_Tr_13 : Cond.fieldLink "java/lang/Throwable" 13 "java/lang/Throwable" "UNASSIGNED_STACK" "[Ljava/lang/StackTraceElement;" ∈ gt_ws := gt_of 820 (by decide +kernel) (by decide +kernel)
theorem wz_Tr_20 : Cond.fieldLink "java/lang/Throwable" 20 "java/lang/Throwable" "SUPPRESSED_SENTINEL" "Ljava/util/List;" ∈ gt_ws := gt_of 822 (by decide +kernel) (by decide +kernel)
theorem dTr_0 : decode prog_23_method_5_code 0 = .ok (.aload_n 0, 1) := by decide +kernel
theorem dTr_1 : decode prog_23_method_5_code 1 = .ok (.invokespecial 1, 3) := by decide +kernel
theorem dTr_4 : decode prog_23_method_5_code 4 = .ok (.aload_n 0, 1) := by decide +kernel
theorem dTr_5 : decode prog_23_method_5_code 5 = .ok (.aload_n 0, 1) := by decide +kernel
theorem dTr_6 : decode prog_23_method_5_code 6 = .ok (.putfield 7, 3) := by decide +kernel
theorem dTr_9 : decode prog_23_method_5_code 9 = .ok (.aload_n 0, 1) := by decide +kernel
theorem dTr_10 : decode prog_23_method_5_code 10 = .ok (.getstatic 13, 3) := by decide +kernel
theorem dTr_13 : decode prog_23_method_5_code 13 = .ok (.putfield 17, 3) := by decide +kernel
theorem dTr_16 : decode prog_23_method_5_code 16 = .ok (.aload_n 0, 1) := by decide +kernel
theorem dTr_17 : decode prog_23_method_5_code 17 = .ok (.getstatic 20, 3) := by decide +kernel
theorem dTr_20 : decode prog_23_method_5_code 20 = .ok (.putfield 24, 3) := by decide +kernel
theorem dTr_23 : decode prog_23_method_5_code 23 = .ok (.iload 4, 2) := by decide +kernel
theorem dTr_25 : decode prog_23_method_5_code 25 = .ok (.ifCond .eq 11, 3) := by decide +kernel
theorem dTr_36 : decode prog_23_method_5_code 36 = .ok (.aload_n 0, 1) := by decide +kernel
theorem dTr_37 : decode prog_23_method_5_code 37 = .ok (.aconst_null, 1) := by decide +kernel
theorem dTr_38 : decode prog_23_method_5_code 38 = .ok (.putfield 17, 3) := by decide +kernel
theorem dTr_41 : decode prog_23_method_5_code 41 = .ok (.aload_n 0, 1) := by decide +kernel
theorem dTr_42 : decode prog_23_method_5_code 42 = .ok (.aload_n 1, 1) := by decide +kernel
theorem dTr_43 : decode prog_23_method_5_code 43 = .ok (.putfield 31, 3) := by decide +kernel
theorem dTr_46 : decode prog_23_method_5_code 46 = .ok (.aload_n 0, 1) := by decide +kernel
theorem dTr_47 : decode prog_23_method_5_code 47 = .ok (.aload_n 2, 1) := by decide +kernel
theorem dTr_48 : decode prog_23_method_5_code 48 = .ok (.putfield 7, 3) := by decide +kernel
theorem dTr_51 : decode prog_23_method_5_code 51 = .ok (.iload_n 3, 1) := by decide +kernel
theorem dTr_52 : decode prog_23_method_5_code 52 = .ok (.ifCond .ne 8, 3) := by decide +kernel
theorem dTr_55 : decode prog_23_method_5_code 55 = .ok (.aload_n 0, 1) := by decide +kernel
theorem dTr_56 : decode prog_23_method_5_code 56 = .ok (.aconst_null, 1) := by decide +kernel
theorem dTr_57 : decode prog_23_method_5_code 57 = .ok (.putfield 24, 3) := by decide +kernel
theorem dTr_60 : decode prog_23_method_5_code 60 = .ok (.return_, 1) := by decide +kernel
theorem dEx_0 : decode prog_17_method_5_code 0 = .ok (.aload_n 0, 1) := by decide +kernel
theorem dEx_1 : decode prog_17_method_5_code 1 = .ok (.aload_n 1, 1) := by decide +kernel
theorem dEx_2 : decode prog_17_method_5_code 2 = .ok (.aload_n 2, 1) := by decide +kernel
theorem dEx_3 : decode prog_17_method_5_code 3 = .ok (.iload_n 3, 1) := by decide +kernel
theorem dEx_4 : decode prog_17_method_5_code 4 = .ok (.iload 4, 2) := by decide +kernel
theorem dEx_6 : decode prog_17_method_5_code 6 = .ok (.invokespecial 16, 3) := by decide +kernel
theorem dEx_9 : decode prog_17_method_5_code 9 = .ok (.return_, 1) := by decide +kernel
theorem dRt_0 : decode prog_19_method_5_code 0 = .ok (.aload_n 0, 1) := by decide +kernel
theorem dRt_1 : decode prog_19_method_5_code 1 = .ok (.aload_n 1, 1) := by decide +kernel
theorem dRt_2 : decode prog_19_method_5_code 2 = .ok (.aload_n 2, 1) := by decide +kernel
theorem dRt_3 : decode prog_19_method_5_code 3 = .ok (.iload_n 3, 1) := by decide +kernel
theorem dRt_4 : decode prog_19_method_5_code 4 = .ok (.iload 4, 2) := by decide +kernel
theorem dRt_6 : decode prog_19_method_5_code 6 = .ok (.invokespecial 16, 3) := by decide +kernel
theorem dRt_9 : decode prog_19_method_5_code 9 = .ok (.return_, 1) := by decide +kernel
/-- references of the cell p have changed, and nothing else -/
def wsk_ (p : Nat) (M M' : mm_M) : Prop := M'.1 = M.1 ∧ M'.2.1 = M.2.1 ∧ M'.2.2.1 = M.2.2.1 ∧ mm_z M' = mm_z M ∧ ∀ b, b ≠ p → mm_R M' b = mm_R M b
theorem wsk_R {p : Nat} {M M' : mm_M} (h : wsk_ p M M') (k : Nat) (v : Option Nat) : wsk_ p M (mm_sR M' p k v) := ⟨h.1, h.2.1, h.2.2.1, h.2.2.2.1, fun b hb => (mm_u_ne hb).trans (h.2.2.2.2 b hb)⟩
theorem wsk_sh {p : Nat} {M M' : mm_M} (h : wsk_ p M M') {a : Nat} {s : mm_S} (hs : mm_sh M a = some s) : mm_sh M' a = some s := by
  rw [← hs]; exact congrFun h.1 a

theorem rn_put (M : mm_M) (a k f : Nat) : mm_put M a k (va_rn f) = mm_sR M a k (rn_o f) := by cases f <;> rfl
theorem k_Tr_init {G : mm_G} {d : Nat} {Q : Option Value → mm_M → Prop} {M : mm_M} {p a4 a5 : Nat} (hp : mm_sh M p = some (.inl 11)) (h4 : G.2.2.2.1 4 = va_rn a4) (h5 : G.2.2.2.1 5 = va_rn a5) (hQ : ∀ M' : mm_M, wsk_ p M M' → Q none M') : ma_ G jTr (d + 1) 0 0 [.ref p, .null, .null, .int 0, .int 0] M Q := by
  refine ma_ofF [some (.ref p), some .null, some .null, some (.int 0), some (.int 0)] pf_jTr rfl (Nat.le_of_ble_eq_true rfl) ?_
  have h0 : wsk_ p M M := ⟨rfl, rfl, rfl, rfl, fun _ _ => rfl⟩
  refine wa_aload_n dTr_0 rfl rfl ?_
  refine wa_obj dTr_1 lo_Tr_1 wi_obj wk_obj (Nat.le_of_ble_eq_true rfl) ?_
  refine wa_aload_n dTr_4 rfl rfl ?_
  refine wa_aload_n dTr_5 rfl rfl ?_
  refine wa_put (q := (RX11, TX11, 8)) (ci := 11) (k := 0) dTr_6 rfl (by decide) wf_Tr_7 rfl (wsk_sh h0 hp) rfl ?_
  rw [mm_putR]
  refine wa_gen (P := wsk_ p M) (wsk_R h0 0 _) (fun M1 h1 => ?_)
  refine wa_aload_n dTr_9 rfl rfl ?_
  refine wa_gets (k := 4) dTr_10 rfl wz_Tr_13 h4 ?_
  refine wa_put (q := (RX11, TX11, 8)) (ci := 11) (k := 1) dTr_13 rfl (by decide) wf_Tr_17 rfl (wsk_sh h1 hp) (by cases a4 <;> rfl) ?_
  rw [rn_put]
  refine wa_gen (P := wsk_ p M) (wsk_R h1 1 _) (fun M2 h2 => ?_)
  refine wa_aload_n dTr_16 rfl rfl ?_
  refine wa_gets (k := 5) dTr_17 rfl wz_Tr_20 h5 ?_
  refine wa_put (q := (RX11, TX11, 8)) (ci := 11) (k := 2) dTr_20 rfl (by decide) wf_Tr_24 rfl (wsk_sh h2 hp) (by cases a5 <;> rfl) ?_
  rw [rn_put]
  refine wa_gen (P := wsk_ p M) (wsk_R h2 2 _) (fun M3 h3 => ?_)
  refine wa_iload dTr_23 rfl ?_
  refine wa_if_eq (tgt := 36) dTr_25 (by decide) (fun _ => ?_) (fun h9 => absurd rfl h9)
  refine wa_aload_n dTr_36 rfl rfl ?_
  refine wa_null dTr_37 ?_
  refine wa_put (q := (RX11, TX11, 8)) (ci := 11) (k := 1) dTr_38 rfl (by decide) wf_Tr_17 rfl (wsk_sh h3 hp) rfl ?_
  rw [mm_putN]
  refine wa_gen (P := wsk_ p M) (wsk_R h3 1 _) (fun M4 h4 => ?_)
  refine wa_aload_n dTr_41 rfl rfl ?_
  refine wa_aload_n dTr_42 rfl rfl ?_
  refine wa_put (q := (RX11, TX11, 8)) (ci := 11) (k := 3) dTr_43 rfl (by decide) wf_Tr_31 rfl (wsk_sh h4 hp) rfl ?_
  rw [mm_putN]
  refine wa_gen (P := wsk_ p M) (wsk_R h4 3 _) (fun M5 h5 => ?_)
  refine wa_aload_n dTr_46 rfl rfl ?_
  refine wa_aload_n dTr_47 rfl rfl ?_
  refine wa_put (q := (RX11, TX11, 8)) (ci := 11) (k := 0) dTr_48 rfl (by decide) wf_Tr_7 rfl (wsk_sh h5 hp) rfl ?_
  rw [mm_putN]
  refine wa_gen (P := wsk_ p M) (wsk_R h5 0 _) (fun M6 h6 => ?_)
  refine wa_iload_n dTr_51 rfl ?_
  refine wa_if_ne (tgt := 60) dTr_52 (by decide) (fun h9 => absurd rfl h9) (fun _ => ?_)
  refine wa_aload_n dTr_55 rfl rfl ?_
  refine wa_null dTr_56 ?_
  refine wa_put (q := (RX11, TX11, 8)) (ci := 11) (k := 2) dTr_57 rfl (by decide) wf_Tr_24 rfl (wsk_sh h6 hp) rfl ?_
  rw [mm_putN]
  refine wa_gen (P := wsk_ p M) (wsk_R h6 2 _) (fun M7 h7 => ?_)
  exact wa_vret dTr_60 rfl (hQ _ h7)

theorem k_Ex_init {G : mm_G} {d : Nat} {Q : Option Value → mm_M → Prop} {M : mm_M} {p a4 a5 : Nat} (hp : mm_sh M p = some (.inl 11)) (h4 : G.2.2.2.1 4 = va_rn a4) (h5 : G.2.2.2.1 5 = va_rn a5) (hQ : ∀ M' : mm_M, wsk_ p M M' → Q none M') : ma_ G jEx (d + 2) 0 0 [.ref p, .null, .null, .int 0, .int 0] M Q := by
  refine ma_ofF [some (.ref p), some .null, some .null, some (.int 0), some (.int 0)] pf_jEx rfl (Nat.le_of_ble_eq_true rfl) ?_
  refine wa_aload_n dEx_0 rfl rfl ?_
  refine wa_aload_n dEx_1 rfl rfl ?_
  refine wa_aload_n dEx_2 rfl rfl ?_
  refine wa_iload_n dEx_3 rfl ?_
  refine wa_iload dEx_4 rfl ?_
  refine wa_callI (As := [.null, .null, .int 0, .int 0]) dEx_6 lk_Ex_16 rfl rfl rfl (Nat.le_of_ble_eq_true rfl) (Nat.le_of_eq (Nat.zero_add _)) (Nat.le_of_eq (Nat.zero_add _)) (k_Tr_init hp h4 h5 (fun M2 h2 => ?_))
  exact wa_vret dEx_9 rfl (hQ _ h2)

theorem k_Rt_init {G : mm_G} {d : Nat} {Q : Option Value → mm_M → Prop} {M : mm_M} {p a4 a5 : Nat} (hp : mm_sh M p = some (.inl 11)) (h4 : G.2.2.2.1 4 = va_rn a4) (h5 : G.2.2.2.1 5 = va_rn a5) (hQ : ∀ M' : mm_M, wsk_ p M M' → Q none M') : ma_ G jRt (d + 3) 0 0 [.ref p, .null, .null, .int 0, .int 0] M Q := by
  refine ma_ofF [some (.ref p), some .null, some .null, some (.int 0), some (.int 0)] pf_jRt rfl (Nat.le_of_ble_eq_true rfl) ?_
  refine wa_aload_n dRt_0 rfl rfl ?_
  refine wa_aload_n dRt_1 rfl rfl ?_
  refine wa_aload_n dRt_2 rfl rfl ?_
  refine wa_iload_n dRt_3 rfl ?_
  refine wa_iload dRt_4 rfl ?_
  refine wa_callI (As := [.null, .null, .int 0, .int 0]) dRt_6 lk_Rt_16 rfl rfl rfl (Nat.le_of_ble_eq_true rfl) (Nat.le_of_eq (Nat.zero_add _)) (Nat.le_of_eq (Nat.zero_add _)) (k_Ex_init hp h4 h5 (fun M2 h2 => ?_))
  exact wa_vret dRt_9 rfl (hQ _ h2)

theorem k_X11_init {G : mm_G} {d : Nat} {Q : Option Value → mm_M → Prop} {M : mm_M} {p a4 a5 : Nat} (hp : mm_sh M p = some (.inl 11)) (h4 : G.2.2.2.1 4 = va_rn a4) (h5 : G.2.2.2.1 5 = va_rn a5) (hQ : ∀ M' : mm_M, wsk_ p M M' → Q none M') : ma_ G jX11_init (d + 4) 0 0 [.ref p] M Q := by
  refine ma_of [some (.ref p)] (by decide) rfl (Nat.le_of_ble_eq_true rfl) ?_
  refine wa_aload_n dX11_init_0 rfl rfl ?_
  refine wa_null dX11_init_1 ?_
  refine wa_null dX11_init_2 ?_
  refine wa_iconst (v := 0) dX11_init_3 (by decide) ?_
  refine wa_iconst (v := 0) dX11_init_4 (by decide) ?_
  refine wa_callI (As := [.null, .null, .int 0, .int 0]) dX11_init_5 lk_X11_1 rfl rfl rfl (Nat.le_of_ble_eq_true rfl) (Nat.le_of_eq (Nat.zero_add _)) (Nat.le_of_eq (Nat.zero_add _)) (k_Rt_init hp h4 h5 (fun M2 h2 => ?_))
  exact wa_vret dX11_init_8 rfl (hQ _ h2)

def rs_12 : rs_S := (rs_R (rs_n (rs_R (rs_n (rs_R (rs_n (rs_R (rs_n (rs_R (rs_n (rs_R (rs_n (rs_R (rs_n (rs_R (rs_n (rs_R (rs_n (rs_R (rs_n (rs_R (rs_n (rs_R (rs_n (rs_R (rs_n (rs_R (rs_n (rs_R (rs_n (rs_R (rs_n (rs_R (rs_n (rs_R (rs_n (rs_R (rs_n (rs_R (rs_n (rs_R (rs_n (rs_R (rs_n (rs_R (rs_n (rs_R (rs_n (rs_R (rs_n (rs_R (rs_n (rs_R (rs_n (rs_R (rs_n (rs_R (rs_n (rs_R (rs_n (rs_R (rs_n (rs_R (rs_n (rs_R (rs_n (rs_R (rs_n (rs_n rs_0 0 (.inl 12)) 1 (.inl 11)) 0 4 (some 1)) 2 (.inr (1, 300))) 0 5 (some 2)) 3 (.inr (0, 30))) 0 15 (some 3)) 4 (.inr (0, 31))) 0 16 (some 4)) 5 (.inr (0, 372))) 0 17 (some 5)) 6 (.inr (0, 372))) 0 18 (some 6)) 7 (.inr (0, 372))) 0 19 (some 7)) 8 (.inr (0, 1488))) 0 20 (some 8)) 9 (.inr (0, 1488))) 0 21 (some 9)) 10 (.inr (0, 1488))) 0 22 (some 10)) 11 (.inr (0, 1488))) 0 23 (some 11)) 12 (.inr (0, 1488))) 0 24 (some 12)) 13 (.inr (0, 1488))) 0 25 (some 13)) 14 (.inr (0, 8))) 0 28 (some 14)) 15 (.inr (0, 8))) 0 29 (some 15)) 16 (.inr (0, 8))) 0 30 (some 16)) 17 (.inr (0, 8))) 0 31 (some 17)) 18 (.inr (0, 8))) 0 32 (some 18)) 19 (.inr (0, 40))) 0 33 (some 19)) 20 (.inr (0, 240))) 0 34 (some 20)) 21 (.inr (0, 240))) 0 35 (some 21)) 22 (.inr (0, 240))) 0 36 (some 22)) 23 (.inr (2, 240))) 0 37 (some 23)) 24 (.inr (0, 200))) 0 39 (some 24)) 25 (.inr (0, 200))) 0 40 (some 25)) 26 (.inr (0, 200))) 0 41 (some 26)) 27 (.inr (0, 200))) 0 42 (some 27)) 28 (.inr (0, 200))) 0 43 (some 28)) 29 (.inr (0, 200))) 0 44 (some 29)) 30 (.inr (0, 200))) 0 45 (some 30)) 31 (.inr (0, 200))) 0 46 (some 31)) 32 (.inr (0, 1000))) 0 47 (some 32)) 33 (.inr (3, 5001))) 0 48 (some 33)) 34 (.inr (0, 5))) 0 49 (some 34))

theorem rl_1 {x : Nat} {M0 M : mm_M} {S : rs_S} (h : rel_ 1 x 1 e0_ M0 S M) : rel_ 1 x 1 e1_ M0 S (mm_sI M x 2 (-1)) := by
  refine ⟨h.1, h.2.1, nw_I h.2.2.1 (Or.inr (fun u hu => ?_)), h.2.2.2.1, fun i hi => ?_⟩
  · have := h.2.2.2.1 _ _ hu
    omega
  · obtain ⟨h1, h2, h3⟩ := h.2.2.2.2 i hi
    refine ⟨h1, fun j u hu => ?_, h3⟩
    have hi0 : i = 0 := by omega
    subst hi0
    rw [mm_I_sI]
    unfold e1_ at hu
    by_cases hq : j = 2
    · rw [if_pos ⟨rfl, hq⟩] at hu ⊢
      exact Option.some.inj hu
    · rw [if_neg (fun z => hq z.2)] at hu ⊢
      exact h2 j u hu

theorem k_X12_init {G : mm_G} {d : Nat} {Q : Option Value → mm_M → Prop} {M : mm_M} {x a4 a5 : Nat} {M0 : mm_M} (hr : rel_ 1 x 1 e0_ M0 (rs_n rs_0 0 (.inl 12)) M) (h4 : G.2.2.2.1 4 = va_rn a4) (h5 : G.2.2.2.1 5 = va_rn a5) (hQ : ∀ M', rel_ 1 x 35 e1_ M0 rs_12 M' → Q none M') : ma_ G jX12_init (d + 5) 34 19059 [.ref x] M Q := by
  refine ma_of [some (.ref x)] (by decide) rfl (Nat.le_of_ble_eq_true rfl) ?_
  refine wa_aload_n dX12_init_0 rfl rfl ?_
  refine wa_obj dX12_init_1 lo_X12_1 wi_obj wk_obj (Nat.le_of_ble_eq_true rfl) ?_
  refine wa_aload_n dX12_init_4 rfl rfl ?_
  refine wa_iconst (v := -1) dX12_init_5 (by decide) ?_
  refine wa_put (q := (RX12, TX12, 50)) (ci := 12) (k := 2) dX12_init_6 rfl (by decide) wf_X12_9 rfl (rl_sh hr (a := 0) (by decide) rfl) rfl ?_
  rw [mm_putI]
  refine wa_gen (P := rel_ 1 x _ e1_ M0 _) (rl_1 hr) (fun M1 hr1 => ?_)
  refine wa_aload_n dX12_init_9 rfl rfl ?_
  refine wa_new (n := 8) (q := (RX11, TX11, 8)) (ci := 11) dX12_init_10 rfl rfl wc_X12_13 wt_X11 wn_X11 (fun _ => ?_)
  rw [rl_z hr1]
  refine wa_gen (P := rel_ 1 x _ e1_ M0 _) (rl_new hr1 (.inl 11) (e1_n _ (by decide))) (fun M2 hr2 => ?_)
  refine wa_dup dX12_init_13 rfl ?_
  refine wa_callI (kc' := 33) (ks' := 19051) (As := []) dX12_init_14 lk_X12_15 rfl rfl rfl (Nat.le_of_ble_eq_true rfl) (by decide) (by decide) (k_X11_init (rl_sh hr2 (a := 1) (by decide) rfl) h4 h5 (fun Ms hs => ?_))
  refine wa_gen (P := rel_ 1 x _ e1_ M0 _) (rl_w hr2 hs.1 hs.2.1 hs.2.2.1 hs.2.2.2.1 hs.2.2.2.2) (fun M3 hr3 => ?_)
  refine wa_putF (q := (RX12, TX12, 50)) (ci := 12) (k := 4) dX12_init_17 rfl (by decide) wf_X12_16 rfl rfl (by decide) rfl (rl_sh hr3 (a := 0) (by decide) rfl) rfl ?_
  rw [mm_putR]
  refine wa_gen (P := rel_ 1 x _ e1_ M0 _) (rl_R hr3 (a := 0) (v := some 1) rfl rfl) (fun M4 hr4 => ?_)
  refine wa_aload_n dX12_init_20 rfl rfl ?_
  refine wa_sipush (v := 300) dX12_init_21 (by decide) ?_
  refine wa_newa (k := 1) (n := 300) dX12_init_24 (by decide) rfl wr_byte (by decide) (by decide) (by decide) (fun _ => ?_)
  rw [rl_z hr4]
  refine wa_gen (P := rel_ 1 x _ e1_ M0 _) (rl_new hr4 (.inr (1, 300)) (e1_n _ (by decide))) (fun M5 hr5 => ?_)
  refine wa_putF (q := (RX12, TX12, 50)) (ci := 12) (k := 5) dX12_init_26 rfl (by decide) wf_X12_20 rfl rfl (by decide) rfl (rl_sh hr5 (a := 0) (by decide) rfl) rfl ?_
  rw [mm_putR]
  refine wa_gen (P := rel_ 1 x _ e1_ M0 _) (rl_R hr5 (a := 0) (v := some 2) rfl rfl) (fun M6 hr6 => ?_)
  refine wa_aload_n dX12_init_29 rfl rfl ?_
  refine wa_bipush (v := 30) dX12_init_30 (by decide) ?_
  refine wa_newa (k := 0) (n := 30) dX12_init_32 (by decide) rfl wr_int (by decide) (by decide) (by decide) (fun _ => ?_)
  rw [rl_z hr6]
  refine wa_gen (P := rel_ 1 x _ e1_ M0 _) (rl_new hr6 (.inr (0, 30)) (e1_n _ (by decide))) (fun M7 hr7 => ?_)
  refine wa_putF (q := (RX12, TX12, 50)) (ci := 12) (k := 15) dX12_init_34 rfl (by decide) wf_X12_24 rfl rfl (by decide) rfl (rl_sh hr7 (a := 0) (by decide) rfl) rfl ?_
  rw [mm_putR]
  refine wa_gen (P := rel_ 1 x _ e1_ M0 _) (rl_R hr7 (a := 0) (v := some 3) rfl rfl) (fun M8 hr8 => ?_)
  refine wa_aload_n dX12_init_37 rfl rfl ?_
  refine wa_bipush (v := 31) dX12_init_38 (by decide) ?_
  refine wa_newa (k := 0) (n := 31) dX12_init_40 (by decide) rfl wr_int (by decide) (by decide) (by decide) (fun _ => ?_)
  rw [rl_z hr8]
  refine wa_gen (P := rel_ 1 x _ e1_ M0 _) (rl_new hr8 (.inr (0, 31)) (e1_n _ (by decide))) (fun M9 hr9 => ?_)
  refine wa_putF (q := (RX12, TX12, 50)) (ci := 12) (k := 16) dX12_init_42 rfl (by decide) wf_X12_28 rfl rfl (by decide) rfl (rl_sh hr9 (a := 0) (by decide) rfl) rfl ?_
  rw [mm_putR]
  refine wa_gen (P := rel_ 1 x _ e1_ M0 _) (rl_R hr9 (a := 0) (v := some 4) rfl rfl) (fun M10 hr10 => ?_)
  refine wa_aload_n dX12_init_45 rfl rfl ?_
  refine wa_sipush (v := 372) dX12_init_46 (by decide) ?_
  refine wa_newa (k := 0) (n := 372) dX12_init_49 (by decide) rfl wr_int (by decide) (by decide) (by decide) (fun _ => ?_)
  rw [rl_z hr10]
  refine wa_gen (P := rel_ 1 x _ e1_ M0 _) (rl_new hr10 (.inr (0, 372)) (e1_n _ (by decide))) (fun M11 hr11 => ?_)
  refine wa_putF (q := (RX12, TX12, 50)) (ci := 12) (k := 17) dX12_init_51 rfl (by decide) wf_X12_31 rfl rfl (by decide) rfl (rl_sh hr11 (a := 0) (by decide) rfl) rfl ?_
  rw [mm_putR]
  refine wa_gen (P := rel_ 1 x _ e1_ M0 _) (rl_R hr11 (a := 0) (v := some 5) rfl rfl) (fun M12 hr12 => ?_)
  refine wa_aload_n dX12_init_54 rfl rfl ?_
  refine wa_sipush (v := 372) dX12_init_55 (by decide) ?_
  refine wa_newa (k := 0) (n := 372) dX12_init_58 (by decide) rfl wr_int (by decide) (by decide) (by decide) (fun _ => ?_)
  rw [rl_z hr12]
  refine wa_gen (P := rel_ 1 x _ e1_ M0 _) (rl_new hr12 (.inr (0, 372)) (e1_n _ (by decide))) (fun M13 hr13 => ?_)
  refine wa_putF (q := (RX12, TX12, 50)) (ci := 12) (k := 18) dX12_init_60 rfl (by decide) wf_X12_34 rfl rfl (by decide) rfl (rl_sh hr13 (a := 0) (by decide) rfl) rfl ?_
  rw [mm_putR]
  refine wa_gen (P := rel_ 1 x _ e1_ M0 _) (rl_R hr13 (a := 0) (v := some 6) rfl rfl) (fun M14 hr14 => ?_)
  refine wa_aload_n dX12_init_63 rfl rfl ?_
  refine wa_sipush (v := 372) dX12_init_64 (by decide) ?_
  refine wa_newa (k := 0) (n := 372) dX12_init_67 (by decide) rfl wr_int (by decide) (by decide) (by decide) (fun _ => ?_)
  rw [rl_z hr14]
  refine wa_gen (P := rel_ 1 x _ e1_ M0 _) (rl_new hr14 (.inr (0, 372)) (e1_n _ (by decide))) (fun M15 hr15 => ?_)
  refine wa_putF (q := (RX12, TX12, 50)) (ci := 12) (k := 19) dX12_init_69 rfl (by decide) wf_X12_37 rfl rfl (by decide) rfl (rl_sh hr15 (a := 0) (by decide) rfl) rfl ?_
  rw [mm_putR]
  refine wa_gen (P := rel_ 1 x _ e1_ M0 _) (rl_R hr15 (a := 0) (v := some 7) rfl rfl) (fun M16 hr16 => ?_)
  refine wa_aload_n dX12_init_72 rfl rfl ?_
  refine wa_sipush (v := 1488) dX12_init_73 (by decide) ?_
  refine wa_newa (k := 0) (n := 1488) dX12_init_76 (by decide) rfl wr_int (by decide) (by decide) (by decide) (fun _ => ?_)
  rw [rl_z hr16]
  refine wa_gen (P := rel_ 1 x _ e1_ M0 _) (rl_new hr16 (.inr (0, 1488)) (e1_n _ (by decide))) (fun M17 hr17 => ?_)
  refine wa_putF (q := (RX12, TX12, 50)) (ci := 12) (k := 20) dX12_init_78 rfl (by decide) wf_X12_40 rfl rfl (by decide) rfl (rl_sh hr17 (a := 0) (by decide) rfl) rfl ?_
  rw [mm_putR]
  refine wa_gen (P := rel_ 1 x _ e1_ M0 _) (rl_R hr17 (a := 0) (v := some 8) rfl rfl) (fun M18 hr18 => ?_)
  refine wa_aload_n dX12_init_81 rfl rfl ?_
  refine wa_sipush (v := 1488) dX12_init_82 (by decide) ?_
  refine wa_newa (k := 0) (n := 1488) dX12_init_85 (by decide) rfl wr_int (by decide) (by decide) (by decide) (fun _ => ?_)
  rw [rl_z hr18]
  refine wa_gen (P := rel_ 1 x _ e1_ M0 _) (rl_new hr18 (.inr (0, 1488)) (e1_n _ (by decide))) (fun M19 hr19 => ?_)
  refine wa_putF (q := (RX12, TX12, 50)) (ci := 12) (k := 21) dX12_init_87 rfl (by decide) wf_X12_43 rfl rfl (by decide) rfl (rl_sh hr19 (a := 0) (by decide) rfl) rfl ?_
  rw [mm_putR]
  refine wa_gen (P := rel_ 1 x _ e1_ M0 _) (rl_R hr19 (a := 0) (v := some 9) rfl rfl) (fun M20 hr20 => ?_)
  refine wa_aload_n dX12_init_90 rfl rfl ?_
  refine wa_sipush (v := 1488) dX12_init_91 (by decide) ?_
  refine wa_newa (k := 0) (n := 1488) dX12_init_94 (by decide) rfl wr_int (by decide) (by decide) (by decide) (fun _ => ?_)
  rw [rl_z hr20]
  refine wa_gen (P := rel_ 1 x _ e1_ M0 _) (rl_new hr20 (.inr (0, 1488)) (e1_n _ (by decide))) (fun M21 hr21 => ?_)
  refine wa_putF (q := (RX12, TX12, 50)) (ci := 12) (k := 22) dX12_init_96 rfl (by decide) wf_X12_46 rfl rfl (by decide) rfl (rl_sh hr21 (a := 0) (by decide) rfl) rfl ?_
  rw [mm_putR]
  refine wa_gen (P := rel_ 1 x _ e1_ M0 _) (rl_R hr21 (a := 0) (v := some 10) rfl rfl) (fun M22 hr22 => ?_)
  refine wa_aload_n dX12_init_99 rfl rfl ?_
  refine wa_sipush (v := 1488) dX12_init_100 (by decide) ?_
  refine wa_newa (k := 0) (n := 1488) dX12_init_103 (by decide) rfl wr_int (by decide) (by decide) (by decide) (fun _ => ?_)
  rw [rl_z hr22]
  refine wa_gen (P := rel_ 1 x _ e1_ M0 _) (rl_new hr22 (.inr (0, 1488)) (e1_n _ (by decide))) (fun M23 hr23 => ?_)
  refine wa_putF (q := (RX12, TX12, 50)) (ci := 12) (k := 23) dX12_init_105 rfl (by decide) wf_X12_49 rfl rfl (by decide) rfl (rl_sh hr23 (a := 0) (by decide) rfl) rfl ?_
  rw [mm_putR]
  refine wa_gen (P := rel_ 1 x _ e1_ M0 _) (rl_R hr23 (a := 0) (v := some 11) rfl rfl) (fun M24 hr24 => ?_)
  refine wa_aload_n dX12_init_108 rfl rfl ?_
  refine wa_sipush (v := 1488) dX12_init_109 (by decide) ?_
  refine wa_newa (k := 0) (n := 1488) dX12_init_112 (by decide) rfl wr_int (by decide) (by decide) (by decide) (fun _ => ?_)
  rw [rl_z hr24]
  refine wa_gen (P := rel_ 1 x _ e1_ M0 _) (rl_new hr24 (.inr (0, 1488)) (e1_n _ (by decide))) (fun M25 hr25 => ?_)
  refine wa_putF (q := (RX12, TX12, 50)) (ci := 12) (k := 24) dX12_init_114 rfl (by decide) wf_X12_52 rfl rfl (by decide) rfl (rl_sh hr25 (a := 0) (by decide) rfl) rfl ?_
  rw [mm_putR]
  refine wa_gen (P := rel_ 1 x _ e1_ M0 _) (rl_R hr25 (a := 0) (v := some 12) rfl rfl) (fun M26 hr26 => ?_)
  refine wa_aload_n dX12_init_117 rfl rfl ?_
  refine wa_sipush (v := 1488) dX12_init_118 (by decide) ?_
  refine wa_newa (k := 0) (n := 1488) dX12_init_121 (by decide) rfl wr_int (by decide) (by decide) (by decide) (fun _ => ?_)
  rw [rl_z hr26]
  refine wa_gen (P := rel_ 1 x _ e1_ M0 _) (rl_new hr26 (.inr (0, 1488)) (e1_n _ (by decide))) (fun M27 hr27 => ?_)
  refine wa_putF (q := (RX12, TX12, 50)) (ci := 12) (k := 25) dX12_init_123 rfl (by decide) wf_X12_55 rfl rfl (by decide) rfl (rl_sh hr27 (a := 0) (by decide) rfl) rfl ?_
  rw [mm_putR]
  refine wa_gen (P := rel_ 1 x _ e1_ M0 _) (rl_R hr27 (a := 0) (v := some 13) rfl rfl) (fun M28 hr28 => ?_)
  refine wa_aload_n dX12_init_126 rfl rfl ?_
  refine wa_bipush (v := 8) dX12_init_127 (by decide) ?_
  refine wa_newa (k := 0) (n := 8) dX12_init_129 (by decide) rfl wr_int (by decide) (by decide) (by decide) (fun _ => ?_)
  rw [rl_z hr28]
  refine wa_gen (P := rel_ 1 x _ e1_ M0 _) (rl_new hr28 (.inr (0, 8)) (e1_n _ (by decide))) (fun M29 hr29 => ?_)
  refine wa_putF (q := (RX12, TX12, 50)) (ci := 12) (k := 28) dX12_init_131 rfl (by decide) wf_X12_58 rfl rfl (by decide) rfl (rl_sh hr29 (a := 0) (by decide) rfl) rfl ?_
  rw [mm_putR]
  refine wa_gen (P := rel_ 1 x _ e1_ M0 _) (rl_R hr29 (a := 0) (v := some 14) rfl rfl) (fun M30 hr30 => ?_)
  refine wa_aload_n dX12_init_134 rfl rfl ?_
  refine wa_bipush (v := 8) dX12_init_135 (by decide) ?_
  refine wa_newa (k := 0) (n := 8) dX12_init_137 (by decide) rfl wr_int (by decide) (by decide) (by decide) (fun _ => ?_)
  rw [rl_z hr30]
  refine wa_gen (P := rel_ 1 x _ e1_ M0 _) (rl_new hr30 (.inr (0, 8)) (e1_n _ (by decide))) (fun M31 hr31 => ?_)
  refine wa_putF (q := (RX12, TX12, 50)) (ci := 12) (k := 29) dX12_init_139 rfl (by decide) wf_X12_61 rfl rfl (by decide) rfl (rl_sh hr31 (a := 0) (by decide) rfl) rfl ?_
  rw [mm_putR]
  refine wa_gen (P := rel_ 1 x _ e1_ M0 _) (rl_R hr31 (a := 0) (v := some 15) rfl rfl) (fun M32 hr32 => ?_)
  refine wa_aload_n dX12_init_142 rfl rfl ?_
  refine wa_bipush (v := 8) dX12_init_143 (by decide) ?_
  refine wa_newa (k := 0) (n := 8) dX12_init_145 (by decide) rfl wr_int (by decide) (by decide) (by decide) (fun _ => ?_)
  rw [rl_z hr32]
  refine wa_gen (P := rel_ 1 x _ e1_ M0 _) (rl_new hr32 (.inr (0, 8)) (e1_n _ (by decide))) (fun M33 hr33 => ?_)
  refine wa_putF (q := (RX12, TX12, 50)) (ci := 12) (k := 30) dX12_init_147 rfl (by decide) wf_X12_64 rfl rfl (by decide) rfl (rl_sh hr33 (a := 0) (by decide) rfl) rfl ?_
  rw [mm_putR]
  refine wa_gen (P := rel_ 1 x _ e1_ M0 _) (rl_R hr33 (a := 0) (v := some 16) rfl rfl) (fun M34 hr34 => ?_)
  refine wa_aload_n dX12_init_150 rfl rfl ?_
  refine wa_bipush (v := 8) dX12_init_151 (by decide) ?_
  refine wa_newa (k := 0) (n := 8) dX12_init_153 (by decide) rfl wr_int (by decide) (by decide) (by decide) (fun _ => ?_)
  rw [rl_z hr34]
  refine wa_gen (P := rel_ 1 x _ e1_ M0 _) (rl_new hr34 (.inr (0, 8)) (e1_n _ (by decide))) (fun M35 hr35 => ?_)
  refine wa_putF (q := (RX12, TX12, 50)) (ci := 12) (k := 31) dX12_init_155 rfl (by decide) wf_X12_67 rfl rfl (by decide) rfl (rl_sh hr35 (a := 0) (by decide) rfl) rfl ?_
  rw [mm_putR]
  refine wa_gen (P := rel_ 1 x _ e1_ M0 _) (rl_R hr35 (a := 0) (v := some 17) rfl rfl) (fun M36 hr36 => ?_)
  refine wa_aload_n dX12_init_158 rfl rfl ?_
  refine wa_bipush (v := 8) dX12_init_159 (by decide) ?_
  refine wa_newa (k := 0) (n := 8) dX12_init_161 (by decide) rfl wr_int (by decide) (by decide) (by decide) (fun _ => ?_)
  rw [rl_z hr36]
  refine wa_gen (P := rel_ 1 x _ e1_ M0 _) (rl_new hr36 (.inr (0, 8)) (e1_n _ (by decide))) (fun M37 hr37 => ?_)
  refine wa_putF (q := (RX12, TX12, 50)) (ci := 12) (k := 32) dX12_init_163 rfl (by decide) wf_X12_70 rfl rfl (by decide) rfl (rl_sh hr37 (a := 0) (by decide) rfl) rfl ?_
  rw [mm_putR]
  refine wa_gen (P := rel_ 1 x _ e1_ M0 _) (rl_R hr37 (a := 0) (v := some 18) rfl rfl) (fun M38 hr38 => ?_)
  refine wa_aload_n dX12_init_166 rfl rfl ?_
  refine wa_bipush (v := 40) dX12_init_167 (by decide) ?_
  refine wa_newa (k := 0) (n := 40) dX12_init_169 (by decide) rfl wr_int (by decide) (by decide) (by decide) (fun _ => ?_)
  rw [rl_z hr38]
  refine wa_gen (P := rel_ 1 x _ e1_ M0 _) (rl_new hr38 (.inr (0, 40)) (e1_n _ (by decide))) (fun M39 hr39 => ?_)
  refine wa_putF (q := (RX12, TX12, 50)) (ci := 12) (k := 33) dX12_init_171 rfl (by decide) wf_X12_73 rfl rfl (by decide) rfl (rl_sh hr39 (a := 0) (by decide) rfl) rfl ?_
  rw [mm_putR]
  refine wa_gen (P := rel_ 1 x _ e1_ M0 _) (rl_R hr39 (a := 0) (v := some 19) rfl rfl) (fun M40 hr40 => ?_)
  refine wa_aload_n dX12_init_174 rfl rfl ?_
  refine wa_sipush (v := 240) dX12_init_175 (by decide) ?_
  refine wa_newa (k := 0) (n := 240) dX12_init_178 (by decide) rfl wr_int (by decide) (by decide) (by decide) (fun _ => ?_)
  rw [rl_z hr40]
  refine wa_gen (P := rel_ 1 x _ e1_ M0 _) (rl_new hr40 (.inr (0, 240)) (e1_n _ (by decide))) (fun M41 hr41 => ?_)
  refine wa_putF (q := (RX12, TX12, 50)) (ci := 12) (k := 34) dX12_init_180 rfl (by decide) wf_X12_76 rfl rfl (by decide) rfl (rl_sh hr41 (a := 0) (by decide) rfl) rfl ?_
  rw [mm_putR]
  refine wa_gen (P := rel_ 1 x _ e1_ M0 _) (rl_R hr41 (a := 0) (v := some 20) rfl rfl) (fun M42 hr42 => ?_)
  refine wa_aload_n dX12_init_183 rfl rfl ?_
  refine wa_sipush (v := 240) dX12_init_184 (by decide) ?_
  refine wa_newa (k := 0) (n := 240) dX12_init_187 (by decide) rfl wr_int (by decide) (by decide) (by decide) (fun _ => ?_)
  rw [rl_z hr42]
  refine wa_gen (P := rel_ 1 x _ e1_ M0 _) (rl_new hr42 (.inr (0, 240)) (e1_n _ (by decide))) (fun M43 hr43 => ?_)
  refine wa_putF (q := (RX12, TX12, 50)) (ci := 12) (k := 35) dX12_init_189 rfl (by decide) wf_X12_79 rfl rfl (by decide) rfl (rl_sh hr43 (a := 0) (by decide) rfl) rfl ?_
  rw [mm_putR]
  refine wa_gen (P := rel_ 1 x _ e1_ M0 _) (rl_R hr43 (a := 0) (v := some 21) rfl rfl) (fun M44 hr44 => ?_)
  refine wa_aload_n dX12_init_192 rfl rfl ?_
  refine wa_sipush (v := 240) dX12_init_193 (by decide) ?_
  refine wa_newa (k := 0) (n := 240) dX12_init_196 (by decide) rfl wr_int (by decide) (by decide) (by decide) (fun _ => ?_)
  rw [rl_z hr44]
  refine wa_gen (P := rel_ 1 x _ e1_ M0 _) (rl_new hr44 (.inr (0, 240)) (e1_n _ (by decide))) (fun M45 hr45 => ?_)
  refine wa_putF (q := (RX12, TX12, 50)) (ci := 12) (k := 36) dX12_init_198 rfl (by decide) wf_X12_82 rfl rfl (by decide) rfl (rl_sh hr45 (a := 0) (by decide) rfl) rfl ?_
  rw [mm_putR]
  refine wa_gen (P := rel_ 1 x _ e1_ M0 _) (rl_R hr45 (a := 0) (v := some 22) rfl rfl) (fun M46 hr46 => ?_)
  refine wa_aload_n dX12_init_201 rfl rfl ?_
  refine wa_sipush (v := 240) dX12_init_202 (by decide) ?_
  refine wa_newa (k := 2) (n := 240) dX12_init_205 (by decide) rfl wr_boolean (by decide) (by decide) (by decide) (fun _ => ?_)
  rw [rl_z hr46]
  refine wa_gen (P := rel_ 1 x _ e1_ M0 _) (rl_new hr46 (.inr (2, 240)) (e1_n _ (by decide))) (fun M47 hr47 => ?_)
  refine wa_putF (q := (RX12, TX12, 50)) (ci := 12) (k := 37) dX12_init_207 rfl (by decide) wf_X12_85 rfl rfl (by decide) rfl (rl_sh hr47 (a := 0) (by decide) rfl) rfl ?_
  rw [mm_putR]
  refine wa_gen (P := rel_ 1 x _ e1_ M0 _) (rl_R hr47 (a := 0) (v := some 23) rfl rfl) (fun M48 hr48 => ?_)
  refine wa_aload_n dX12_init_210 rfl rfl ?_
  refine wa_sipush (v := 200) dX12_init_211 (by decide) ?_
  refine wa_newa (k := 0) (n := 200) dX12_init_214 (by decide) rfl wr_int (by decide) (by decide) (by decide) (fun _ => ?_)
  rw [rl_z hr48]
  refine wa_gen (P := rel_ 1 x _ e1_ M0 _) (rl_new hr48 (.inr (0, 200)) (e1_n _ (by decide))) (fun M49 hr49 => ?_)
  refine wa_putF (q := (RX12, TX12, 50)) (ci := 12) (k := 39) dX12_init_216 rfl (by decide) wf_X12_89 rfl rfl (by decide) rfl (rl_sh hr49 (a := 0) (by decide) rfl) rfl ?_
  rw [mm_putR]
  refine wa_gen (P := rel_ 1 x _ e1_ M0 _) (rl_R hr49 (a := 0) (v := some 24) rfl rfl) (fun M50 hr50 => ?_)
  refine wa_aload_n dX12_init_219 rfl rfl ?_
  refine wa_sipush (v := 200) dX12_init_220 (by decide) ?_
  refine wa_newa (k := 0) (n := 200) dX12_init_223 (by decide) rfl wr_int (by decide) (by decide) (by decide) (fun _ => ?_)
  rw [rl_z hr50]
  refine wa_gen (P := rel_ 1 x _ e1_ M0 _) (rl_new hr50 (.inr (0, 200)) (e1_n _ (by decide))) (fun M51 hr51 => ?_)
  refine wa_putF (q := (RX12, TX12, 50)) (ci := 12) (k := 40) dX12_init_225 rfl (by decide) wf_X12_92 rfl rfl (by decide) rfl (rl_sh hr51 (a := 0) (by decide) rfl) rfl ?_
  rw [mm_putR]
  refine wa_gen (P := rel_ 1 x _ e1_ M0 _) (rl_R hr51 (a := 0) (v := some 25) rfl rfl) (fun M52 hr52 => ?_)
  refine wa_aload_n dX12_init_228 rfl rfl ?_
  refine wa_sipush (v := 200) dX12_init_229 (by decide) ?_
  refine wa_newa (k := 0) (n := 200) dX12_init_232 (by decide) rfl wr_int (by decide) (by decide) (by decide) (fun _ => ?_)
  rw [rl_z hr52]
  refine wa_gen (P := rel_ 1 x _ e1_ M0 _) (rl_new hr52 (.inr (0, 200)) (e1_n _ (by decide))) (fun M53 hr53 => ?_)
  refine wa_putF (q := (RX12, TX12, 50)) (ci := 12) (k := 41) dX12_init_234 rfl (by decide) wf_X12_95 rfl rfl (by decide) rfl (rl_sh hr53 (a := 0) (by decide) rfl) rfl ?_
  rw [mm_putR]
  refine wa_gen (P := rel_ 1 x _ e1_ M0 _) (rl_R hr53 (a := 0) (v := some 26) rfl rfl) (fun M54 hr54 => ?_)
  refine wa_aload_n dX12_init_237 rfl rfl ?_
  refine wa_sipush (v := 200) dX12_init_238 (by decide) ?_
  refine wa_newa (k := 0) (n := 200) dX12_init_241 (by decide) rfl wr_int (by decide) (by decide) (by decide) (fun _ => ?_)
  rw [rl_z hr54]
  refine wa_gen (P := rel_ 1 x _ e1_ M0 _) (rl_new hr54 (.inr (0, 200)) (e1_n _ (by decide))) (fun M55 hr55 => ?_)
  refine wa_putF (q := (RX12, TX12, 50)) (ci := 12) (k := 42) dX12_init_243 rfl (by decide) wf_X12_98 rfl rfl (by decide) rfl (rl_sh hr55 (a := 0) (by decide) rfl) rfl ?_
  rw [mm_putR]
  refine wa_gen (P := rel_ 1 x _ e1_ M0 _) (rl_R hr55 (a := 0) (v := some 27) rfl rfl) (fun M56 hr56 => ?_)
  refine wa_aload_n dX12_init_246 rfl rfl ?_
  refine wa_sipush (v := 200) dX12_init_247 (by decide) ?_
  refine wa_newa (k := 0) (n := 200) dX12_init_250 (by decide) rfl wr_int (by decide) (by decide) (by decide) (fun _ => ?_)
  rw [rl_z hr56]
  refine wa_gen (P := rel_ 1 x _ e1_ M0 _) (rl_new hr56 (.inr (0, 200)) (e1_n _ (by decide))) (fun M57 hr57 => ?_)
  refine wa_putF (q := (RX12, TX12, 50)) (ci := 12) (k := 43) dX12_init_252 rfl (by decide) wf_X12_101 rfl rfl (by decide) rfl (rl_sh hr57 (a := 0) (by decide) rfl) rfl ?_
  rw [mm_putR]
  refine wa_gen (P := rel_ 1 x _ e1_ M0 _) (rl_R hr57 (a := 0) (v := some 28) rfl rfl) (fun M58 hr58 => ?_)
  refine wa_aload_n dX12_init_255 rfl rfl ?_
  refine wa_sipush (v := 200) dX12_init_256 (by decide) ?_
  refine wa_newa (k := 0) (n := 200) dX12_init_259 (by decide) rfl wr_int (by decide) (by decide) (by decide) (fun _ => ?_)
  rw [rl_z hr58]
  refine wa_gen (P := rel_ 1 x _ e1_ M0 _) (rl_new hr58 (.inr (0, 200)) (e1_n _ (by decide))) (fun M59 hr59 => ?_)
  refine wa_putF (q := (RX12, TX12, 50)) (ci := 12) (k := 44) dX12_init_261 rfl (by decide) wf_X12_104 rfl rfl (by decide) rfl (rl_sh hr59 (a := 0) (by decide) rfl) rfl ?_
  rw [mm_putR]
  refine wa_gen (P := rel_ 1 x _ e1_ M0 _) (rl_R hr59 (a := 0) (v := some 29) rfl rfl) (fun M60 hr60 => ?_)
  refine wa_aload_n dX12_init_264 rfl rfl ?_
  refine wa_sipush (v := 200) dX12_init_265 (by decide) ?_
  refine wa_newa (k := 0) (n := 200) dX12_init_268 (by decide) rfl wr_int (by decide) (by decide) (by decide) (fun _ => ?_)
  rw [rl_z hr60]
  refine wa_gen (P := rel_ 1 x _ e1_ M0 _) (rl_new hr60 (.inr (0, 200)) (e1_n _ (by decide))) (fun M61 hr61 => ?_)
  refine wa_putF (q := (RX12, TX12, 50)) (ci := 12) (k := 45) dX12_init_270 rfl (by decide) wf_X12_107 rfl rfl (by decide) rfl (rl_sh hr61 (a := 0) (by decide) rfl) rfl ?_
  rw [mm_putR]
  refine wa_gen (P := rel_ 1 x _ e1_ M0 _) (rl_R hr61 (a := 0) (v := some 30) rfl rfl) (fun M62 hr62 => ?_)
  refine wa_aload_n dX12_init_273 rfl rfl ?_
  refine wa_sipush (v := 200) dX12_init_274 (by decide) ?_
  refine wa_newa (k := 0) (n := 200) dX12_init_277 (by decide) rfl wr_int (by decide) (by decide) (by decide) (fun _ => ?_)
  rw [rl_z hr62]
  refine wa_gen (P := rel_ 1 x _ e1_ M0 _) (rl_new hr62 (.inr (0, 200)) (e1_n _ (by decide))) (fun M63 hr63 => ?_)
  refine wa_putF (q := (RX12, TX12, 50)) (ci := 12) (k := 46) dX12_init_279 rfl (by decide) wf_X12_110 rfl rfl (by decide) rfl (rl_sh hr63 (a := 0) (by decide) rfl) rfl ?_
  rw [mm_putR]
  refine wa_gen (P := rel_ 1 x _ e1_ M0 _) (rl_R hr63 (a := 0) (v := some 31) rfl rfl) (fun M64 hr64 => ?_)
  refine wa_aload_n dX12_init_282 rfl rfl ?_
  refine wa_sipush (v := 1000) dX12_init_283 (by decide) ?_
  refine wa_newa (k := 0) (n := 1000) dX12_init_286 (by decide) rfl wr_int (by decide) (by decide) (by decide) (fun _ => ?_)
  rw [rl_z hr64]
  refine wa_gen (P := rel_ 1 x _ e1_ M0 _) (rl_new hr64 (.inr (0, 1000)) (e1_n _ (by decide))) (fun M65 hr65 => ?_)
  refine wa_putF (q := (RX12, TX12, 50)) (ci := 12) (k := 47) dX12_init_288 rfl (by decide) wf_X12_113 rfl rfl (by decide) rfl (rl_sh hr65 (a := 0) (by decide) rfl) rfl ?_
  rw [mm_putR]
  refine wa_gen (P := rel_ 1 x _ e1_ M0 _) (rl_R hr65 (a := 0) (v := some 32) rfl rfl) (fun M66 hr66 => ?_)
  refine wa_aload_n dX12_init_291 rfl rfl ?_
  refine wa_sipush (v := 5001) dX12_init_292 (by decide) ?_
  refine wa_newa (k := 3) (n := 5001) dX12_init_295 (by decide) rfl wr_long (by decide) (by decide) (by decide) (fun _ => ?_)
  rw [rl_z hr66]
  refine wa_gen (P := rel_ 1 x _ e1_ M0 _) (rl_new hr66 (.inr (3, 5001)) (e1_n _ (by decide))) (fun M67 hr67 => ?_)
  refine wa_putF (q := (RX12, TX12, 50)) (ci := 12) (k := 48) dX12_init_297 rfl (by decide) wf_X12_116 rfl rfl (by decide) rfl (rl_sh hr67 (a := 0) (by decide) rfl) rfl ?_
  rw [mm_putR]
  refine wa_gen (P := rel_ 1 x _ e1_ M0 _) (rl_R hr67 (a := 0) (v := some 33) rfl rfl) (fun M68 hr68 => ?_)
  refine wa_aload_n dX12_init_300 rfl rfl ?_
  refine wa_iconst (v := 5) dX12_init_301 (by decide) ?_
  refine wa_newa (k := 0) (n := 5) dX12_init_302 (by decide) rfl wr_int (by decide) (by decide) (by decide) (fun _ => ?_)
  rw [rl_z hr68]
  refine wa_gen (P := rel_ 1 x _ e1_ M0 _) (rl_new hr68 (.inr (0, 5)) (e1_n _ (by decide))) (fun M69 hr69 => ?_)
  refine wa_putF (q := (RX12, TX12, 50)) (ci := 12) (k := 49) dX12_init_304 rfl (by decide) wf_X12_120 rfl rfl (by decide) rfl (rl_sh hr69 (a := 0) (by decide) rfl) rfl ?_
  rw [mm_putR]
  refine wa_gen (P := rel_ 1 x _ e1_ M0 _) (rl_R hr69 (a := 0) (v := some 34) rfl rfl) (fun M70 hr70 => ?_)
  exact wa_vret dX12_init_307 rfl (hQ _ hr70)

/-! what stands behind the constructors -/
theorem ini_10 {x : Nat} {M0 M : mm_M} (h : rel_ 99 x 13 e0_ M0 rs_10 M) : dsk_ M x ∧ ∀ i k, i < 13 → i ≠ 10 ∨ k ≠ 4 → mm_I M (x + i) k = 0 := by
  have hR : ∀ i k v, i < 13 → rs_10.2 i k = some v → mm_R M (x + i) k = some (x + v) := fun i k v hi hv => by
    rw [(h.2.2.2.2 i hi).2.2 (by omega) k, hv]; rfl
  have hS : ∀ i s, i < 13 → rs_10.1 i = some s → mm_sh M (x + i) = some s := fun i s hi hs => by
    rw [(h.2.2.2.2 i hi).1, hs]
  refine ⟨⟨⟨hS 0 _ (by decide) rfl, hR 0 0 1 (by decide) rfl, hS 1 _ (by decide) rfl, hR 0 1 2 (by decide) rfl, hS 2 _ (by decide) rfl, hR 0 2 3 (by decide) rfl, hS 3 _ (by decide) rfl, hR 0 3 4 (by decide) rfl, hS 4 _ (by decide) rfl, hR 0 4 6 (by decide) rfl, hS 6 _ (by decide) rfl, hR 0 5 10 (by decide) rfl, hS 10 _ (by decide) rfl, hR 0 6 11 (by decide) rfl, hS 11 _ (by decide) rfl⟩, ⟨hS 4 _ (by decide) rfl, hR 4 0 5 (by decide) rfl, hS 5 _ (by decide) rfl⟩, ⟨hS 6 _ (by decide) rfl, hR 6 0 7 (by decide) rfl, hS 7 _ (by decide) rfl, hR 6 1 8 (by decide) rfl, hS 8 _ (by decide) rfl, hR 6 2 9 (by decide) rfl, hS 9 _ (by decide) rfl⟩, hR 10 2 6 (by decide) rfl, hR 11 0 12 (by decide) rfl, hS 12 _ (by decide) rfl⟩, fun i k hi hk => (h.2.2.2.2 i hi).2.1 k 0 ?_⟩
  unfold e0_
  rw [if_neg (by omega)]
theorem ini_12t : ∀ q ∈ md_tab, rs_12.2 0 q.1 = some q.2.1 ∧ rs_12.1 q.2.1 = some q.2.2 ∧ q.2.1 < 35 := by decide +kernel
theorem ini_12 {x : Nat} {M0 M : mm_M} (h : rel_ 1 x 35 e1_ M0 rs_12 M) : mdl_ M x ∧ mm_I M x 2 = -1 ∧ ∀ i k, i < 35 → i ≠ 0 ∨ k ≠ 2 → mm_I M (x + i) k = 0 := by
  refine ⟨⟨?_, fun q hq => ?_⟩, (h.2.2.2.2 0 (by decide)).2.1 2 (-1) rfl, fun i k hi hk => (h.2.2.2.2 i hi).2.1 k 0 ?_⟩
  · have := (h.2.2.2.2 0 (by decide)).1
    rw [Nat.add_zero] at this
    rw [this]; rfl
  · obtain ⟨q1, q2, q3⟩ := ini_12t q hq
    have a1 := (h.2.2.2.2 0 (by decide)).2.2 (by decide) q.1
    rw [q1, Nat.add_zero] at a1
    refine ⟨a1, ?_⟩
    rw [(h.2.2.2.2 _ q3).1, q2]
  · unfold e1_
    rw [if_neg (by omega)]
