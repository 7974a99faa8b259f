/-! constructors: cells x .. x + n - 1 are new since M0; w is a cell whose references nobody asks for -/
abbrev rs_S : Type := (Nat → Option mm_S) × (Nat → Nat → Option Nat)
def rs_n (S : rs_S) (n : Nat) (s : mm_S) : rs_S := (fun i => if i = n then some s else S.1 i, fun i k => if i = n then none else S.2 i k)
def rs_R (S : rs_S) (a k : Nat) (v : Option Nat) : rs_S := (S.1, fun i j => if i = a ∧ j = k then v else S.2 i j)
def rel_ (w x n : Nat) (e : Nat → Nat → Option Int32) (M0 : mm_M) (S : rs_S) (M : mm_M) : Prop := (∀ b t, mm_sh M b = some t → b < mm_z M) ∧ mm_z M = x + n ∧ nw_ (fun _ => False) (fun _ => False) M0 M ∧ (∀ b t, mm_sh M0 b = some t → b < x) ∧ ∀ i, i < n → mm_sh M (x + i) = S.1 i ∧ (∀ k v, e i k = some v → mm_I M (x + i) k = v) ∧ (i ≠ w → ∀ k, mm_R M (x + i) k = (S.2 i k).map (x + ·))
section RL
variable {w x n : Nat} {e : Nat → Nat → Option Int32} {M0 M : mm_M} {S : rs_S}
theorem rl_z (h : rel_ w x n e M0 S M) : mm_z M = x + n := h.2.1
theorem rl_ext (h : rel_ w x n e M0 S M) (s : mm_S) : mm_ext M s := fun b t hb => by
  have hne : b ≠ mm_z M := Nat.ne_of_lt (h.1 b t hb)
  refine ⟨?_, hne, h.1 b t hb⟩
  show (if b = mm_z M then some s else M.1 b) = some t
  rw [if_neg hne]; exact hb
theorem rl_sh (h : rel_ w x n e M0 S M) {a : Nat} {s : mm_S} (ha : a < n) (hs : S.1 a = some s) : mm_sh M (x + a) = some s := by rw [(h.2.2.2.2 a ha).1, hs]
theorem rl_new (h : rel_ w x n e M0 S M) (s : mm_S) (he : ∀ k v, e n k = some v → v = 0) : rel_ w x (n + 1) e M0 (rs_n S n s) (mm_new M s) := by
  have hx := rl_ext h s
  refine ⟨fun b t hb => ?_, ?_, nw_new h.2.2.1 hx, h.2.2.2.1, fun i hi => ?_⟩
  · by_cases hbz : b = mm_z M
    · rw [hbz]; exact Nat.lt_succ_self _
    · have : mm_sh M b = some t := by
        have h2 : mm_sh (mm_new M s) b = mm_sh M b := by
          show (if b = mm_z M then some s else M.1 b) = M.1 b
          rw [if_neg hbz]
        rw [← h2]; exact hb
      exact Nat.lt_succ_of_lt (h.1 b t this)
  · show mm_z M + 1 = x + (n + 1)
    rw [h.2.1]; omega
  · by_cases hin : i = n
    · subst hin
      rw [← h.2.1]
      refine ⟨?_, fun k v hv => ?_, fun _ k => ?_⟩
      · rw [mm_sh_z]; show _ = (if i = i then some s else S.1 i); rw [if_pos rfl]
      · rw [mm_new_I]; exact (he k v hv).symm
      · rw [mm_new_R]; show _ = (if i = i then none else S.2 i k).map _; rw [if_pos rfl]; rfl
    · have hlt : i < n := by omega
      obtain ⟨h1, h2, h3⟩ := h.2.2.2.2 i hlt
      have hne : x + i ≠ mm_z M := by rw [h.2.1]; omega
      refine ⟨?_, fun k v hv => ?_, fun hw k => ?_⟩
      · show (if x + i = mm_z M then some s else M.1 (x + i)) = (if i = n then some s else S.1 i)
        rw [if_neg hne, if_neg hin]; exact h1
      · rw [mm_new_Io hne]; exact h2 k v hv
      · rw [mm_new_Ro hne, h3 hw k]; show _ = (if i = n then none else S.2 i k).map _; rw [if_neg hin]
theorem rl_R (h : rel_ w x n e M0 S M) {A : Nat} {a k : Nat} {V v : Option Nat} (hA : A = x + a) (hV : V = v.map (x + ·)) : rel_ w x n e M0 (rs_R S a k v) (mm_sR M A k V) := by
  subst hA hV
  refine ⟨h.1, h.2.1, nw_R h.2.2.1 (Or.inr (fun u hu => ?_)), h.2.2.2.1, fun i hi => ?_⟩
  · have := h.2.2.2.1 _ _ hu
    omega
  · obtain ⟨h1, h2, h3⟩ := h.2.2.2.2 i hi
    refine ⟨h1, h2, fun hw j => ?_⟩
    rw [mm_R_sR]
    show _ = (if i = a ∧ j = k then v else S.2 i j).map _
    by_cases hq : i = a ∧ j = k
    · rw [if_pos hq, if_pos ⟨by omega, hq.2⟩]
    · rw [if_neg hq, if_neg (fun z => hq ⟨by omega, z.2⟩)]; exact h3 hw j
theorem rl_I (h : rel_ w x n e M0 S M) {A : Nat} {a k : Nat} {v : Int32} (hA : A = x + a) (hv : ∀ u, e a k = some u → u = v) : rel_ w x n e M0 S (mm_sI M A k v) := by
  subst hA
  refine ⟨h.1, h.2.1, nw_I h.2.2.1 (Or.inr (fun u hu => ?_)), h.2.2.2.1, fun i hi => ?_⟩
  · have := h.2.2.2.1 _ _ hu
    omega
  · obtain ⟨h1, h2, h3⟩ := h.2.2.2.2 i hi
    refine ⟨h1, fun j u hu => ?_, h3⟩
    rw [mm_I_sI]
    by_cases hq : i = a ∧ j = k
    · rw [if_pos ⟨by omega, hq.2⟩]
      rw [hq.1, hq.2] at hu
      exact (hv u hu).symm
    · rw [if_neg (fun z => hq ⟨by omega, z.2⟩)]; exact h2 j u hu
/-- references of the cell w have changed, and nothing else -/
theorem rl_w (h : rel_ w x n e M0 S M) {M2 : mm_M} (h1 : M2.1 = M.1) (h2 : M2.2.1 = M.2.1) (h3 : M2.2.2.1 = M.2.2.1) (h4 : mm_z M2 = mm_z M) (h5 : ∀ b, b ≠ x + w → mm_R M2 b = mm_R M b) : rel_ w x n e M0 S M2 := by
  have e1 : mm_sh M2 = mm_sh M := h1
  have e2 : mm_I M2 = mm_I M := h2
  have e3 : mm_L M2 = mm_L M := h3
  refine ⟨fun b t hb => by rw [h4]; exact h.1 b t (by rw [← e1]; exact hb), by rw [h4]; exact h.2.1, fun a s ha => ?_, h.2.2.2.1, fun i hi => ?_⟩
  · obtain ⟨k1, k2, k3, k4⟩ := h.2.2.1 a s ha
    have := h.2.2.2.1 _ _ ha
    exact ⟨by rw [e1]; exact k1, by rw [e2]; exact k2, by rw [e3]; exact k3, fun q => by rw [h5 a (by omega)]; exact k4 q⟩
  · obtain ⟨k1, k2, k3⟩ := h.2.2.2.2 i hi
    exact ⟨by rw [e1]; exact k1, by rw [e2]; exact k2, fun hw k => by rw [h5 _ (by omega)]; exact k3 hw k⟩
end RL
theorem wa_gen {fl : Nat} {G : mm_G} {J : mm_J} {d mc ms kc ks : Nat} {Q : Option Value → mm_M → Prop} {M : mm_M} {pc : Nat} {lv : List (Option Value)} {st : List Value} {P : mm_M → Prop} (h : P M) (kk : ∀ M2 : mm_M, P M2 → wa_ fl G J d mc ms Q kc ks M2 pc lv st) : wa_ fl G J d mc ms Q kc ks M pc lv st := kk M h
def e0_ : Nat → Nat → Option Int32 := fun i k => if i = 10 ∧ k = 4 then none else some 0
theorem e0_n (n : Nat) : ∀ k v, e0_ n k = some v → v = 0 := fun k v h => by
  unfold e0_ at h
  split at h
  · cases h
  · exact (Option.some.inj h).symm
def e1_ : Nat → Nat → Option Int32 := fun i k => if i = 0 ∧ k = 2 then some (-1) else some 0
theorem e1_n (n : Nat) (hn : 0 < n) : ∀ k v, e1_ n k = some v → v = 0 := fun k v h => by
  unfold e1_ at h
  rw [if_neg (by omega)] at h
  exact (Option.some.inj h).symm

theorem k_X5_init {G : mm_G} {d : Nat} {Q : Option Value → mm_M → Prop} {M : mm_M} {w x : Nat} {M0 : mm_M} {S : rs_S} (hr : rel_ w x 5 e0_ M0 S M) (ha : S.1 4 = some (.inl 5)) (hQ : ∀ M', rel_ w x 6 e0_ M0 (rs_R (rs_n S 5 (.inr (0, 300))) 4 0 (some 5)) M' → Q none M') : ma_ G jX5_init (d + 1) 1 300 [.ref (x + 4)] M Q := by
  refine ma_of [some (.ref (x + 4))] (by decide) rfl (Nat.le_of_ble_eq_true rfl) ?_
  refine wa_aload_n dX5_init_0 rfl rfl ?_
  refine wa_obj dX5_init_1 lo_X5_3 wi_obj wk_obj (Nat.le_of_ble_eq_true rfl) ?_
  refine wa_aload_n dX5_init_4 rfl rfl ?_
  refine wa_sipush (v := 300) dX5_init_5 (by decide) ?_
  refine wa_newa (k := 0) (n := 300) dX5_init_8 (by decide) rfl wr_int (by decide) (by decide) (by decide) (fun _ => ?_)
  rw [rl_z hr]
  refine wa_gen (P := rel_ w x _ e0_ M0 _) (rl_new hr (.inr (0, 300)) (e0_n _)) (fun M1 hr1 => ?_)
  refine wa_putF (q := (RX5, TX5, 2)) (ci := 5) (k := 0) dX5_init_10 rfl (by decide) wf_X5_9 rfl rfl (by decide) rfl (rl_sh hr1 (a := 4) (by decide) ha) rfl ?_
  rw [mm_putR]
  refine wa_gen (P := rel_ w x _ e0_ M0 _) (rl_R hr1 (a := 4) (v := some 5) rfl rfl) (fun M2 hr2 => ?_)
  refine wa_aload_n dX5_init_13 rfl rfl ?_
  refine wa_iconst (v := 0) dX5_init_14 (by decide) ?_
  refine wa_put (q := (RX5, TX5, 2)) (ci := 5) (k := 1) dX5_init_15 rfl (by decide) wf_X5_15 rfl (rl_sh hr2 (a := 4) (by decide) ha) rfl ?_
  rw [mm_putI]
  refine wa_gen (P := rel_ w x _ e0_ M0 _) (rl_I hr2 (a := 4) rfl (e0_n _ _)) (fun M3 hr3 => ?_)
  exact wa_vret dX5_init_18 rfl (hQ _ hr3)

theorem k_X9_init {G : mm_G} {d : Nat} {Q : Option Value → mm_M → Prop} {M : mm_M} {w x : Nat} {M0 : mm_M} {S : rs_S} (hr : rel_ w x 7 e0_ M0 S M) (ha : S.1 6 = some (.inl 9)) (hQ : ∀ M', rel_ w x 10 e0_ M0 (rs_R (rs_n (rs_R (rs_n (rs_R (rs_n S 7 (.inr (0, 301))) 6 0 (some 7)) 8 (.inr (0, 301))) 6 1 (some 8)) 9 (.inr (0, 301))) 6 2 (some 9)) M' → Q none M') : ma_ G jX9_init (d + 1) 3 903 [.ref (x + 6)] M Q := by
  refine ma_of [some (.ref (x + 6))] (by decide) rfl (Nat.le_of_ble_eq_true rfl) ?_
  refine wa_aload_n dX9_init_0 rfl rfl ?_
  refine wa_obj dX9_init_1 lo_X9_3 wi_obj wk_obj (Nat.le_of_ble_eq_true rfl) ?_
  refine wa_aload_n dX9_init_4 rfl rfl ?_
  refine wa_sipush (v := 301) dX9_init_5 (by decide) ?_
  refine wa_newa (k := 0) (n := 301) dX9_init_8 (by decide) rfl wr_int (by decide) (by decide) (by decide) (fun _ => ?_)
  rw [rl_z hr]
  refine wa_gen (P := rel_ w x _ e0_ M0 _) (rl_new hr (.inr (0, 301)) (e0_n _)) (fun M1 hr1 => ?_)
  refine wa_putF (q := (RX9, TX9, 4)) (ci := 9) (k := 0) dX9_init_10 rfl (by decide) wf_X9_9 rfl rfl (by decide) rfl (rl_sh hr1 (a := 6) (by decide) ha) rfl ?_
  rw [mm_putR]
  refine wa_gen (P := rel_ w x _ e0_ M0 _) (rl_R hr1 (a := 6) (v := some 7) rfl rfl) (fun M2 hr2 => ?_)
  refine wa_aload_n dX9_init_13 rfl rfl ?_
  refine wa_sipush (v := 301) dX9_init_14 (by decide) ?_
  refine wa_newa (k := 0) (n := 301) dX9_init_17 (by decide) rfl wr_int (by decide) (by decide) (by decide) (fun _ => ?_)
  rw [rl_z hr2]
  refine wa_gen (P := rel_ w x _ e0_ M0 _) (rl_new hr2 (.inr (0, 301)) (e0_n _)) (fun M3 hr3 => ?_)
  refine wa_putF (q := (RX9, TX9, 4)) (ci := 9) (k := 1) dX9_init_19 rfl (by decide) wf_X9_15 rfl rfl (by decide) rfl (rl_sh hr3 (a := 6) (by decide) ha) rfl ?_
  rw [mm_putR]
  refine wa_gen (P := rel_ w x _ e0_ M0 _) (rl_R hr3 (a := 6) (v := some 8) rfl rfl) (fun M4 hr4 => ?_)
  refine wa_aload_n dX9_init_22 rfl rfl ?_
  refine wa_sipush (v := 301) dX9_init_23 (by decide) ?_
  refine wa_newa (k := 0) (n := 301) dX9_init_26 (by decide) rfl wr_int (by decide) (by decide) (by decide) (fun _ => ?_)
  rw [rl_z hr4]
  refine wa_gen (P := rel_ w x _ e0_ M0 _) (rl_new hr4 (.inr (0, 301)) (e0_n _)) (fun M5 hr5 => ?_)
  refine wa_putF (q := (RX9, TX9, 4)) (ci := 9) (k := 2) dX9_init_28 rfl (by decide) wf_X9_18 rfl rfl (by decide) rfl (rl_sh hr5 (a := 6) (by decide) ha) rfl ?_
  rw [mm_putR]
  refine wa_gen (P := rel_ w x _ e0_ M0 _) (rl_R hr5 (a := 6) (v := some 9) rfl rfl) (fun M6 hr6 => ?_)
  refine wa_aload_n dX9_init_31 rfl rfl ?_
  refine wa_iconst (v := 0) dX9_init_32 (by decide) ?_
  refine wa_put (q := (RX9, TX9, 4)) (ci := 9) (k := 3) dX9_init_33 rfl (by decide) wf_X9_21 rfl (rl_sh hr6 (a := 6) (by decide) ha) rfl ?_
  rw [mm_putI]
  refine wa_gen (P := rel_ w x _ e0_ M0 _) (rl_I hr6 (a := 6) rfl (e0_n _ _)) (fun M7 hr7 => ?_)
  exact wa_vret dX9_init_36 rfl (hQ _ hr7)

theorem k_X4_init {G : mm_G} {d : Nat} {Q : Option Value → mm_M → Prop} {M : mm_M} {w x : Nat} {M0 : mm_M} {S : rs_S} (hr : rel_ w x 11 e0_ M0 S M) (ha : S.1 10 = some (.inl 4)) (hQ : ∀ M', rel_ w x 11 e0_ M0 (rs_R S 10 2 (some 6)) M' → Q none M') : ma_ G jX4_init (d + 1) 0 0 [.ref (x + 10), .ref (x + 6)] M Q := by
  refine ma_of [some (.ref (x + 10)), some (.ref (x + 6))] (by decide) rfl (Nat.le_of_ble_eq_true rfl) ?_
  refine wa_aload_n dX4_init_0 rfl rfl ?_
  refine wa_obj dX4_init_1 lo_X4_3 wi_obj wk_obj (Nat.le_of_ble_eq_true rfl) ?_
  refine wa_aload_n dX4_init_4 rfl rfl ?_
  refine wa_iconst (v := 0) dX4_init_5 (by decide) ?_
  refine wa_put (q := (RX4, TX4, 6)) (ci := 4) (k := 0) dX4_init_6 rfl (by decide) wf_X4_9 rfl (rl_sh hr (a := 10) (by decide) ha) rfl ?_
  rw [mm_putI]
  refine wa_gen (P := rel_ w x _ e0_ M0 _) (rl_I hr (a := 10) rfl (e0_n _ _)) (fun M1 hr1 => ?_)
  refine wa_aload_n dX4_init_9 rfl rfl ?_
  refine wa_iconst (v := 0) dX4_init_10 (by decide) ?_
  refine wa_put (q := (RX4, TX4, 6)) (ci := 4) (k := 1) dX4_init_11 rfl (by decide) wf_X4_15 rfl (rl_sh hr1 (a := 10) (by decide) ha) rfl ?_
  rw [mm_putI]
  refine wa_gen (P := rel_ w x _ e0_ M0 _) (rl_I hr1 (a := 10) rfl (e0_n _ _)) (fun M2 hr2 => ?_)
  refine wa_aload_n dX4_init_14 rfl rfl ?_
  refine wa_iconst (v := 0) dX4_init_15 (by decide) ?_
  refine wa_put (q := (RX4, TX4, 6)) (ci := 4) (k := 3) dX4_init_16 rfl (by decide) wf_X4_18 rfl (rl_sh hr2 (a := 10) (by decide) ha) rfl ?_
  rw [mm_putI]
  refine wa_gen (P := rel_ w x _ e0_ M0 _) (rl_I hr2 (a := 10) rfl (e0_n _ _)) (fun M3 hr3 => ?_)
  refine wa_aload_n dX4_init_19 rfl rfl ?_
  refine wa_bipush (v := 13) dX4_init_20 (by decide) ?_
  refine wa_put (q := (RX4, TX4, 6)) (ci := 4) (k := 4) dX4_init_22 rfl (by decide) wf_X4_21 rfl (rl_sh hr3 (a := 10) (by decide) ha) rfl ?_
  rw [mm_putI]
  refine wa_gen (P := rel_ w x _ e0_ M0 _) (rl_I hr3 (a := 10) rfl (fun u h => by cases h)) (fun M4 hr4 => ?_)
  refine wa_aload_n dX4_init_25 rfl rfl ?_
  refine wa_iconst (v := 0) dX4_init_26 (by decide) ?_
  refine wa_put (q := (RX4, TX4, 6)) (ci := 4) (k := 5) dX4_init_27 rfl (by decide) wf_X4_24 rfl (rl_sh hr4 (a := 10) (by decide) ha) rfl ?_
  rw [mm_putI]
  refine wa_gen (P := rel_ w x _ e0_ M0 _) (rl_I hr4 (a := 10) rfl (e0_n _ _)) (fun M5 hr5 => ?_)
  refine wa_aload_n dX4_init_30 rfl rfl ?_
  refine wa_aload_n dX4_init_31 rfl rfl ?_
  refine wa_putF (q := (RX4, TX4, 6)) (ci := 4) (k := 2) dX4_init_32 rfl (by decide) wf_X4_27 rfl rfl (by decide) rfl (rl_sh hr5 (a := 10) (by decide) ha) rfl ?_
  rw [mm_putR]
  refine wa_gen (P := rel_ w x _ e0_ M0 _) (rl_R hr5 (a := 10) (v := some 6) rfl rfl) (fun M6 hr6 => ?_)
  exact wa_vret dX4_init_35 rfl (hQ _ hr6)

theorem k_X0_init {G : mm_G} {d : Nat} {Q : Option Value → mm_M → Prop} {M : mm_M} {w x : Nat} {M0 : mm_M} {S : rs_S} (hr : rel_ w x 12 e0_ M0 S M) (ha : S.1 11 = some (.inl 0)) (w0 : Nat) (hG0 : G.2.2.2.1 0 = .ref w0) (hw0 : mm_sh M w0 = some (.inr (10, 5))) (hQ : ∀ M', rel_ w x 13 e0_ M0 (rs_R (rs_R (rs_n S 12 (.inr (0, 5))) 11 0 (some 12)) 11 1 none) M' → Q none M') : ma_ G jX0_init (d + 1) 1 5 [.ref (x + 11)] M Q := by
  refine ma_of [some (.ref (x + 11))] (by decide) rfl (Nat.le_of_ble_eq_true rfl) ?_
  refine wa_aload_n dX0_init_0 rfl rfl ?_
  refine wa_obj dX0_init_1 lo_X0_1 wi_obj wk_obj (Nat.le_of_ble_eq_true rfl) ?_
  refine wa_aload_n dX0_init_4 rfl rfl ?_
  refine wa_getsN (k := 0) (host := "ConsulDesk") dX0_init_5 rfl (by decide) hG0 ?_
  refine wa_alen dX0_init_8 hw0 ?_
  refine wa_newa (k := 0) (n := 5) dX0_init_9 (by decide) rfl wr_int (by decide) (by decide) (by decide) (fun _ => ?_)
  rw [rl_z hr]
  refine wa_gen (P := rel_ w x _ e0_ M0 _) (rl_new hr (.inr (0, 5)) (e0_n _)) (fun M1 hr1 => ?_)
  refine wa_putF (q := (RX0, TX0, 3)) (ci := 0) (k := 0) dX0_init_11 rfl (by decide) wf_X0_13 rfl rfl (by decide) rfl (rl_sh hr1 (a := 11) (by decide) ha) rfl ?_
  rw [mm_putR]
  refine wa_gen (P := rel_ w x _ e0_ M0 _) (rl_R hr1 (a := 11) (v := some 12) rfl rfl) (fun M2 hr2 => ?_)
  refine wa_aload_n dX0_init_14 rfl rfl ?_
  refine wa_null dX0_init_15 ?_
  refine wa_put (q := (RX0, TX0, 3)) (ci := 0) (k := 1) dX0_init_16 rfl (by decide) wf_X0_18 rfl (rl_sh hr2 (a := 11) (by decide) ha) rfl ?_
  rw [mm_putN]
  refine wa_gen (P := rel_ w x _ e0_ M0 _) (rl_R hr2 (a := 11) (v := none) rfl rfl) (fun M3 hr3 => ?_)
  refine wa_aload_n dX0_init_19 rfl rfl ?_
  refine wa_iconst (v := 0) dX0_init_20 (by decide) ?_
  refine wa_put (q := (RX0, TX0, 3)) (ci := 0) (k := 2) dX0_init_21 rfl (by decide) wf_X0_21 rfl (rl_sh hr3 (a := 11) (by decide) ha) rfl ?_
  rw [mm_putI]
  refine wa_gen (P := rel_ w x _ e0_ M0 _) (rl_I hr3 (a := 11) rfl (e0_n _ _)) (fun M4 hr4 => ?_)
  exact wa_vret dX0_init_24 rfl (hQ _ hr4)

def rs_0 : rs_S := (fun _ => none, fun _ _ => none)
def rs_10 : rs_S := (rs_R (rs_R (rs_R (rs_n (rs_n (rs_R (rs_R (rs_n (rs_R (rs_R (rs_n (rs_R (rs_n (rs_R (rs_n (rs_n (rs_R (rs_R (rs_n (rs_n (rs_R (rs_n (rs_R (rs_n (rs_R (rs_n (rs_n rs_0 0 (.inl 10)) 1 (.inr (6, 8))) 0 0 (some 1)) 2 (.inr (7, 30))) 0 1 (some 2)) 3 (.inr (5, 200))) 0 2 (some 3)) 4 (.inl 5)) 5 (.inr (0, 300))) 4 0 (some 5)) 0 3 (some 4)) 6 (.inl 9)) 7 (.inr (0, 301))) 6 0 (some 7)) 8 (.inr (0, 301))) 6 1 (some 8)) 9 (.inr (0, 301))) 6 2 (some 9)) 0 4 (some 6)) 10 (.inl 4)) 10 2 (some 6)) 0 5 (some 10)) 11 (.inl 0)) 12 (.inr (0, 5))) 11 0 (some 12)) 11 1 none) 0 6 (some 11))

theorem k_X10_init {G : mm_G} {d : Nat} {Q : Option Value → mm_M → Prop} {M : mm_M} {x : Nat} {M0 : mm_M} (hr : rel_ 99 x 1 e0_ M0 (rs_n rs_0 0 (.inl 10)) M) (w0 : Nat) (hG0 : G.2.2.2.1 0 = .ref w0) (hw0 : mm_sh M0 w0 = some (.inr (10, 5))) (hQ : ∀ M', rel_ 99 x 13 e0_ M0 rs_10 M' → Q none M') : ma_ G jX10_init (d + 2) 12 1461 [.ref x] M Q := by
  refine ma_of [some (.ref x)] (by decide) rfl (Nat.le_of_ble_eq_true rfl) ?_
  have hw : 0 ≠ 99 := by decide
  refine wa_aload_n dX10_init_0 rfl rfl ?_
  refine wa_obj dX10_init_1 lo_X10_1 wi_obj wk_obj (Nat.le_of_ble_eq_true rfl) ?_
  refine wa_aload_n dX10_init_4 rfl rfl ?_
  refine wa_bipush (v := 8) dX10_init_5 (by decide) ?_
  refine wa_anew (k := 6) (n := 8) dX10_init_7 (by decide) rfl wc_X10_9 (by decide) (by decide) (by decide) (by decide) (fun _ => ?_)
  rw [rl_z hr]
  refine wa_gen (P := rel_ 99 x _ e0_ M0 _) (rl_new hr (.inr (6, 8)) (e0_n _)) (fun M1 hr1 => ?_)
  refine wa_putF (q := (RX10, TX10, 13)) (ci := 10) (k := 0) dX10_init_10 rfl (by decide) wf_X10_11 rfl rfl (by decide) rfl (rl_sh hr1 (a := 0) (by decide) rfl) rfl ?_
  rw [mm_putR]
  refine wa_gen (P := rel_ 99 x _ e0_ M0 _) (rl_R hr1 (a := 0) (v := some 1) rfl rfl) (fun M2 hr2 => ?_)
  refine wa_aload_n dX10_init_13 rfl rfl ?_
  refine wa_bipush (v := 30) dX10_init_14 (by decide) ?_
  refine wa_anew (k := 7) (n := 30) dX10_init_16 (by decide) rfl wc_X10_15 (by decide) (by decide) (by decide) (by decide) (fun _ => ?_)
  rw [rl_z hr2]
  refine wa_gen (P := rel_ 99 x _ e0_ M0 _) (rl_new hr2 (.inr (7, 30)) (e0_n _)) (fun M3 hr3 => ?_)
  refine wa_putF (q := (RX10, TX10, 13)) (ci := 10) (k := 1) dX10_init_19 rfl (by decide) wf_X10_17 rfl rfl (by decide) rfl (rl_sh hr3 (a := 0) (by decide) rfl) rfl ?_
  rw [mm_putR]
  refine wa_gen (P := rel_ 99 x _ e0_ M0 _) (rl_R hr3 (a := 0) (v := some 2) rfl rfl) (fun M4 hr4 => ?_)
  refine wa_aload_n dX10_init_22 rfl rfl ?_
  refine wa_sipush (v := 200) dX10_init_23 (by decide) ?_
  refine wa_anew (k := 5) (n := 200) dX10_init_26 (by decide) rfl wc_X10_21 (by decide) (by decide) (by decide) (by decide) (fun _ => ?_)
  rw [rl_z hr4]
  refine wa_gen (P := rel_ 99 x _ e0_ M0 _) (rl_new hr4 (.inr (5, 200)) (e0_n _)) (fun M5 hr5 => ?_)
  refine wa_putF (q := (RX10, TX10, 13)) (ci := 10) (k := 2) dX10_init_29 rfl (by decide) wf_X10_23 rfl rfl (by decide) rfl (rl_sh hr5 (a := 0) (by decide) rfl) rfl ?_
  rw [mm_putR]
  refine wa_gen (P := rel_ 99 x _ e0_ M0 _) (rl_R hr5 (a := 0) (v := some 3) rfl rfl) (fun M6 hr6 => ?_)
  refine wa_aload_n dX10_init_32 rfl rfl ?_
  refine wa_new (n := 2) (q := (RX5, TX5, 2)) (ci := 5) dX10_init_33 rfl rfl wc_X10_27 wt_X5 wn_X5 (fun _ => ?_)
  rw [rl_z hr6]
  refine wa_gen (P := rel_ 99 x _ e0_ M0 _) (rl_new hr6 (.inl 5) (e0_n _)) (fun M7 hr7 => ?_)
  refine wa_dup dX10_init_36 rfl ?_
  refine wa_callIN (kc' := 7) (ks' := 921) (As := []) dX10_init_37 lk_X10_29 (by decide) wm_X5_init rfl rfl rfl (Nat.le_of_ble_eq_true rfl) (by decide) (by decide) (k_X5_init hr7 rfl (fun M8 hr8 => ?_))
  refine wa_putF (q := (RX10, TX10, 13)) (ci := 10) (k := 3) dX10_init_40 rfl (by decide) wf_X10_30 rfl rfl (by decide) rfl (rl_sh hr8 (a := 0) (by decide) rfl) rfl ?_
  rw [mm_putR]
  refine wa_gen (P := rel_ 99 x _ e0_ M0 _) (rl_R hr8 (a := 0) (v := some 4) rfl rfl) (fun M9 hr9 => ?_)
  refine wa_aload_n dX10_init_43 rfl rfl ?_
  refine wa_new (n := 4) (q := (RX9, TX9, 4)) (ci := 9) dX10_init_44 rfl rfl wc_X10_34 wt_X9 wn_X9 (fun _ => ?_)
  rw [rl_z hr9]
  refine wa_gen (P := rel_ 99 x _ e0_ M0 _) (rl_new hr9 (.inl 9) (e0_n _)) (fun M10 hr10 => ?_)
  refine wa_dup dX10_init_47 rfl ?_
  refine wa_callIN (kc' := 3) (ks' := 14) (As := []) dX10_init_48 lk_X10_36 (by decide) wm_X9_init rfl rfl rfl (Nat.le_of_ble_eq_true rfl) (by decide) (by decide) (k_X9_init hr10 rfl (fun M11 hr11 => ?_))
  refine wa_putF (q := (RX10, TX10, 13)) (ci := 10) (k := 4) dX10_init_51 rfl (by decide) wf_X10_37 rfl rfl (by decide) rfl (rl_sh hr11 (a := 0) (by decide) rfl) rfl ?_
  rw [mm_putR]
  refine wa_gen (P := rel_ 99 x _ e0_ M0 _) (rl_R hr11 (a := 0) (v := some 6) rfl rfl) (fun M12 hr12 => ?_)
  refine wa_aload_n dX10_init_54 rfl rfl ?_
  refine wa_new (n := 6) (q := (RX4, TX4, 6)) (ci := 4) dX10_init_55 rfl rfl wc_X10_41 wt_X4 wn_X4 (fun _ => ?_)
  rw [rl_z hr12]
  refine wa_gen (P := rel_ 99 x _ e0_ M0 _) (rl_new hr12 (.inl 4) (e0_n _)) (fun M13 hr13 => ?_)
  refine wa_dup dX10_init_58 rfl ?_
  refine wa_aload_n dX10_init_59 rfl rfl ?_
  refine wa_getR (q := (RX10, TX10, 13)) (ci := 10) (k := 4) dX10_init_60 rfl (by decide) wf_X10_37 (rl_sh hr13 (a := 0) (by decide) rfl) rfl (rf_some (a := x + 6) (((hr13).2.2.2.2 0 (by decide)).2.2 hw _)) ?_
  refine wa_callI (kc' := 2) (ks' := 8) (As := [.ref (x + 6)]) dX10_init_63 lk_X10_43 rfl rfl rfl (Nat.le_of_ble_eq_true rfl) (by decide) (by decide) (k_X4_init hr13 rfl (fun M14 hr14 => ?_))
  refine wa_putF (q := (RX10, TX10, 13)) (ci := 10) (k := 5) dX10_init_66 rfl (by decide) wf_X10_46 rfl rfl (by decide) rfl (rl_sh hr14 (a := 0) (by decide) rfl) rfl ?_
  rw [mm_putR]
  refine wa_gen (P := rel_ 99 x _ e0_ M0 _) (rl_R hr14 (a := 0) (v := some 10) rfl rfl) (fun M15 hr15 => ?_)
  refine wa_aload_n dX10_init_69 rfl rfl ?_
  refine wa_new (n := 3) (q := (RX0, TX0, 3)) (ci := 0) dX10_init_70 rfl rfl wc_X10_50 wt_X0 wn_X0 (fun _ => ?_)
  rw [rl_z hr15]
  refine wa_gen (P := rel_ 99 x _ e0_ M0 _) (rl_new hr15 (.inl 0) (e0_n _)) (fun M16 hr16 => ?_)
  refine wa_dup dX10_init_73 rfl ?_
  refine wa_callIN (kc' := 0) (ks' := 0) (As := []) dX10_init_74 lk_X10_52 (by decide) wm_X0_init rfl rfl rfl (Nat.le_of_ble_eq_true rfl) (by decide) (by decide) (k_X0_init hr16 rfl w0 hG0 (hr16.2.2.1 _ _ hw0).1 (fun M17 hr17 => ?_))
  refine wa_putF (q := (RX10, TX10, 13)) (ci := 10) (k := 6) dX10_init_77 rfl (by decide) wf_X10_53 rfl rfl (by decide) rfl (rl_sh hr17 (a := 0) (by decide) rfl) rfl ?_
  rw [mm_putR]
  refine wa_gen (P := rel_ 99 x _ e0_ M0 _) (rl_R hr17 (a := 0) (v := some 11) rfl rfl) (fun M18 hr18 => ?_)
  refine wa_aload_n dX10_init_80 rfl rfl ?_
  refine wa_iconst (v := 0) dX10_init_81 (by decide) ?_
  refine wa_put (q := (RX10, TX10, 13)) (ci := 10) (k := 7) dX10_init_82 rfl (by decide) wf_X10_57 rfl (rl_sh hr18 (a := 0) (by decide) rfl) rfl ?_
  rw [mm_putI]
  refine wa_gen (P := rel_ 99 x _ e0_ M0 _) (rl_I hr18 (a := 0) rfl (e0_n _ _)) (fun M19 hr19 => ?_)
  refine wa_aload_n dX10_init_85 rfl rfl ?_
  refine wa_iconst (v := 0) dX10_init_86 (by decide) ?_
  refine wa_put (q := (RX10, TX10, 13)) (ci := 10) (k := 8) dX10_init_87 rfl (by decide) wf_X10_61 rfl (rl_sh hr19 (a := 0) (by decide) rfl) rfl ?_
  rw [mm_putI]
  refine wa_gen (P := rel_ 99 x _ e0_ M0 _) (rl_I hr19 (a := 0) rfl (e0_n _ _)) (fun M20 hr20 => ?_)
  refine wa_aload_n dX10_init_90 rfl rfl ?_
  refine wa_iconst (v := 0) dX10_init_91 (by decide) ?_
  refine wa_put (q := (RX10, TX10, 13)) (ci := 10) (k := 9) dX10_init_92 rfl (by decide) wf_X10_64 rfl (rl_sh hr20 (a := 0) (by decide) rfl) rfl ?_
  rw [mm_putI]
  refine wa_gen (P := rel_ 99 x _ e0_ M0 _) (rl_I hr20 (a := 0) rfl (e0_n _ _)) (fun M21 hr21 => ?_)
  refine wa_aload_n dX10_init_95 rfl rfl ?_
  refine wa_iconst (v := 0) dX10_init_96 (by decide) ?_
  refine wa_put (q := (RX10, TX10, 13)) (ci := 10) (k := 10) dX10_init_97 rfl (by decide) wf_X10_67 rfl (rl_sh hr21 (a := 0) (by decide) rfl) rfl ?_
  rw [mm_putI]
  refine wa_gen (P := rel_ 99 x _ e0_ M0 _) (rl_I hr21 (a := 0) rfl (e0_n _ _)) (fun M22 hr22 => ?_)
  refine wa_aload_n dX10_init_100 rfl rfl ?_
  refine wa_iconst (v := 0) dX10_init_101 (by decide) ?_
  refine wa_put (q := (RX10, TX10, 13)) (ci := 10) (k := 11) dX10_init_102 rfl (by decide) wf_X10_70 rfl (rl_sh hr22 (a := 0) (by decide) rfl) rfl ?_
  rw [mm_putI]
  refine wa_gen (P := rel_ 99 x _ e0_ M0 _) (rl_I hr22 (a := 0) rfl (e0_n _ _)) (fun M23 hr23 => ?_)
  refine wa_aload_n dX10_init_105 rfl rfl ?_
  refine wa_iconst (v := 0) dX10_init_106 (by decide) ?_
  refine wa_put (q := (RX10, TX10, 13)) (ci := 10) (k := 12) dX10_init_107 rfl (by decide) wf_X10_73 rfl (rl_sh hr23 (a := 0) (by decide) rfl) rfl ?_
  rw [mm_putI]
  refine wa_gen (P := rel_ 99 x _ e0_ M0 _) (rl_I hr23 (a := 0) rfl (e0_n _ _)) (fun M24 hr24 => ?_)
  exact wa_vret dX10_init_110 rfl (hQ _ hr24)
