theorem rds_A {G : mm_G} {d : Nat} {Q : Option Value → mm_M → Prop} {y : Nat} {b : Nat → Int32} {n m : Nat} {K L V : Nat → Int32} {P : Nat → Nat} (f : Nat) (hcs : G.2.2.2.1 3 = .int 1) (hsf : G.2.2.2.1 6 = va_rn f) (hs : stm_ b n m K L V P) {T : Nat} (hT : T ≤ 30) : ∀ (r a i : Nat) (M1 : mm_M) (dn : List ps_L), r + a = 13 → a ≤ 12 → i ≤ m → rat_ b n K L V P M1 y (i) → mm_I M1 (y + 4) T = nI a → dn.length = a → rr_dn M1 y T dn →
    (∀ (q : Int32) (j : Nat) (M' : mm_M), ps_lines K V r a i = .inl (q, j) → pfx_ (xr_ y T) M1 M' y → spd_ M' y q (L j) → Q (some (.retAddr (y + 1))) M') →
    (∀ (ls : List ps_L) (M' : mm_M), ps_lines K V r a i = .inr ls → pfx_ (xr_ y T) M1 M' y → rr_all M' y T (dn ++ ls) → Q none M') →
    wa_ 2 G jX12_reads (d + 8) 0 0 Q 0 0 M1 22 [some (.ref y), some (.int (nI T)), some (.int 1), none, none, none] [] := by
  intro r
  induction r with
  | zero => intro a i M1 dn h1 h2; exact absurd h1 (by omega)
  | succ r ih =>
    intro a i M1 dn hra ha hi hr hln hdl hdn hF hO
    refine rds_L f hcs hsf hs hT ha hi hr hln (fun q j M2 e1 p1 d1 => hF q j M2 (by simp [ps_lines, e1]) p1 d1) (fun ln j M2 e1 a1 j1 p1 r1 l1 g1 => ?_)
    have hY2 := r1.1
    have hp1 := pfx_mono p1 (xl_r (y := y) (T := T) a1)
    have hdn2 : rr_dn M2 y T (dn ++ [ln]) := rr_dn_snoc (rr_dn_eq hdn (fun b k hb => p1.2.2.1 b k (by unfold xl_; omega))) (by rw [hdl]; exact l1)
    have hl2 : (dn ++ [ln]).length = a + 1 := by rw [List.length_append, hdl]; rfl
    have hend : ∀ (M3 : mm_M), M3 = mm_sI M2 (y + 4) T (nI (a + 1)) → ¬ K j = 59 → wa_ 2 G jX12_reads (d + 8) 0 0 Q 0 0 M3 231 [some (.ref y), some (.int (nI T)), some (.int 0), some (.int (nI (12 * T + a))), none, none] [] := by
      intro M3 e3 hk9
      have hr3 : rat_ b n K L V P M3 y (j) := by rw [e3]; exact rat_I r1 (by omega) (by omega)
      have hp3 : pfx_ (xr_ y T) M1 M3 y := by rw [e3]; exact pfx_I hp1 (Or.inr (Or.inr (Or.inl ⟨rfl, rfl⟩)))
      have hal : rr_all M3 y T (dn ++ [ln]) := by
        rw [e3]
        exact ⟨by rw [hl2]; exact mI_eq _ _ _ _, by rw [hl2]; omega, rr_dn_eq hdn2 (fun b k hb => mI_na _ _ _ _ _ _ (by omega))⟩
      have hY3 := hr3.1
      refine wa_aload_n dX12_reads_231 rfl rfl ?_
      refine wa_getI (q := (RX12, TX12, 50)) (ci := 12) (k := 9) dX12_reads_232 rfl (by decide) wf_X12_157 hY3.1 rfl ?_
      refine wa_iconst (v := 1) dX12_reads_235 (by decide) ?_
      refine wa_icmp_eq (tgt := 245) dX12_reads_236 (by decide) (fun hT236 => ?_) (fun hF236 => ?_)
      · have hk0 : K j = 0 := (tk_end hr3.2.2.2.1).mp hT236
        exact wx_of0 (wa_vret dX12_reads_245 rfl ⟨hO [ln] M3 (by simp only [ps_lines, e1]; rw [if_neg hk9, if_pos hk0]) hp3 hal, fun a h => by cases h⟩)
      · have hk0 : ¬ K j = 0 := fun e => hF236 ((tk_end hr3.2.2.2.1).mpr e)
        refine wa_aload_n dX12_reads_239 rfl rfl ?_
        refine wa_iconst (v := 1) dX12_reads_240 (by decide) ?_
        refine wa_callV (q := (RX12, TX12, 50)) (As := [.int 1]) dX12_reads_241 lk_X12_192 rfl rfl hY3.1 rfl rfl (Nat.le_of_ble_eq_true rfl) (Nat.le_of_eq (Nat.zero_add _)) (Nat.le_of_eq (Nat.zero_add _)) (k_X12_stop 1 hr3.1 ?_)
        exact wx_throw dX12_reads_244 wd_X12_reads (by decide) (by rw [hr3.2.2.2.1.1]; exact hF 1 j _ (by simp only [ps_lines, e1]; rw [if_neg hk9, if_neg hk0]) (pfx_stp hp3 (xr_1 y T)) (spd_of _ _ _ _))
    refine wa_aload_n dX12_reads_203 rfl rfl ?_
    refine wa_getR (q := (RX12, TX12, 50)) (ci := 12) (k := 16) dX12_reads_204 rfl (by decide) wf_X12_28 hY2.1 rfl (md_r16 hY2) ?_
    refine wa_iload_n dX12_reads_207 rfl ?_
    refine wa_dup2 dX12_reads_208 rfl rfl ?_
    refine wa_ialdN dX12_reads_209 (md_s16 hY2) (Or.inl rfl) (by omega) (by decide) ?_
    rw [g1]
    refine wa_iconst (v := 1) dX12_reads_210 (by decide) ?_
    refine wa_iadd dX12_reads_211 ?_
    rw [show nI a + 1 = nI (a + 1) from ni_i1 a]
    refine wa_iastN dX12_reads_212 (md_s16 hY2) (by omega) (by decide) ?_
    refine wa_aload_n dX12_reads_213 rfl rfl ?_
    refine wa_bipush (v := 59) dX12_reads_214 (by decide) ?_
    refine wa_callV (q := (RX12, TX12, 50)) (As := [.int 59]) dX12_reads_216 lk_X12_214 rfl rfl hY2.1 rfl rfl (Nat.le_of_ble_eq_true rfl) (Nat.le_of_eq (Nat.zero_add _)) (Nat.le_of_eq (Nat.zero_add _)) (kt_is 59 (rat_I (a := y + 4) (k := T) (v := nI (a + 1)) r1 (by omega) (by omega)).1 (by unfold sg_; decide) (rat_I (a := y + 4) (k := T) (v := nI (a + 1)) r1 (by omega) (by omega)).2.2.2.1 (fun hk1 => ?_) (fun hk1 => ?_))
    · refine wa_istore_n dX12_reads_219 (by decide) rfl rfl ?_
      refine wa_iload_n dX12_reads_220 rfl ?_
      refine wa_if_eq (tgt := 228) dX12_reads_221 (by decide) (fun h9 => absurd h9 (by decide)) (fun _ => ?_)
      refine wa_aload_n dX12_reads_224 rfl rfl ?_
      refine wa_callV (q := (RX12, TX12, 50)) (As := []) dX12_reads_225 lk_X12_204 rfl rfl hY2.1 rfl rfl (Nat.le_of_ble_eq_true rfl) (Nat.le_of_eq (Nat.zero_add _)) (Nat.le_of_eq (Nat.zero_add _)) (kp_next hs (rat_I (a := y + 4) (k := T) (v := nI (a + 1)) r1 (by omega) (by omega)) (by rw [hk1]; decide) (by rw [hk1]; decide) j1 (fun M4 hf4 hr4 => ?_))
      refine wa_goto (tgt := 18) dX12_reads_228 (by decide) ?_
      refine wa_iload_n dX12_reads_18 rfl ?_
      refine wa_if_eq (tgt := 231) dX12_reads_19 (by decide) (fun h9 => absurd h9 (by decide)) (fun _ => ?_)
      refine wa_set0 3 (ih (a + 1) (j + 1) M4 (dn ++ [ln]) (by omega) (by omega) (kp_lt hs j1 (by rw [hk1]; decide)) hr4 ((tkf_i hf4 (by omega)).trans (mI_eq _ _ _ _)) hl2 (rr_dn_eq hdn2 (fun b k hb => (tkf_i hf4 (by omega)).trans (mI_na _ _ _ _ _ _ (by omega)))) (fun q j' M' e2 p2 d2 => ?_) (fun ls M' e2 p2 al2 => ?_))
      · exact hF q j' M' (by simp only [ps_lines, e1]; rw [if_pos hk1, e2]) (pfx_tr (pfx_tk (pfx_I hp1 (Or.inr (Or.inr (Or.inl ⟨rfl, rfl⟩)))) hf4 (xr_y y T)) p2) d2
      · refine hO (ln :: ls) M' (by simp only [ps_lines, e1]; rw [if_pos hk1, e2]) (pfx_tr (pfx_tk (pfx_I hp1 (Or.inr (Or.inr (Or.inl ⟨rfl, rfl⟩)))) hf4 (xr_y y T)) p2) ?_
        rw [List.append_assoc] at al2
        exact al2
    · refine wa_istore_n dX12_reads_219 (by decide) rfl rfl ?_
      refine wa_iload_n dX12_reads_220 rfl ?_
      refine wa_if_eq (tgt := 228) dX12_reads_221 (by decide) (fun _ => ?_) (fun h9 => absurd h9 (by decide))
      refine wa_goto (tgt := 18) dX12_reads_228 (by decide) ?_
      refine wa_iload_n dX12_reads_18 rfl ?_
      refine wa_if_eq (tgt := 231) dX12_reads_19 (by decide) (fun _ => ?_) (fun h9 => absurd h9 (by decide))
      exact hend _ rfl hk1

theorem k_X12_reads {G : mm_G} {d : Nat} {Q : Option Value → mm_M → Prop} {M : mm_M} {y T : Nat} {b : Nat → Int32} {n m : Nat} {K L V : Nat → Int32} {P : Nat → Nat} (f : Nat) (hcs : G.2.2.2.1 3 = .int 1) (hsf : G.2.2.2.1 6 = va_rn f) (hs : stm_ b n m K L V P) (hP0 : P 0 = 0) (hY : mdl_ M y) (hT : mm_I M y 14 = nI T) (hT30 : T ≤ 30) (hn : mm_I M y 7 = nI n) (hb : md_by M y n = b) (h8 : mm_I M y 8 = nI 0)
    (hF : ∀ (q : Int32) (j : Nat) (M' : mm_M), ps_lines K V 13 0 0 = .inl (q, j) → pfx_ (xr_ y T) M M' y → spd_ M' y q (L j) → Q (some (.retAddr (y + 1))) M')
    (hO : ∀ (ls : List ps_L) (M' : mm_M), ps_lines K V 13 0 0 = .inr ls → pfx_ (xr_ y T) M M' y → rr_all M' y T ls → Q none M') : mx_ G jX12_reads (d + 8) 0 0 [.ref y] M Q := by
  refine mx_of [some (.ref y), none, none, none, none, none] (by decide) rfl (Nat.le_of_ble_eq_true rfl) ?_
  obtain ⟨t1, t2⟩ := hs.2.1 0 (Nat.zero_le _)
  refine wa_aload_n dX12_reads_0 rfl rfl ?_
  refine wa_getI (q := (RX12, TX12, 50)) (ci := 12) (k := 14) dX12_reads_1 rfl (by decide) wf_X12_201 hY.1 rfl ?_
  rw [hT]
  refine wa_istore_n dX12_reads_4 (by decide) rfl rfl ?_
  refine wa_aload_n dX12_reads_5 rfl rfl ?_
  refine wa_getR (q := (RX12, TX12, 50)) (ci := 12) (k := 16) dX12_reads_6 rfl (by decide) wf_X12_28 hY.1 rfl (md_r16 hY) ?_
  refine wa_iload_n dX12_reads_9 rfl ?_
  refine wa_iconst (v := 0) dX12_reads_10 (by decide) ?_
  refine wa_iastN dX12_reads_11 (md_s16 hY) (by omega) (by decide) ?_
  refine wa_aload_n dX12_reads_12 rfl rfl ?_
  refine wa_callV (q := (RX12, TX12, 50)) (As := []) dX12_reads_13 lk_X12_204 rfl rfl hY.1 rfl rfl (Nat.le_of_ble_eq_true rfl) (Nat.le_of_eq (Nat.zero_add _)) (Nat.le_of_eq (Nat.zero_add _)) (kt_next (M := mm_sI M (y + 4) T 0) n 0 hY ((mI_na _ _ _ _ _ _ (by omega)).trans hn) hs.1 ((mI_na _ _ _ _ _ _ (by omega)).trans h8) (Nat.zero_le _) (k := K 0) (l := L 0) (v := V 0) (p' := P (0 + 1)) ?_ (fun M1 hf1 ht1 h81 => ?_))
  · have hb2 : md_by (mm_sI M (y + 4) T 0) y n = b := by
      rw [← hb]
      funext j
      unfold md_by
      rw [mI_na _ _ _ _ _ _ (by omega)]
    rw [hb2]
    rw [hP0] at t1
    exact t1
  refine wa_iconst (v := 1) dX12_reads_16 (by decide) ?_
  refine wa_istore_n dX12_reads_17 (by decide) rfl rfl ?_
  refine wa_iload_n dX12_reads_18 rfl ?_
  refine wa_if_eq (tgt := 231) dX12_reads_19 (by decide) (fun h9 => absurd h9 (by decide)) (fun _ => ?_)
  have hr1 : rat_ b n K L V P M1 y (0) := by
    refine ⟨tkf_mdl hf1 hY, (tkf_i hf1 (by omega)).trans ((mI_na _ _ _ _ _ _ (by omega)).trans hn), ?_, ht1, h81⟩
    rw [← hb]
    funext j
    rw [tkf_by hf1]
    unfold md_by
    rw [mI_na _ _ _ _ _ _ (by omega)]
  have hp0 : pfx_ (xr_ y T) M M1 y := pfx_tk (pfx_I (pfx_rf _ _ _) (Or.inr (Or.inr (Or.inl ⟨rfl, rfl⟩)))) hf1 (xr_y y T)
  exact rds_A f hcs hsf hs hT30 13 0 0 M1 [] rfl (by omega) (Nat.zero_le _) hr1 ((tkf_i hf1 (by omega)).trans (mI_eq _ _ _ _)) rfl (fun k q e => by cases e) (fun q j M' e1 p1 d1 => hF q j M' e1 (pfx_tr hp0 p1) d1) (fun ls M' e1 p1 al => hO ls M' e1 (pfx_tr hp0 p1) al)
