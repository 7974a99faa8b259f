/-! what stays when cells are made -/
def nw_ (X Y : Nat → Prop) (M M' : mm_M) : Prop := ∀ a s, mm_sh M a = some s → mm_sh M' a = some s ∧ (¬ X a → mm_I M' a = mm_I M a) ∧ mm_L M' a = mm_L M a ∧ (¬ Y a → mm_R M' a = mm_R M a)
theorem nw_rf (X Y : Nat → Prop) (M : mm_M) : nw_ X Y M M := fun _ _ h => ⟨h, fun _ => rfl, rfl, fun _ => rfl⟩
theorem nw_tr {X Y : Nat → Prop} {A B C : mm_M} (h : nw_ X Y A B) (g : nw_ X Y B C) : nw_ X Y A C := by
  intro a s ha
  obtain ⟨h1, h2, h3, h4⟩ := h a s ha
  obtain ⟨g1, g2, g3, g4⟩ := g a s h1
  exact ⟨g1, fun q => (g2 q).trans (h2 q), g3.trans h3, fun q => (g4 q).trans (h4 q)⟩
theorem nw_mono {X Y X2 Y2 : Nat → Prop} {A B : mm_M} (h : nw_ X Y A B) (hX : ∀ a, X a → X2 a) (hY : ∀ a, Y a → Y2 a) : nw_ X2 Y2 A B := fun a s ha =>
  ⟨(h a s ha).1, fun q => (h a s ha).2.1 (fun z => q (hX a z)), (h a s ha).2.2.1, fun q => (h a s ha).2.2.2 (fun z => q (hY a z))⟩
theorem nw_I {X Y : Nat → Prop} {A B : mm_M} {a k : Nat} {v : Int32} (h : nw_ X Y A B) (ha : X a ∨ ∀ u, ¬ mm_sh A a = some u) : nw_ X Y A (mm_sI B a k v) := by
  intro b s hb
  obtain ⟨h1, h2, h3, h4⟩ := h b s hb
  refine ⟨h1, fun q => ?_, h3, h4⟩
  rw [← h2 q]
  refine mm_u_ne (fun e => ?_)
  subst e
  rcases ha with ha | ha
  · exact q ha
  · exact ha _ hb
theorem nw_R {X Y : Nat → Prop} {A B : mm_M} {a k : Nat} {v : Option Nat} (h : nw_ X Y A B) (ha : Y a ∨ ∀ u, ¬ mm_sh A a = some u) : nw_ X Y A (mm_sR B a k v) := by
  intro b s hb
  obtain ⟨h1, h2, h3, h4⟩ := h b s hb
  refine ⟨h1, h2, h3, fun q => ?_⟩
  rw [← h4 q]
  refine mm_u_ne (fun e => ?_)
  subst e
  rcases ha with ha | ha
  · exact q ha
  · exact ha _ hb
theorem nw_new {X Y : Nat → Prop} {A B : mm_M} {s : mm_S} (h : nw_ X Y A B) (he : mm_ext B s) : nw_ X Y A (mm_new B s) := by
  intro b u hb
  obtain ⟨h1, h2, h3, h4⟩ := h b u hb
  obtain ⟨e1, e2, -⟩ := he b u h1
  exact ⟨e1, fun q => (mm_f_ne e2).trans (h2 q), (mm_f_ne e2).trans h3, fun q => (mm_f_ne e2).trans (h4 q)⟩
theorem nw_fresh {X Y : Nat → Prop} {A B : mm_M} {s : mm_S} (h : nw_ X Y A B) (he : mm_ext B s) : ∀ u, ¬ mm_sh A (mm_z B) = some u := fun u hu => (he _ _ (h _ _ hu).1).2.1 rfl
theorem nw_sh {X Y : Nat → Prop} {A B : mm_M} (h : nw_ X Y A B) {a : Nat} {s : mm_S} (ha : mm_sh A a = some s) : mm_sh B a = some s := (h a s ha).1
theorem mm_sh_z (M : mm_M) (s : mm_S) : mm_sh (mm_new M s) (mm_z M) = some s := by
  show (if mm_z M = mm_z M then some s else M.1 (mm_z M)) = some s
  rw [if_pos rfl]
theorem mm_new_I (M : mm_M) (s : mm_S) (k : Nat) : mm_I (mm_new M s) (mm_z M) k = 0 := by
  show mm_f M.2.1 (mm_z M) 0 (mm_z M) k = 0
  rw [mm_f_self]
theorem mm_new_R (M : mm_M) (s : mm_S) (k : Nat) : mm_R (mm_new M s) (mm_z M) k = none := by
  show mm_f M.2.2.2.1 (mm_z M) none (mm_z M) k = none
  rw [mm_f_self]
theorem mm_new_Io {M : mm_M} {s : mm_S} {a : Nat} (h : a ≠ mm_z M) : mm_I (mm_new M s) a = mm_I M a := mm_f_ne h
theorem mm_new_Ro {M : mm_M} {s : mm_S} {a : Nat} (h : a ≠ mm_z M) : mm_R (mm_new M s) a = mm_R M a := mm_f_ne h
theorem mR_eq (M : mm_M) (a k : Nat) (v : Option Nat) : mm_R (mm_sR M a k v) a k = v := by simp [mm_R_sR]
theorem mR_ne (M : mm_M) (a k j : Nat) (v : Option Nat) (h : j ≠ k) : mm_R (mm_sR M a k v) a j = mm_R M a j := by simp [mm_R_sR, h]
theorem mR_na (M : mm_M) (a b k j : Nat) (v : Option Nat) (h : b ≠ a) : mm_R (mm_sR M a k v) b j = mm_R M b j := by simp [mm_R_sR, h]

/-- how far the cutting is: c tokens, the place q -/
def cti_ (M M1 : mm_M) (t n : Nat) (b : Nat → Int32) (q c : Nat) : Prop := md_sk M M1 ∧ (∀ a j, ¬ (a = t ∧ j = 3) → ¬ (t + 1 ≤ a ∧ a ≤ t + 3) → mm_I M1 a j = mm_I M a j) ∧ mm_I M1 t 3 = nI c ∧ c ≤ q ∧ q ≤ n ∧
  ∃ P : Nat → Nat, P 0 = 0 ∧ (∀ i, i < c → tz_ b n (P i) (mm_I M1 (t + 1) i) (mm_I M1 (t + 2) i) (mm_I M1 (t + 3) i) (P (i + 1)) ∧ P i ≤ n) ∧ P c ≤ q ∧ ∀ j, P c ≤ j → j < q → b j = 32
def pe_ (P : Nat → Nat) (c s i : Nat) : Nat := if i ≤ c then P i else s
theorem pe_le {P : Nat → Nat} {c s i : Nat} (h : i ≤ c) : pe_ P c s i = P i := if_pos h
theorem pe_gt {P : Nat → Nat} {c s i : Nat} (h : c < i) : pe_ P c s i = s := if_neg (Nat.not_le.mpr h)
theorem pt_I (M : mm_M) (t c : Nat) (k l v : Int32) (a j : Nat) : mm_I (pt_ M t c k l v) a j = if a = t ∧ j = 3 then nI (c + 1) else if a = t + 3 ∧ j = c then v else if a = t + 2 ∧ j = c then l else if a = t + 1 ∧ j = c then k else mm_I M a j := by
  unfold pt_
  simp only [mm_I_sI]
theorem cti_put {M M1 : mm_M} {t n : Nat} {b : Nat → Int32} {q c : Nat} (h : cti_ M M1 t n b q c) {k v : Int32} {s : Nat} (hs : q < s) (hsn : s ≤ n) (h32 : ¬ b q = 32) (hk : tq_ b n q k v s) : cti_ M (pt_ M1 t c k (nI q) v) t n b s (c + 1) := by
  obtain ⟨h1, h2, h3, h4, h5, P, p1, p2, p3, p4⟩ := h
  refine ⟨h1, fun a j ha hb => ?_, ?_, by omega, hsn, pe_ P c s, ?_, fun i hi => ?_, ?_, fun j hj1 hj2 => ?_⟩
  · rw [pt_I, if_neg ha, if_neg (by omega), if_neg (by omega), if_neg (by omega)]; exact h2 a j ha hb
  · rw [pt_I, if_pos ⟨rfl, rfl⟩]
  · rw [pe_le (Nat.zero_le _)]; exact p1
  · rcases Nat.lt_succ_iff_lt_or_eq.mp hi with h | h
    · rw [pe_le (by omega), pe_le (by omega)]
      have e : ∀ a, t + 1 ≤ a → a ≤ t + 3 → mm_I (pt_ M1 t c k (nI q) v) a i = mm_I M1 a i := by
        intro a ha hb
        rw [pt_I, if_neg (by omega), if_neg (by omega), if_neg (by omega), if_neg (by omega)]
      rw [e _ (by omega) (by omega), e _ (by omega) (by omega), e _ (by omega) (by omega)]
      exact p2 i h
    · subst h
      rw [pe_le (Nat.le_refl _), pe_gt (by omega)]
      have e1 : mm_I (pt_ M1 t i k (nI q) v) (t + 1) i = k := by rw [pt_I, if_neg (by omega), if_neg (by omega), if_neg (by omega), if_pos ⟨rfl, rfl⟩]
      have e2 : mm_I (pt_ M1 t i k (nI q) v) (t + 2) i = nI q := by rw [pt_I, if_neg (by omega), if_neg (by omega), if_pos ⟨rfl, rfl⟩]
      have e3 : mm_I (pt_ M1 t i k (nI q) v) (t + 3) i = v := by rw [pt_I, if_neg (by omega), if_pos ⟨rfl, rfl⟩]
      rw [e1, e2, e3]
      exact ⟨tq_tz hk p3 h5 p4 h32, by omega⟩
  · rw [pe_gt (by omega)]; exact Nat.le_refl _
  · rw [pe_gt (by omega)] at hj1
    exact absurd hj2 (by omega)
theorem cti_blank {M M1 : mm_M} {t n : Nat} {b : Nat → Int32} {q c : Nat} (h : cti_ M M1 t n b q c) (hq : q < n) (h32 : b q = 32) : cti_ M M1 t n b (q + 1) c := by
  obtain ⟨h1, h2, h3, h4, h5, P, p1, p2, p3, p4⟩ := h
  refine ⟨h1, h2, h3, by omega, by omega, P, p1, p2, by omega, fun j hj1 hj2 => ?_⟩
  rcases Nat.lt_succ_iff_lt_or_eq.mp hj2 with h | h
  · exact p4 j hj1 h
  · rw [h]; exact h32
/-- the stream that the class has cut -/
theorem cti_end {M M1 : mm_M} {t n : Nat} {b : Nat → Int32} {c : Nat} (h : cti_ M M1 t n b n c) (hn : n ≤ 300) (hb : ¬ b n = 32) : ∃ P : Nat → Nat, P 0 = 0 ∧ stm_ b n c (mm_I (pt_ M1 t c 0 (nI n) 0) (t + 1)) (mm_I (pt_ M1 t c 0 (nI n) 0) (t + 2)) (mm_I (pt_ M1 t c 0 (nI n) 0) (t + 3)) P := by
  obtain ⟨h1, h2, h3, h4, h5, P, p1, p2, p3, p4⟩ := h
  refine ⟨pe_ P c n, (pe_le (Nat.zero_le _)).trans p1, hn, fun i hi => ?_, ?_⟩
  · rcases Nat.lt_or_eq_of_le hi with h | h
    · rw [pe_le (by omega), pe_le (by omega)]
      have e : ∀ a, t + 1 ≤ a → a ≤ t + 3 → mm_I (pt_ M1 t c 0 (nI n) 0) a i = mm_I M1 a i := by
        intro a ha hb
        rw [pt_I, if_neg (by omega), if_neg (by omega), if_neg (by omega), if_neg (by omega)]
      rw [e _ (by omega) (by omega), e _ (by omega) (by omega), e _ (by omega) (by omega)]
      exact p2 i h
    · subst h
      rw [pe_le (Nat.le_refl _), pe_gt (by omega)]
      have e1 : mm_I (pt_ M1 t i 0 (nI n) 0) (t + 1) i = 0 := by rw [pt_I, if_neg (by omega), if_neg (by omega), if_neg (by omega), if_pos ⟨rfl, rfl⟩]
      have e2 : mm_I (pt_ M1 t i 0 (nI n) 0) (t + 2) i = nI n := by rw [pt_I, if_neg (by omega), if_neg (by omega), if_pos ⟨rfl, rfl⟩]
      rw [e1, e2]
      exact ⟨⟨n, p3, Nat.le_refl _, p4, hb, rfl, Or.inl ⟨rfl, rfl, rfl⟩⟩, p3⟩
  · show mm_I (pt_ M1 t c 0 (nI n) 0) (t + 1) c = 0
    rw [pt_I, if_neg (by omega), if_neg (by omega), if_neg (by omega), if_pos ⟨rfl, rfl⟩]
theorem md_sk_tok {M M' : mm_M} {y : Nat} (h : md_sk M M') (hY : tok_ M y) : tok_ M' y := by
  obtain ⟨M1, MI, M2⟩ := M
  obtain ⟨N1, NI, N2⟩ := M'
  obtain ⟨h1, h2⟩ := h
  cases h1
  cases h2
  exact hY
theorem tpb_cti {M M1 : mm_M} {t e n0 n : Nat} {b : Nat → Int32} {q c : Nat} (hb : tpb_ M e n0 n b) (h : cti_ M M1 t n b q c) (het : e + 2 ≤ t) : tpb_ M1 e n0 n b := by
  obtain ⟨h1, h2, h3, h4, h5, h6⟩ := hb
  refine ⟨md_sk_tap h.1 h1, (h.2.1 _ _ (by omega) (by omega)).trans h2, h3, h4, fun k hk => ⟨?_, (h5 k hk).2⟩, h6⟩
  rw [h.2.1 _ _ (by omega) (by omega)]
  exact (h5 k hk).1

theorem k_X9_cut {G : mm_G} {d : Nat} {Q : Option Value → mm_M → Prop} {M : mm_M} {t e n0 n : Nat} {b : Nat → Int32} (f : Nat) (hcs : G.2.2.2.1 3 = .int 1) (hsf : G.2.2.2.1 6 = va_rn f) (ht : tok_ M t) (hb : tpb_ M e n0 n b) (het : e + 2 ≤ t)
    (hQ : ∀ (m : Nat) (P : Nat → Nat) (M' : mm_M), stm_ b n m (mm_I M' (t + 1)) (mm_I M' (t + 2)) (mm_I M' (t + 3)) P → P 0 = 0 → m ≤ 300 → md_sk M M' → (∀ a j, ¬ (a = t ∧ j = 3) → ¬ (t + 1 ≤ a ∧ a ≤ t + 3) → mm_I M' a j = mm_I M a j) → Q none M') : ma_ G jX9_cut (d + 8) 0 0 [.ref t, .ref e, .int (nI n)] M Q := by
  refine ma_of [some (.ref t), some (.ref e), some (.int (nI n)), none] (by decide) rfl (Nat.le_of_ble_eq_true rfl) ?_
  have hn3 : n ≤ 300 := Nat.le_trans hb.2.2.2.1 hb.2.2.1
  have lp : ∀ (w q c : Nat) (M1 : mm_M), n - q = w → cti_ M M1 t n b q c → wa_ 0 G jX9_cut (d + 8) 0 0 Q 0 0 M1 7 [some (.ref t), some (.ref e), some (.int (nI n)), some (.int (nI q))] [] := by
    intro w
    induction w using Nat.strongRecOn with
    | ind w ih =>
      intro q c M1 hw hI
      have ht1 := md_sk_tok hI.1 ht
      have hb1 := tpb_cti hb hI het
      have hcq := hI.2.2.2.1
      have hqn := hI.2.2.2.2.1
      refine wa_iload_n dX9_cut_7 rfl ?_
      refine wa_iload_n dX9_cut_8 rfl ?_
      refine wa_icmp_ge (tgt := 29) dX9_cut_9 (by decide) (fun hT9 => ?_) (fun hF9 => ?_)
      · have hq2 : n = q := by
          have := ni_le hT9 (by omega) (by omega)
          omega
        subst hq2
        refine wa_aload_n dX9_cut_29 rfl rfl ?_
        refine wa_iconst (v := 0) dX9_cut_30 (by decide) ?_
        refine wa_iload_n dX9_cut_31 rfl ?_
        refine wa_iconst (v := 0) dX9_cut_32 (by decide) ?_
        refine wa_callV (q := (RX9, TX9, 4)) (As := [.int 0, .int (nI n), .int 0]) dX9_cut_33 lk_X9_35 rfl rfl ht1.1 rfl rfl (Nat.le_of_ble_eq_true rfl) (Nat.le_of_eq (Nat.zero_add _)) (Nat.le_of_eq (Nat.zero_add _)) (k_X9_put 0 (nI n) 0 c ht1 hI.2.2.1 (by omega) ?_)
        exact wa_vret dX9_cut_36 rfl (by
        obtain ⟨P, hP0, hst⟩ := cti_end hI hn3 (by rw [hb.2.2.2.2.2 n (Nat.le_refl _)]; decide)
        refine hQ c P _ hst hP0 (by omega) hI.1 (fun a j ha hb => ?_)
        rw [pt_I, if_neg ha, if_neg (by omega), if_neg (by omega), if_neg (by omega)]
        exact hI.2.1 a j ha hb)
      · have hq2 : q < n := ni_nle hF9 (by omega) (by omega)
        refine wa_iload_n dX9_cut_12 rfl ?_
        refine wa_iconst (v := 1) dX9_cut_13 (by decide) ?_
        refine wa_iadd dX9_cut_14 ?_
        rw [show nI q + 1 = nI (q + 1) from ni_i1 q]
        refine wa_aload_n dX9_cut_15 rfl rfl ?_
        refine wa_aload_n dX9_cut_16 rfl rfl ?_
        refine wa_iload_n dX9_cut_17 rfl ?_
        refine wa_iload_n dX9_cut_18 rfl ?_
        refine wa_callV (q := (RX9, TX9, 4)) (As := [.ref e, .int (nI q), .int (nI n)]) dX9_cut_19 lk_X9_25 rfl rfl ht1.1 rfl rfl (Nat.le_of_ble_eq_true rfl) (Nat.le_of_eq (Nat.zero_add _)) (Nat.le_of_eq (Nat.zero_add _)) (k_X9_cutOne q c f hcs hsf ht1 hb1 hI.2.2.1 (by omega) hq2 (fun h32 => ?_) (fun s k v h1 h2 h32 hk => ?_))
        · have hs1 : q + 1 ≤ q + 1 := Nat.le_refl _
          have hI2 := cti_blank hI hq2 h32
          have hsn : q + 1 ≤ n := hq2
          obtain ⟨s, es⟩ : ∃ s, s = q + 1 := ⟨_, rfl⟩
          rw [← es] at hI2 hsn ⊢
          have hs1 : q + 1 ≤ s := by omega
          obtain ⟨c2, M2, eM2, ec2⟩ : ∃ c2 M2, M2 = M1 ∧ cti_ M M2 t n b s c2 := ⟨c, M1, rfl, hI2⟩
          rw [← eM2]
          rw [show nI s = nI s from rfl]
          refine wa_mmax dX9_cut_22 lk_X9_29 (Nat.le_of_ble_eq_true rfl) ?_
          first
            | rw [ite_self]
            | rw [show (if nI (q + 1) < nI s then nI s else nI (q + 1)) = nI s from by
                split
                · rfl
                · rename_i h9
                  have := ni_nlt h9 (by omega) (by omega)
                  exact congrArg nI (by omega)]
          refine wa_istore_n dX9_cut_25 (by decide) rfl rfl ?_
          refine wa_goto (tgt := 7) dX9_cut_26 (by decide) ?_
          exact ih (n - s) (by omega) s c2 M2 rfl ec2
        · have hsn := h2
          have hs1 : q + 1 ≤ s := h1
          obtain ⟨c2, M2, eM2, ec2⟩ : ∃ c2 M2, M2 = pt_ M1 t c k (nI q) v ∧ cti_ M M2 t n b s c2 := ⟨c + 1, _, rfl, cti_put hI h1 h2 h32 hk⟩
          rw [← eM2]
          refine wa_mmax dX9_cut_22 lk_X9_29 (Nat.le_of_ble_eq_true rfl) ?_
          first
            | rw [ite_self]
            | rw [show (if nI (q + 1) < nI s then nI s else nI (q + 1)) = nI s from by
                split
                · rfl
                · rename_i h9
                  have := ni_nlt h9 (by omega) (by omega)
                  exact congrArg nI (by omega)]
          refine wa_istore_n dX9_cut_25 (by decide) rfl rfl ?_
          refine wa_goto (tgt := 7) dX9_cut_26 (by decide) ?_
          exact ih (n - s) (by omega) s c2 M2 rfl ec2
  refine wa_aload_n dX9_cut_0 rfl rfl ?_
  refine wa_iconst (v := 0) dX9_cut_1 (by decide) ?_
  refine wa_put (q := (RX9, TX9, 4)) (ci := 9) (k := 3) dX9_cut_2 rfl (by decide) wf_X9_21 rfl ht.1 rfl ?_
  refine wa_iconst (v := 0) dX9_cut_5 (by decide) ?_
  refine wa_istore_n dX9_cut_6 (by decide) rfl rfl ?_
  refine lp n 0 0 _ rfl ⟨md_sk_rf M, fun a j ha hb => ?_, mI_eq _ _ _ _, Nat.le_refl _, Nat.zero_le _, fun _ => 0, rfl, fun i hi => absurd hi (by omega), Nat.le_refl _, fun j h1 h2 => absurd h2 (by omega)⟩
  show mm_I (mm_sI M t 3 0) a j = mm_I M a j
  rw [mm_I_sI, if_neg ha]
