/-! the reference takes stamps -/
/-- only longs have changed -/
def lsk_ (M M' : mm_M) : Prop := M'.1 = M.1 ∧ M'.2.1 = M.2.1 ∧ M'.2.2.2 = M.2.2.2
theorem lsk_rf (M : mm_M) : lsk_ M M := ⟨rfl, rfl, rfl⟩
theorem lsk_L {M M' : mm_M} (h : lsk_ M M') (a k : Nat) (v : Int64) : lsk_ M (mm_sL M' a k v) := h
theorem lsk_mdl {M M' : mm_M} {y : Nat} (h : lsk_ M M') (hY : mdl_ M y) : mdl_ M' y := by
  obtain ⟨M1, MI, ML, M2⟩ := M
  obtain ⟨N1, NI, NL, N2⟩ := M'
  obtain ⟨h1, h2, h3⟩ := h
  cases h1
  cases h2
  cases h3
  exact hY
theorem lsk_I {M M' : mm_M} (h : lsk_ M M') (a : Nat) : mm_I M' a = mm_I M a := congrFun h.2.1 a
theorem lsk_sh {M M' : mm_M} (h : lsk_ M M') (a : Nat) : mm_sh M' a = mm_sh M a := congrFun h.1 a
theorem mL_ne (M : mm_M) (a k j : Nat) (v : Int64) (h : j ≠ k) : mm_L (mm_sL M a k v) a j = mm_L M a j := by simp [mm_L_sL, h]
def chf_ (M M' : mm_M) (y : Nat) : Prop := M'.1 = M.1 ∧ M'.2.2.2 = M.2.2.2 ∧ ∀ a j, a ≠ y + 34 → mm_I M' a j = mm_I M a j
theorem dq_0 : (40 : Int32) = nI 40 := rfl
theorem dq_1 (k : Nat) : lN k + 1099511627776 - 1 = lN (k + 1099511627775) := by
  rw [show (1099511627776 : Int64) = lN 1099511627776 from rfl, show (1 : Int64) = lN 1 from rfl, lN_add, lN_sub (by omega)]
  exact congrArg lN (by omega)
theorem dq_2 {k : Nat} (h : k < 2 ^ 62) : lN (k + 1099511627775) >>> ((40 : Int32).toInt64 &&& 63) = lN ((k + 1099511627775) / 1099511627776) := by
  rw [dq_0, sb_shr (by omega) (by decide)]
theorem dq_3 (k : Nat) : lN k <<< ((40 : Int32).toInt64 &&& 63) = lN (k * 1099511627776) := by
  rw [dq_0, wb_shl k (by decide)]
theorem dq_4 {k : Nat} (h : k < 2 ^ 62) : lN k &&& 4095 = lN (k % 4096) := by
  rw [show (4095 : Int64) = lN (2 ^ 12 - 1) from rfl, wb_mask (by omega) (by decide)]
theorem dq_5 {k : Nat} (h : k < 2 ^ 62) : lN k >>> ((12 : Int32).toInt64 &&& 63) = lN (k / 4096) := by
  rw [show (12 : Int32) = nI 12 from rfl, sb_shr (by omega) (by decide)]
theorem dq_6 {k : Nat} (h : k < 2 ^ 62) : lN k &&& 1023 = lN (k % 1024) := by
  rw [show (1023 : Int64) = lN (2 ^ 10 - 1) from rfl, wb_mask (by omega) (by decide)]
theorem dq_7 {k : Nat} (h : k < 2 ^ 62) : lN k >>> ((22 : Int32).toInt64 &&& 63) = lN (k / 4194304) := by
  rw [show (22 : Int32) = nI 22 from rfl, sb_shr (by omega) (by decide)]
theorem dq_8 {k : Nat} (h : k < 2 ^ 62) : lN k &&& 511 = lN (k % 512) := by
  rw [show (511 : Int64) = lN (2 ^ 9 - 1) from rfl, wb_mask (by omega) (by decide)]
theorem dq_9 {k : Nat} (h : k < 2 ^ 62) : lN k >>> ((31 : Int32).toInt64 &&& 63) = lN (k / 2147483648) := by
  rw [show (31 : Int32) = nI 31 from rfl, sb_shr (by omega) (by decide)]
/-- the worths of the reference -/
def wtb_ (M : mm_M) (v0 : Nat) : Prop := mm_sh M v0 = some (.inr (10, 5)) ∧ ∀ i, i < 5 → mm_I M v0 i = nI (Wt i)

theorem k_X12_chooses {G : mm_G} {d : Nat} {Q : Option Value → mm_M → Prop} {M : mm_M} {y p sum v0 : Nat} {st : Nat → Nat} (hY : mdl_ M y) (hp : p < 8) (hsum : sum ≤ 5000) (hst : ∀ i, i < 5 → mm_I M (y + 19) (5 * p + i) = nI (st i)) (hstb : ∀ i, st i ≤ 10000) (hG2 : G.2.2.2.1 2 = .ref v0) (hv0 : wtb_ M v0) (h0 : (∀ n, ¬ fz_ st sum n) → ∀ M' : mm_M, lsk_ M M' → Q (some (.int 0)) M') (h1 : ∀ (n : Nat → Nat) (M' : mm_M), opt_ st sum n → chf_ M M' y → (∀ i, i < 5 → mm_I M' (y + 34) i = nI (n i)) → Q (some (.int 1)) M') : ma_ G jX12_chooses (d + 1) 0 0 [.ref y, .int (nI p), .int (nI sum)] M Q := by
  refine ma_of [some (.ref y), some (.int (nI p)), some (.int (nI sum)), none, none, none, none, none, none, none, none, none] (by decide) rfl (Nat.le_of_ble_eq_true rfl) ?_
  have hl34 : ∀ M1 : mm_M, lsk_ M M1 → mdl_ M1 y ∧ mm_sh M1 v0 = some (.inr (10, 5)) ∧ (∀ i, i < 5 → mm_I M1 v0 i = nI (Wt i)) := fun M1 h => ⟨lsk_mdl h hY, (lsk_sh h v0).trans hv0.1, fun i hi => by rw [lsk_I h]; exact hv0.2 i hi⟩
  have inner : ∀ (w lf n a c : Nat), w ≤ 4 → 1 ≤ a → a ≤ c + 1 → a ≤ 10000 → ∀ (v : Nat) (M1 : mm_M), lsk_ M M1 → v ≤ sum → (∀ u, v < u → u ≤ sum → dp_m (dp_S st w (c + a) u) (mm_L M1 (y + 33) u)) → (∀ u, u ≤ v → dp_m (dp_S st w c u) (mm_L M1 (y + 33) u)) → (∀ M' : mm_M, lsk_ M M' → (∀ u, u ≤ sum → dp_m (dp_S st w (c + a) u) (mm_L M' (y + 33) u)) → wa_ 0 G jX12_chooses (d + 1) 0 0 Q 0 0 M' 205 [some (.ref y), some (.int (nI p)), some (.int (nI sum)), some (.int (nI w)), some (.int (nI lf)), some (.long (lN (dp_on w))), none, some (.int (nI n)), none, none, none, none] []) → wa_ 0 G jX12_chooses (d + 1) 0 0 Q 0 0 M1 133 [some (.ref y), some (.int (nI p)), some (.int (nI sum)), some (.int (nI w)), some (.int (nI lf)), some (.long (lN (dp_on w))), none, some (.int (nI n)), some (.int (nI a)), some (.int (nI v)), none, none] [] := by
    intro w lf n a c hw ha1 hac ha4 v
    have wb := Wt_b w
    have haw : a * Wt w < 2 ^ 31 := by
      have : a * Wt w ≤ 10000 * 50 := Nat.mul_le_mul ha4 wb.2
      omega
    have haw1 : 1 ≤ a * Wt w := Nat.mul_pos ha1 wb.1
    induction v with
    | zero =>
      intro M1 hlk hv hhi hlo hk
      obtain ⟨hY1, hs1, hw1⟩ := hl34 M1 hlk
      refine wa_iload dX12_chooses_133 rfl ?_
      refine wa_iload dX12_chooses_135 rfl ?_
      refine wa_gets (k := 2) dX12_chooses_137 rfl wz_X12_289 hG2 ?_
      refine wa_iload_n dX12_chooses_140 rfl ?_
      refine wa_ialdN dX12_chooses_141 hs1 (Or.inr rfl) (by omega) (by decide) ?_
      rw [hw1 w (by omega)]
      refine wa_imul dX12_chooses_142 ?_
      rw [pk_mul]
      refine wa_icmp_lt (tgt := 205) dX12_chooses_143 (by decide) (fun hT143 => ?_) (fun hF143 => absurd (show nI 0 < nI (a * Wt w) from nI_lt (by omega) haw) hF143)
      refine wa_set0 8 (wa_set0 9 (hk M1 hlk (fun u hu => ?_)))
      rcases Nat.eq_zero_or_pos u with e | e
      · subst e
        exact dp_low hw hac (by omega) (hlo 0 (Nat.le_refl _))
      · exact hhi u e hu
    | succ v ih =>
      intro M1 hlk hv hhi hlo hk
      obtain ⟨hY1, hs1, hw1⟩ := hl34 M1 hlk
      have s199 : a * Wt w ≤ v + 1 → ∀ (z : Int64) (M2 : mm_M), lsk_ M M2 → dp_m (dp_S st w (c + a) (v + 1)) (mm_L M2 (y + 33) (v + 1)) → (∀ u, u ≠ v + 1 → (mm_L M2 (y + 33) u) = (mm_L M1 (y + 33) u)) → wa_ 0 G jX12_chooses (d + 1) 0 0 Q 0 0 M2 199 [some (.ref y), some (.int (nI p)), some (.int (nI sum)), some (.int (nI w)), some (.int (nI lf)), some (.long (lN (dp_on w))), none, some (.int (nI n)), some (.int (nI a)), some (.int (nI (v + 1))), some (.long z), none] [] := by
        intro hav z M2 hlk2 hm ho
        obtain ⟨hY2, hs2, hw2⟩ := hl34 M2 hlk2
        refine wa_iinc (v := nI v) dX12_chooses_199 rfl (pk_m1 v) (by decide) rfl rfl ?_
        refine wa_goto (tgt := 133) dX12_chooses_202 (by decide) ?_
        refine wa_set0 10 (ih M2 hlk2 (by omega) (fun u h1 h2 => ?_) (fun u hu => by rw [ho u (by omega)]; exact hlo u (by omega)) hk)
        by_cases e : u = v + 1
        · subst e; exact hm
        · rw [ho u e]; exact hhi u (by omega) h2
      refine wa_iload dX12_chooses_133 rfl ?_
      refine wa_iload dX12_chooses_135 rfl ?_
      refine wa_gets (k := 2) dX12_chooses_137 rfl wz_X12_289 hG2 ?_
      refine wa_iload_n dX12_chooses_140 rfl ?_
      refine wa_ialdN dX12_chooses_141 hs1 (Or.inr rfl) (by omega) (by decide) ?_
      rw [hw1 w (by omega)]
      refine wa_imul dX12_chooses_142 ?_
      rw [pk_mul]
      refine wa_icmp_lt (tgt := 205) dX12_chooses_143 (by decide) (fun hT143 => ?_) (fun hF143 => ?_)
      · have hav : v + 1 < a * Wt w := ni_lt hT143 (by omega) haw
        refine wa_set0 8 (wa_set0 9 (hk M1 hlk (fun u hu => ?_)))
        rcases Nat.lt_or_ge (v + 1) u with e | e
        · exact hhi u e hu
        · exact dp_low hw hac (by omega) (hlo u e)
      · have hav : a * Wt w ≤ v + 1 := ni_nlt hF143 (by omega) haw
        refine wa_aload_n dX12_chooses_146 rfl rfl ?_
        refine wa_getR (q := (RX12, TX12, 50)) (ci := 12) (k := 48) dX12_chooses_147 rfl (by decide) wf_X12_116 hY1.1 rfl (md_r48 hY1) ?_
        refine wa_iload dX12_chooses_150 rfl ?_
        refine wa_iload dX12_chooses_152 rfl ?_
        refine wa_gets (k := 2) dX12_chooses_154 rfl wz_X12_289 hG2 ?_
        refine wa_iload_n dX12_chooses_157 rfl ?_
        refine wa_ialdN dX12_chooses_158 hs1 (Or.inr rfl) (by omega) (by decide) ?_
        rw [hw1 w (by omega)]
        refine wa_imul dX12_chooses_159 ?_
        rw [pk_mul]
        refine wa_isub dX12_chooses_160 ?_
        rw [pk_sub hav]
        refine wa_laldN dX12_chooses_161 (md_s48 hY1) (by omega) (by decide) ?_
        refine wa_lstore dX12_chooses_162 (by decide) rfl rfl ?_
        refine wa_lload dX12_chooses_164 rfl ?_
        refine wa_ldc2 dX12_chooses_166 wl_X12_287 ?_
        refine wa_lcmp dX12_chooses_169 ?_
        refine wa_if_eq (tgt := 199) dX12_chooses_170 (by decide) (fun hT170 => ?_) (fun hF170 => ?_)
        · first
            | (have hzX : (mm_L M1 (y + 33) (v + 1 - a * Wt w)) = dp_X := lgc_eq hT170
               refine s199 hav _ M1 hlk ?_ (fun u hu => rfl)
               refine dp_step0 hw hac hav (hlo _ (Nat.le_refl _)) ?_ (by omega)
               have h9 := hlo (v + 1 - a * Wt w) (by omega)
               rw [hzX] at h9
               exact h9)
            | (have hzX : ¬ (mm_L M1 (y + 33) (v + 1 - a * Wt w)) = dp_X := lgc_ne hF170
               refine s199 hav _ _ (lsk_L hlk _ _ _) ?_ (fun u hu => mL_ne _ _ _ _ _ hu)
               rw [mL_eq]
               exact dp_step1 hw hac hav (hlo _ (Nat.le_refl _)) (hlo _ (by omega)) hzX (by omega))
        · refine wa_aload_n dX12_chooses_173 rfl rfl ?_
          refine wa_getR (q := (RX12, TX12, 50)) (ci := 12) (k := 48) dX12_chooses_174 rfl (by decide) wf_X12_116 hY1.1 rfl (md_r48 hY1) ?_
          refine wa_iload dX12_chooses_177 rfl ?_
          refine wa_aload_n dX12_chooses_179 rfl rfl ?_
          refine wa_getR (q := (RX12, TX12, 50)) (ci := 12) (k := 48) dX12_chooses_180 rfl (by decide) wf_X12_116 hY1.1 rfl (md_r48 hY1) ?_
          refine wa_iload dX12_chooses_183 rfl ?_
          refine wa_laldN dX12_chooses_185 (md_s48 hY1) (by omega) (by decide) ?_
          refine wa_lload dX12_chooses_186 rfl ?_
          refine wa_iload dX12_chooses_188 rfl ?_
          refine wa_i2l dX12_chooses_190 ?_
          refine wa_lload dX12_chooses_191 rfl ?_
          rw [nI_l (by omega)]
          refine wa_lmul dX12_chooses_193 ?_
          refine wa_ladd dX12_chooses_194 ?_
          refine wa_mminL dX12_chooses_195 lk_X12_300 (Nat.le_of_ble_eq_true rfl) ?_
          refine wa_lastN dX12_chooses_198 (md_s48 hY1) (by omega) (by decide) ?_
          first
            | (have hzX : (mm_L M1 (y + 33) (v + 1 - a * Wt w)) = dp_X := lgc_eq hT170
               refine s199 hav _ M1 hlk ?_ (fun u hu => rfl)
               refine dp_step0 hw hac hav (hlo _ (Nat.le_refl _)) ?_ (by omega)
               have h9 := hlo (v + 1 - a * Wt w) (by omega)
               rw [hzX] at h9
               exact h9)
            | (have hzX : ¬ (mm_L M1 (y + 33) (v + 1 - a * Wt w)) = dp_X := lgc_ne hF170
               refine s199 hav _ _ (lsk_L hlk _ _ _) ?_ (fun u hu => mL_ne _ _ _ _ _ hu)
               rw [mL_eq]
               exact dp_step1 hw hac hav (hlo _ (Nat.le_refl _)) (hlo _ (by omega)) hzX (by omega))
  have exit0 : ∀ (w L0 : Nat), w ≤ 4 → ∀ (n : Nat) (M1 : mm_M), lsk_ M M1 → (∀ u, u ≤ sum → dp_m (dp_S st w L0 u) (mm_L M1 (y + 33) u)) → (∀ M' : mm_M, lsk_ M M' → (∀ u, u ≤ sum → dp_m (dp_S st w L0 u) (mm_L M' (y + 33) u)) → wa_ 0 G jX12_chooses (d + 1) 0 0 Q 0 0 M' 214 [some (.ref y), some (.int (nI p)), some (.int (nI sum)), some (.int (nI w)), none, none, none, none, none, none, none, none] []) → wa_ 0 G jX12_chooses (d + 1) 0 0 Q 0 0 M1 109 [some (.ref y), some (.int (nI p)), some (.int (nI sum)), some (.int (nI w)), some (.int (nI 0)), some (.long (lN (dp_on w))), none, some (.int (nI n)), none, none, none, none] [] := by
    intro w L0 hw n M1 hlk hm hk
    obtain ⟨hY1, hs1, hw1⟩ := hl34 M1 hlk
    refine wa_iload dX12_chooses_109 rfl ?_
    refine wa_if_le (tgt := 214) dX12_chooses_111 (by decide) (fun hT111 => ?_) (fun hF111 => absurd (show nI 0 ≤ 0 from by decide) hF111)
    exact wa_set0 4 (wa_set0 5 (wa_set0 7 (hk M1 hlk hm)))
  have middle : ∀ (w L0 : Nat), w ≤ 4 → L0 ≤ 5000 → ∀ (lf c : Nat) (M1 : mm_M), c + lf = L0 → lsk_ M M1 → (∀ u, u ≤ sum → dp_m (dp_S st w c u) (mm_L M1 (y + 33) u)) → (∀ M' : mm_M, lsk_ M M' → (∀ u, u ≤ sum → dp_m (dp_S st w L0 u) (mm_L M' (y + 33) u)) → wa_ 0 G jX12_chooses (d + 1) 0 0 Q 0 0 M' 214 [some (.ref y), some (.int (nI p)), some (.int (nI sum)), some (.int (nI w)), none, none, none, none, none, none, none, none] []) → wa_ 0 G jX12_chooses (d + 1) 0 0 Q 0 0 M1 109 [some (.ref y), some (.int (nI p)), some (.int (nI sum)), some (.int (nI w)), some (.int (nI lf)), some (.long (lN (dp_on w))), none, some (.int (nI (c + 1))), none, none, none, none] [] := by
    intro w L0 hw hL lf
    induction lf using Nat.strongRecOn with
    | ind lf ih =>
      intro c M1 hcl hlk hm hk
      obtain ⟨hY1, hs1, hw1⟩ := hl34 M1 hlk
      refine wa_iload dX12_chooses_109 rfl ?_
      refine wa_if_le (tgt := 214) dX12_chooses_111 (by decide) (fun hT111 => ?_) (fun hF111 => ?_)
      · have hlf : lf = 0 := by
          rcases Nat.eq_zero_or_pos lf with e | e
          · exact e
          · exact absurd hT111 (nI_nle e (by omega))
        refine wa_set0 4 (wa_set0 5 (wa_set0 7 (hk M1 hlk (fun u hu => ?_))))
        rw [show L0 = c from by omega]
        exact hm u hu
      · have hlf : 0 < lf := by
          rcases Nat.eq_zero_or_pos lf with e | e
          · subst e; exact absurd (show nI 0 ≤ 0 from by decide) hF111
          · exact e
        obtain ⟨a, ea⟩ : ∃ a, a = min (c + 1) lf := ⟨_, rfl⟩
        refine wa_iload dX12_chooses_114 rfl ?_
        refine wa_iload dX12_chooses_116 rfl ?_
        refine wa_mmin dX12_chooses_118 lk_X12_223 (Nat.le_of_ble_eq_true rfl) ?_
        rw [show (if nI lf < nI (c + 1) then nI lf else nI (c + 1)) = nI a from by
          by_cases h : lf < c + 1
          · rw [if_pos (nI_lt h (by omega)), ea, Nat.min_eq_right (by omega)]
          · rw [if_neg (nI_nlt (by omega) (by omega)), ea, Nat.min_eq_left (by omega)]]
        refine wa_istore dX12_chooses_121 (by decide) rfl rfl ?_
        refine wa_iload dX12_chooses_123 rfl ?_
        refine wa_iload dX12_chooses_125 rfl ?_
        refine wa_isub dX12_chooses_127 ?_
        rw [pk_sub (by omega)]
        refine wa_istore dX12_chooses_128 (by decide) rfl rfl ?_
        refine wa_iload_n dX12_chooses_130 rfl ?_
        refine wa_istore dX12_chooses_131 (by decide) rfl rfl ?_
        refine inner w (lf - a) (c + 1) a c hw (by omega) (by omega) (by omega) sum M1 hlk (Nat.le_refl _) (fun u h1 h2 => absurd h1 (by omega)) (fun u hu => hm u hu) (fun M2 hlk2 hm2 => ?_)
        obtain ⟨hY2, hs2, hw2⟩ := hl34 M2 hlk2
        refine wa_iload dX12_chooses_205 rfl ?_
        refine wa_iconst (v := 2) dX12_chooses_207 (by decide) ?_
        refine wa_imul dX12_chooses_208 ?_
        rw [show nI (c + 1) * 2 = nI ((c + 1) * 2) from pk_mul (c + 1) 2]
        refine wa_istore dX12_chooses_209 (by decide) rfl rfl ?_
        refine wa_goto (tgt := 109) dX12_chooses_211 (by decide) ?_
        rcases Nat.eq_zero_or_pos (lf - a) with e | e
        · have hx : wa_ 0 G jX12_chooses (d + 1) 0 0 Q 0 0 M2 109 [some (.ref y), some (.int (nI p)), some (.int (nI sum)), some (.int (nI w)), some (.int (nI 0)), some (.long (lN (dp_on w))), none, some (.int (nI ((c + 1) * 2))), none, none, none, none] [] := by
            refine exit0 w L0 hw ((c + 1) * 2) M2 hlk2 (fun u hu => ?_) hk
            have h9 := hm2 u hu
            rw [show L0 = c + a from by omega]
            exact h9
          rw [e]
          exact hx
        · have e2 : (c + 1) * 2 = c + a + 1 := by omega
          rw [e2]
          exact ih (lf - a) (by omega) (c + a) M2 (by omega) hlk2 hm2 hk
  have fin : ∀ (M1 : mm_M), lsk_ M M1 → dp_m (dp_S st 5 0 sum) (mm_L M1 (y + 33) sum) → wa_ 0 G jX12_chooses (d + 1) 0 0 Q 0 0 M1 220 [some (.ref y), some (.int (nI p)), some (.int (nI sum)), none, none, none, none, none, none, none, none, none] [] := by
    intro M1 hlk hm
    obtain ⟨hY1, hs1, hw1⟩ := hl34 M1 hlk
    refine wa_aload_n dX12_chooses_220 rfl rfl ?_
    refine wa_getR (q := (RX12, TX12, 50)) (ci := 12) (k := 48) dX12_chooses_221 rfl (by decide) wf_X12_116 hY1.1 rfl (md_r48 hY1) ?_
    refine wa_iload_n dX12_chooses_224 rfl ?_
    refine wa_laldN dX12_chooses_225 (md_s48 hY1) (by omega) (by decide) ?_
    refine wa_ldc2 dX12_chooses_226 wl_X12_287 ?_
    refine wa_lcmp dX12_chooses_229 ?_
    refine wa_if_ne (tgt := 235) dX12_chooses_230 (by decide) (fun hT230 => ?_) (fun hF230 => ?_)
    · obtain ⟨n, hopt, hxn⟩ := dp_end1 hm (lgc_ne hT230) hsum
      have hdn := hopt.1.2.2.2.2.2
      have kb := dp_kb (n := n) (by omega)
      have hkle : dp_key n ≤ cnt_ n * 1099511627776 := Nat.le.intro (dp_kc n)
      have hk62 : dp_key n < 2 ^ 62 := Nat.lt_of_le_of_lt kb (by decide)
      obtain ⟨q1, q2, q3, q4, q5, q6, q7, q8⟩ := dp_dec (n := n) (by omega)
      refine wa_aload_n dX12_chooses_235 rfl rfl ?_
      refine wa_getR (q := (RX12, TX12, 50)) (ci := 12) (k := 48) dX12_chooses_236 rfl (by decide) wf_X12_116 hY1.1 rfl (md_r48 hY1) ?_
      refine wa_iload_n dX12_chooses_239 rfl ?_
      refine wa_laldN dX12_chooses_240 (md_s48 hY1) (by omega) (by decide) ?_
      rw [hxn]
      refine wa_ldc2 dX12_chooses_241 wl_X12_292 ?_
      refine wa_ladd dX12_chooses_244 ?_
      refine wa_lconst (v := 1) dX12_chooses_245 (by decide) ?_
      refine wa_lsub dX12_chooses_246 ?_
      rw [dq_1]
      refine wa_bipush (v := 40) dX12_chooses_247 (by decide) ?_
      refine wa_lshr dX12_chooses_249 ?_
      rw [dq_2 hk62, q1]
      refine wa_lstore_n dX12_chooses_250 (by decide) rfl rfl ?_
      refine wa_lload_n dX12_chooses_251 rfl ?_
      refine wa_bipush (v := 40) dX12_chooses_252 (by decide) ?_
      refine wa_lshl dX12_chooses_254 ?_
      rw [dq_3]
      refine wa_aload_n dX12_chooses_255 rfl rfl ?_
      refine wa_getR (q := (RX12, TX12, 50)) (ci := 12) (k := 48) dX12_chooses_256 rfl (by decide) wf_X12_116 hY1.1 rfl (md_r48 hY1) ?_
      refine wa_iload_n dX12_chooses_259 rfl ?_
      refine wa_laldN dX12_chooses_260 (md_s48 hY1) (by omega) (by decide) ?_
      rw [hxn]
      refine wa_lsub dX12_chooses_261 ?_
      rw [lN_sub hkle, q2]
      refine wa_lstore dX12_chooses_262 (by decide) rfl rfl ?_
      refine wa_aload_n dX12_chooses_264 rfl rfl ?_
      refine wa_getR (q := (RX12, TX12, 50)) (ci := 12) (k := 49) dX12_chooses_265 rfl (by decide) wf_X12_120 hY1.1 rfl (md_r49 hY1) ?_
      refine wa_iconst (v := 1) dX12_chooses_268 (by decide) ?_
      refine wa_lload dX12_chooses_269 rfl ?_
      refine wa_ldc2 dX12_chooses_271 wl_X12_303 ?_
      refine wa_land dX12_chooses_274 ?_
      rw [dq_4 q7, q3]
      refine wa_l2i dX12_chooses_275 ?_
      rw [lN_i]
      refine wa_iastN (j := 1) dX12_chooses_276 (md_s49 hY1) (by decide) (by decide) ?_
      refine wa_aload_n dX12_chooses_277 rfl rfl ?_
      refine wa_getR (q := (RX12, TX12, 50)) (ci := 12) (k := 49) dX12_chooses_278 rfl (by decide) wf_X12_120 hY1.1 rfl (md_r49 hY1) ?_
      refine wa_iconst (v := 2) dX12_chooses_281 (by decide) ?_
      refine wa_lload dX12_chooses_282 rfl ?_
      refine wa_bipush (v := 12) dX12_chooses_284 (by decide) ?_
      refine wa_lshr dX12_chooses_286 ?_
      rw [dq_5 q7]
      refine wa_ldc2 dX12_chooses_287 wl_X12_305 ?_
      refine wa_land dX12_chooses_290 ?_
      rw [dq_6 (Nat.lt_of_le_of_lt (Nat.div_le_self _ _) q7), q4]
      refine wa_l2i dX12_chooses_291 ?_
      rw [lN_i]
      refine wa_iastN (j := 2) dX12_chooses_292 (md_s49 hY1) (by decide) (by decide) ?_
      refine wa_aload_n dX12_chooses_293 rfl rfl ?_
      refine wa_getR (q := (RX12, TX12, 50)) (ci := 12) (k := 49) dX12_chooses_294 rfl (by decide) wf_X12_120 hY1.1 rfl (md_r49 hY1) ?_
      refine wa_iconst (v := 3) dX12_chooses_297 (by decide) ?_
      refine wa_lload dX12_chooses_298 rfl ?_
      refine wa_bipush (v := 22) dX12_chooses_300 (by decide) ?_
      refine wa_lshr dX12_chooses_302 ?_
      rw [dq_7 q7]
      refine wa_ldc2 dX12_chooses_303 wl_X12_307 ?_
      refine wa_land dX12_chooses_306 ?_
      rw [dq_8 (Nat.lt_of_le_of_lt (Nat.div_le_self _ _) q7), q5]
      refine wa_l2i dX12_chooses_307 ?_
      rw [lN_i]
      refine wa_iastN (j := 3) dX12_chooses_308 (md_s49 hY1) (by decide) (by decide) ?_
      refine wa_aload_n dX12_chooses_309 rfl rfl ?_
      refine wa_getR (q := (RX12, TX12, 50)) (ci := 12) (k := 49) dX12_chooses_310 rfl (by decide) wf_X12_120 hY1.1 rfl (md_r49 hY1) ?_
      refine wa_iconst (v := 4) dX12_chooses_313 (by decide) ?_
      refine wa_lload dX12_chooses_314 rfl ?_
      refine wa_bipush (v := 31) dX12_chooses_316 (by decide) ?_
      refine wa_lshr dX12_chooses_318 ?_
      rw [dq_9 q7, q6]
      refine wa_l2i dX12_chooses_319 ?_
      rw [lN_i]
      refine wa_iastN (j := 4) dX12_chooses_320 (md_s49 hY1) (by decide) (by decide) ?_
      refine wa_aload_n dX12_chooses_321 rfl rfl ?_
      refine wa_getR (q := (RX12, TX12, 50)) (ci := 12) (k := 49) dX12_chooses_322 rfl (by decide) wf_X12_120 hY1.1 rfl (md_r49 hY1) ?_
      refine wa_iconst (v := 0) dX12_chooses_325 (by decide) ?_
      refine wa_lload_n dX12_chooses_326 rfl ?_
      refine wa_l2i dX12_chooses_327 ?_
      rw [lN_i]
      refine wa_aload_n dX12_chooses_328 rfl rfl ?_
      refine wa_getR (q := (RX12, TX12, 50)) (ci := 12) (k := 49) dX12_chooses_329 rfl (by decide) wf_X12_120 hY1.1 rfl (md_r49 hY1) ?_
      refine wa_iconst (v := 1) dX12_chooses_332 (by decide) ?_
      refine wa_ialdN (j := 1) dX12_chooses_333 (md_s49 hY1) (Or.inl rfl) (by decide) (by decide) ?_
      rw [show mm_I (mm_sI (mm_sI (mm_sI (mm_sI M1 (y + 34) 1 (nI (n 1))) (y + 34) 2 (nI (n 2))) (y + 34) 3 (nI (n 3))) (y + 34) 4 (nI (n 4))) (y + 34) 1 = nI (n 1) from by simp [mm_I_sI]]
      refine wa_isub dX12_chooses_334 ?_
      refine wa_aload_n dX12_chooses_335 rfl rfl ?_
      refine wa_getR (q := (RX12, TX12, 50)) (ci := 12) (k := 49) dX12_chooses_336 rfl (by decide) wf_X12_120 hY1.1 rfl (md_r49 hY1) ?_
      refine wa_iconst (v := 2) dX12_chooses_339 (by decide) ?_
      refine wa_ialdN (j := 2) dX12_chooses_340 (md_s49 hY1) (Or.inl rfl) (by decide) (by decide) ?_
      rw [show mm_I (mm_sI (mm_sI (mm_sI (mm_sI M1 (y + 34) 1 (nI (n 1))) (y + 34) 2 (nI (n 2))) (y + 34) 3 (nI (n 3))) (y + 34) 4 (nI (n 4))) (y + 34) 2 = nI (n 2) from by simp [mm_I_sI]]
      refine wa_isub dX12_chooses_341 ?_
      refine wa_aload_n dX12_chooses_342 rfl rfl ?_
      refine wa_getR (q := (RX12, TX12, 50)) (ci := 12) (k := 49) dX12_chooses_343 rfl (by decide) wf_X12_120 hY1.1 rfl (md_r49 hY1) ?_
      refine wa_iconst (v := 3) dX12_chooses_346 (by decide) ?_
      refine wa_ialdN (j := 3) dX12_chooses_347 (md_s49 hY1) (Or.inl rfl) (by decide) (by decide) ?_
      rw [show mm_I (mm_sI (mm_sI (mm_sI (mm_sI M1 (y + 34) 1 (nI (n 1))) (y + 34) 2 (nI (n 2))) (y + 34) 3 (nI (n 3))) (y + 34) 4 (nI (n 4))) (y + 34) 3 = nI (n 3) from by simp [mm_I_sI]]
      refine wa_isub dX12_chooses_348 ?_
      refine wa_aload_n dX12_chooses_349 rfl rfl ?_
      refine wa_getR (q := (RX12, TX12, 50)) (ci := 12) (k := 49) dX12_chooses_350 rfl (by decide) wf_X12_120 hY1.1 rfl (md_r49 hY1) ?_
      refine wa_iconst (v := 4) dX12_chooses_353 (by decide) ?_
      refine wa_ialdN (j := 4) dX12_chooses_354 (md_s49 hY1) (Or.inl rfl) (by decide) (by decide) ?_
      rw [show mm_I (mm_sI (mm_sI (mm_sI (mm_sI M1 (y + 34) 1 (nI (n 1))) (y + 34) 2 (nI (n 2))) (y + 34) 3 (nI (n 3))) (y + 34) 4 (nI (n 4))) (y + 34) 4 = nI (n 4) from by simp [mm_I_sI]]
      refine wa_isub dX12_chooses_355 ?_
      rw [show nI (cnt_ n) - nI (n 1) - nI (n 2) - nI (n 3) - nI (n 4) = nI (n 0) from by
        rw [pk_sub (by unfold cnt_; omega), pk_sub (by unfold cnt_; omega), pk_sub (by unfold cnt_; omega), pk_sub (by unfold cnt_; omega)]
        exact congrArg nI (by unfold cnt_; omega)]
      refine wa_iastN (j := 0) dX12_chooses_356 (md_s49 hY1) (by decide) (by decide) ?_
      refine wa_iconst (v := 1) dX12_chooses_357 (by decide) ?_
      exact wa_zret dX12_chooses_358 rfl rfl (by
      refine h1 n _ hopt ⟨hlk.1, hlk.2.2, fun a j ha => ?_⟩ (fun i hi => ?_)
      · rw [← congrFun (lsk_I hlk a) j]
        exact (mI_na _ _ _ _ _ _ ha).trans ((mI_na _ _ _ _ _ _ ha).trans ((mI_na _ _ _ _ _ _ ha).trans ((mI_na _ _ _ _ _ _ ha).trans (mI_na _ _ _ _ _ _ ha))))
      · rcases (by omega : i = 0 ∨ i = 1 ∨ i = 2 ∨ i = 3 ∨ i = 4) with rfl | rfl | rfl | rfl | rfl
        · exact mI_eq _ _ _ _
        · exact (mI_ne _ _ _ _ _ (by decide)).trans ((mI_ne _ _ _ _ _ (by decide)).trans ((mI_ne _ _ _ _ _ (by decide)).trans ((mI_ne _ _ _ _ _ (by decide)).trans (mI_eq _ _ _ _))))
        · exact (mI_ne _ _ _ _ _ (by decide)).trans ((mI_ne _ _ _ _ _ (by decide)).trans ((mI_ne _ _ _ _ _ (by decide)).trans (mI_eq _ _ _ _)))
        · exact (mI_ne _ _ _ _ _ (by decide)).trans ((mI_ne _ _ _ _ _ (by decide)).trans (mI_eq _ _ _ _))
        · exact (mI_ne _ _ _ _ _ (by decide)).trans (mI_eq _ _ _ _))
    · refine wa_iconst (v := 0) dX12_chooses_233 (by decide) ?_
      exact wa_zret dX12_chooses_234 rfl rfl (h0 (dp_end0 (by rw [lgc_eq hF230] at hm; exact hm) hsum) M1 hlk)
  have outer : ∀ (r w : Nat) (M1 : mm_M), w + r = 5 → lsk_ M M1 → (∀ u, u ≤ sum → dp_m (dp_S st w 0 u) (mm_L M1 (y + 33) u)) → wa_ 0 G jX12_chooses (d + 1) 0 0 Q 0 0 M1 31 [some (.ref y), some (.int (nI p)), some (.int (nI sum)), some (.int (nI w)), none, none, none, none, none, none, none, none] [] := by
    intro r
    induction r with
    | zero =>
      intro w M1 hw hlk hm
      obtain rfl : w = 5 := by omega
      obtain ⟨hY1, hs1, hw1⟩ := hl34 M1 hlk
      refine wa_iload_n dX12_chooses_31 rfl ?_
      refine wa_iconst (v := 5) dX12_chooses_32 (by decide) ?_
      refine wa_icmp_ge (tgt := 220) dX12_chooses_33 (by decide) (fun hT33 => ?_) (fun hF33 => absurd (show (5 : Int32) ≤ nI 5 from by decide) hF33)
      exact wa_set0 3 (fin M1 hlk (hm sum (Nat.le_refl _)))
    | succ r ih =>
      intro w M1 hw hlk hm
      obtain ⟨hY1, hs1, hw1⟩ := hl34 M1 hlk
      have wb := Wt_b w
      have s103 : ∀ (lf : Nat) (z : Int64), lf = min (st w) (sum / Wt w) → (1099511627776 : Int64) - z = lN (dp_on w) → wa_ 0 G jX12_chooses (d + 1) 0 0 Q 0 0 M1 103 [some (.ref y), some (.int (nI p)), some (.int (nI sum)), some (.int (nI w)), some (.int (nI lf)), none, none, none, none, none, none, none] [.long z, .long 1099511627776] := by
        intro lf z hlf hz
        have hlf5 : lf ≤ 5000 := by
          rw [hlf]
          exact Nat.le_trans (Nat.min_le_right _ _) (Nat.le_trans (Nat.div_le_self _ _) hsum)
        refine wa_lsub dX12_chooses_103 ?_
        rw [hz]
        refine wa_lstore dX12_chooses_104 (by decide) rfl rfl ?_
        refine wa_iconst (v := 1) dX12_chooses_106 (by decide) ?_
        refine wa_istore dX12_chooses_107 (by decide) rfl rfl ?_
        refine middle w lf (by omega) hlf5 lf 0 M1 (Nat.zero_add _) hlk hm (fun M2 hlk2 hm2 => ?_)
        obtain ⟨hY2, hs2, hw2⟩ := hl34 M2 hlk2
        refine wa_iinc (v := nI (w + 1)) dX12_chooses_214 rfl (ni_i1 w) (by decide) rfl rfl ?_
        refine wa_goto (tgt := 31) dX12_chooses_217 (by decide) ?_
        refine ih (w + 1) M2 (by omega) hlk2 (fun u hu => ?_)
        have h9 := hm2 u hu
        rw [hlf] at h9
        exact dp_next (by omega) hu h9
      refine wa_iload_n dX12_chooses_31 rfl ?_
      refine wa_iconst (v := 5) dX12_chooses_32 (by decide) ?_
      refine wa_icmp_ge (tgt := 220) dX12_chooses_33 (by decide) (fun hT33 => absurd hT33 (nI_ge (b := 5) (by omega) (by decide))) (fun hF33 => ?_)
      refine wa_aload_n dX12_chooses_36 rfl rfl ?_
      refine wa_getR (q := (RX12, TX12, 50)) (ci := 12) (k := 33) dX12_chooses_37 rfl (by decide) wf_X12_73 hY1.1 rfl (md_r33 hY1) ?_
      refine wa_iconst (v := 5) dX12_chooses_40 (by decide) ?_
      refine wa_iload_n dX12_chooses_41 rfl ?_
      refine wa_imul dX12_chooses_42 ?_
      refine wa_iload_n dX12_chooses_43 rfl ?_
      refine wa_iadd dX12_chooses_44 ?_
      rw [ix_5 p w]
      refine wa_ialdN dX12_chooses_45 (md_s33 hY1) (Or.inl rfl) (by omega) (by decide) ?_
      rw [show mm_I M1 (y + 19) (5 * p + w) = nI (st w) from by rw [lsk_I hlk]; exact hst w (by omega)]
      refine wa_iload_n dX12_chooses_46 rfl ?_
      refine wa_gets (k := 2) dX12_chooses_47 rfl wz_X12_289 hG2 ?_
      refine wa_iload_n dX12_chooses_50 rfl ?_
      refine wa_ialdN dX12_chooses_51 hs1 (Or.inr rfl) (by omega) (by decide) ?_
      rw [hw1 w (by omega)]
      refine wa_idiv dX12_chooses_52 (nI_ne0 (by omega) (by omega)) ?_
      rw [pk_div (by omega) (by omega) (by omega)]
      refine wa_mmin dX12_chooses_53 lk_X12_223 (Nat.le_of_ble_eq_true rfl) ?_
      rw [show (if nI (sum / Wt w) < nI (st w) then nI (sum / Wt w) else nI (st w)) = nI (min (st w) (sum / Wt w)) from by
        have h1 := hstb w
        have h2 : sum / Wt w ≤ sum := Nat.div_le_self _ _
        by_cases h : sum / Wt w < st w
        · rw [if_pos (nI_lt h (by omega)), Nat.min_eq_right (Nat.le_of_lt h)]
        · rw [if_neg (nI_nlt (by omega) (by omega)), Nat.min_eq_left (Nat.not_lt.mp h)]]
      refine wa_istore dX12_chooses_56 (by decide) rfl rfl ?_
      refine wa_ldc2 dX12_chooses_58 wl_X12_292 ?_
      refine wa_iload_n dX12_chooses_61 rfl ?_
      refine wa_if_ne (tgt := 69) dX12_chooses_62 (by decide) (fun hT62 => ?_) (fun hF62 => ?_)
      · refine wa_iload_n dX12_chooses_69 rfl ?_
        refine wa_iconst (v := 1) dX12_chooses_70 (by decide) ?_
        refine wa_icmp_ne (tgt := 78) dX12_chooses_71 (by decide) (fun hT71 => ?_) (fun hF71 => ?_)
        · refine wa_iload_n dX12_chooses_78 rfl ?_
          refine wa_iconst (v := 2) dX12_chooses_79 (by decide) ?_
          refine wa_icmp_ne (tgt := 89) dX12_chooses_80 (by decide) (fun hT80 => ?_) (fun hF80 => ?_)
          · refine wa_iload_n dX12_chooses_89 rfl ?_
            refine wa_iconst (v := 3) dX12_chooses_90 (by decide) ?_
            refine wa_icmp_ne (tgt := 100) dX12_chooses_91 (by decide) (fun hT91 => ?_) (fun hF91 => ?_)
            · refine wa_ldc2 dX12_chooses_100 wl_X12_298 ?_
              first
                | exact s103 _ _ rfl (by rw [show w = 0 from ni_0 hF62 (by omega)]; decide)
                | exact s103 _ _ rfl (by rw [show w = 1 from (nI_eq (by omega) (by decide)).mp (show nI w = nI 1 from hF71)]; decide)
                | exact s103 _ _ rfl (by rw [show w = 2 from (nI_eq (by omega) (by decide)).mp (show nI w = nI 2 from hF80)]; decide)
                | exact s103 _ _ rfl (by rw [show w = 3 from (nI_eq (by omega) (by decide)).mp (show nI w = nI 3 from hF91)]; decide)
                | exact s103 _ _ rfl (by
                    have n0 : w ≠ 0 := fun e => hT62 (by rw [e]; rfl)
                    have n1 : w ≠ 1 := fun e => hT71 (by rw [e]; rfl)
                    have n2 : w ≠ 2 := fun e => hT80 (by rw [e]; rfl)
                    have n3 : w ≠ 3 := fun e => hT91 (by rw [e]; rfl)
                    rw [show w = 4 from by omega]; decide)
            · refine wa_ldc2 dX12_chooses_94 wl_X12_296 ?_
              refine wa_goto (tgt := 103) dX12_chooses_97 (by decide) ?_
              first
                | exact s103 _ _ rfl (by rw [show w = 0 from ni_0 hF62 (by omega)]; decide)
                | exact s103 _ _ rfl (by rw [show w = 1 from (nI_eq (by omega) (by decide)).mp (show nI w = nI 1 from hF71)]; decide)
                | exact s103 _ _ rfl (by rw [show w = 2 from (nI_eq (by omega) (by decide)).mp (show nI w = nI 2 from hF80)]; decide)
                | exact s103 _ _ rfl (by rw [show w = 3 from (nI_eq (by omega) (by decide)).mp (show nI w = nI 3 from hF91)]; decide)
                | exact s103 _ _ rfl (by
                    have n0 : w ≠ 0 := fun e => hT62 (by rw [e]; rfl)
                    have n1 : w ≠ 1 := fun e => hT71 (by rw [e]; rfl)
                    have n2 : w ≠ 2 := fun e => hT80 (by rw [e]; rfl)
                    have n3 : w ≠ 3 := fun e => hT91 (by rw [e]; rfl)
                    rw [show w = 4 from by omega]; decide)
          · refine wa_ldc2 dX12_chooses_83 wl_X12_294 ?_
            refine wa_goto (tgt := 103) dX12_chooses_86 (by decide) ?_
            first
              | exact s103 _ _ rfl (by rw [show w = 0 from ni_0 hF62 (by omega)]; decide)
              | exact s103 _ _ rfl (by rw [show w = 1 from (nI_eq (by omega) (by decide)).mp (show nI w = nI 1 from hF71)]; decide)
              | exact s103 _ _ rfl (by rw [show w = 2 from (nI_eq (by omega) (by decide)).mp (show nI w = nI 2 from hF80)]; decide)
              | exact s103 _ _ rfl (by rw [show w = 3 from (nI_eq (by omega) (by decide)).mp (show nI w = nI 3 from hF91)]; decide)
              | exact s103 _ _ rfl (by
                  have n0 : w ≠ 0 := fun e => hT62 (by rw [e]; rfl)
                  have n1 : w ≠ 1 := fun e => hT71 (by rw [e]; rfl)
                  have n2 : w ≠ 2 := fun e => hT80 (by rw [e]; rfl)
                  have n3 : w ≠ 3 := fun e => hT91 (by rw [e]; rfl)
                  rw [show w = 4 from by omega]; decide)
        · refine wa_lconst (v := 1) dX12_chooses_74 (by decide) ?_
          refine wa_goto (tgt := 103) dX12_chooses_75 (by decide) ?_
          first
            | exact s103 _ _ rfl (by rw [show w = 0 from ni_0 hF62 (by omega)]; decide)
            | exact s103 _ _ rfl (by rw [show w = 1 from (nI_eq (by omega) (by decide)).mp (show nI w = nI 1 from hF71)]; decide)
            | exact s103 _ _ rfl (by rw [show w = 2 from (nI_eq (by omega) (by decide)).mp (show nI w = nI 2 from hF80)]; decide)
            | exact s103 _ _ rfl (by rw [show w = 3 from (nI_eq (by omega) (by decide)).mp (show nI w = nI 3 from hF91)]; decide)
            | exact s103 _ _ rfl (by
                have n0 : w ≠ 0 := fun e => hT62 (by rw [e]; rfl)
                have n1 : w ≠ 1 := fun e => hT71 (by rw [e]; rfl)
                have n2 : w ≠ 2 := fun e => hT80 (by rw [e]; rfl)
                have n3 : w ≠ 3 := fun e => hT91 (by rw [e]; rfl)
                rw [show w = 4 from by omega]; decide)
      · refine wa_lconst (v := 0) dX12_chooses_65 (by decide) ?_
        refine wa_goto (tgt := 103) dX12_chooses_66 (by decide) ?_
        first
          | exact s103 _ _ rfl (by rw [show w = 0 from ni_0 hF62 (by omega)]; decide)
          | exact s103 _ _ rfl (by rw [show w = 1 from (nI_eq (by omega) (by decide)).mp (show nI w = nI 1 from hF71)]; decide)
          | exact s103 _ _ rfl (by rw [show w = 2 from (nI_eq (by omega) (by decide)).mp (show nI w = nI 2 from hF80)]; decide)
          | exact s103 _ _ rfl (by rw [show w = 3 from (nI_eq (by omega) (by decide)).mp (show nI w = nI 3 from hF91)]; decide)
          | exact s103 _ _ rfl (by
              have n0 : w ≠ 0 := fun e => hT62 (by rw [e]; rfl)
              have n1 : w ≠ 1 := fun e => hT71 (by rw [e]; rfl)
              have n2 : w ≠ 2 := fun e => hT80 (by rw [e]; rfl)
              have n3 : w ≠ 3 := fun e => hT91 (by rw [e]; rfl)
              rw [show w = 4 from by omega]; decide)
  have init : ∀ (r v : Nat) (M1 : mm_M), sum + 1 - v = r → 1 ≤ v → v ≤ sum + 1 → lsk_ M M1 → (∀ u, 1 ≤ u → u < v → (mm_L M1 (y + 33) u) = dp_X) → wa_ 0 G jX12_chooses (d + 1) 0 0 Q 0 0 M1 2 [some (.ref y), some (.int (nI p)), some (.int (nI sum)), some (.int (nI v)), none, none, none, none, none, none, none, none] [] := by
    intro r
    induction r using Nat.strongRecOn with
    | ind r ih =>
      intro v M1 hr hv1 hv2 hlk hm
      obtain ⟨hY1, hs1, hw1⟩ := hl34 M1 hlk
      refine wa_iload_n dX12_chooses_2 rfl ?_
      refine wa_iload_n dX12_chooses_3 rfl ?_
      refine wa_icmp_gt (tgt := 22) dX12_chooses_4 (by decide) (fun hT4 => ?_) (fun hF4 => ?_)
      · have hv3 : v = sum + 1 := by
          have := ni_lt hT4 (by omega) (by omega)
          omega
        refine wa_aload_n dX12_chooses_22 rfl rfl ?_
        refine wa_getR (q := (RX12, TX12, 50)) (ci := 12) (k := 48) dX12_chooses_23 rfl (by decide) wf_X12_116 hY1.1 rfl (md_r48 hY1) ?_
        refine wa_iconst (v := 0) dX12_chooses_26 (by decide) ?_
        refine wa_lconst (v := 0) dX12_chooses_27 (by decide) ?_
        refine wa_lastN (j := 0) dX12_chooses_28 (md_s48 hY1) (by decide) (by decide) ?_
        refine wa_iconst (v := 0) dX12_chooses_29 (by decide) ?_
        refine wa_istore_n dX12_chooses_30 (by decide) rfl rfl ?_
        refine outer 5 0 _ rfl (lsk_L hlk _ _ _) (fun u hu => dp_init (fun e => ?_) (fun e => ?_))
        · rw [e]; exact mL_eq _ _ _ _
        · refine (mL_ne _ _ _ _ _ (fun e9 => by have e8 : u = 0 := e9; omega)).trans ?_
          exact hm u e (by omega)
      · have hv3 : v ≤ sum := ni_nlt hF4 (by omega) (by omega)
        refine wa_aload_n dX12_chooses_7 rfl rfl ?_
        refine wa_getR (q := (RX12, TX12, 50)) (ci := 12) (k := 48) dX12_chooses_8 rfl (by decide) wf_X12_116 hY1.1 rfl (md_r48 hY1) ?_
        refine wa_iload_n dX12_chooses_11 rfl ?_
        refine wa_ldc2 dX12_chooses_12 wl_X12_287 ?_
        refine wa_lastN dX12_chooses_15 (md_s48 hY1) (by omega) (by decide) ?_
        refine wa_iinc (v := nI (v + 1)) dX12_chooses_16 rfl (ni_i1 v) (by decide) rfl rfl ?_
        refine wa_goto (tgt := 2) dX12_chooses_19 (by decide) ?_
        refine ih (sum + 1 - (v + 1)) (by omega) (v + 1) _ rfl (by omega) (by omega) (lsk_L hlk _ _ _) (fun u h1 h2 => ?_)
        by_cases e : u = v
        · subst e; exact mL_eq _ _ _ _
        · rw [mL_ne _ _ _ _ _ e]; exact hm u h1 (by omega)
  refine wa_iconst (v := 1) dX12_chooses_0 (by decide) ?_
  refine wa_istore_n dX12_chooses_1 (by decide) rfl rfl ?_
  exact init sum 1 M (by omega) (Nat.le_refl _) (by omega) (lsk_rf M) (fun u h1 h2 => absurd h2 (by omega))
