/-! the reference's tariffs -/
def md_tst (M : mm_M) (y k : Nat) (v s p a : Int32) : Bool := if mm_I M (y + 9) k = 60 then decide (vo_ (mm_I M (y + 8) k) v s p a < mm_I M (y + 10) k) else if mm_I M (y + 9) k = 62 then decide (mm_I M (y + 10) k < vo_ (mm_I M (y + 8) k) v s p a) else decide (vo_ (mm_I M (y + 8) k) v s p a = mm_I M (y + 10) k)
def md_hn (M : mm_M) (y l : Nat) (w v s p a : Int32) : Nat → Bool
  | 0 => decide (mm_I M (y + 5) l = w)
  | k + 1 => md_hn M y l w v s p a k && md_tst M y (4 * l + k) v s p a
def md_tt (M : mm_M) (y l : Nat) (v s p a : Int32) : Nat → Int32
  | 0 => 0
  | k + 1 => md_tt M y l v s p a k + mm_I M (y + 12) (4 * l + k) * vo_ (mm_I M (y + 11) (4 * l + k)) v s p a / mm_I M (y + 13) (4 * l + k)
theorem mm_b_t {b : Bool} (h : ¬ mm_b b = 0) : b = true := by cases b <;> simp_all [mm_b]
theorem mm_b_f {b : Bool} (h : mm_b b = 0) : b = false := mm_b0.mp h
theorem hn_1 {M : mm_M} {y l k : Nat} {w v s p a : Int32} (h1 : md_hn M y l w v s p a k = true) (h2 : md_tst M y (4 * l + k) v s p a = true) : (1 : Int32) = mm_b (md_hn M y l w v s p a (k + 1)) := by simp [md_hn, h1, h2, mm_b]
theorem hn_0 {M : mm_M} {y l k : Nat} {w v s p a : Int32} (h : md_hn M y l w v s p a k = false ∨ md_tst M y (4 * l + k) v s p a = false) : (0 : Int32) = mm_b (md_hn M y l w v s p a (k + 1)) := by rcases h with h | h <;> simp [md_hn, h, mm_b]
theorem ix_12 (p t : Nat) : (12 : Int32) * nI p + nI t = nI (12 * p + t) := ni_lin 12 p t
theorem ix_4 (p t : Nat) : (4 : Int32) * nI p + nI t = nI (4 * p + t) := ni_lin 4 p t
theorem ix_4m (p : Nat) : (4 : Int32) * nI p = nI (4 * p) := pk_mul 4 p
theorem ix_12m (p : Nat) : (12 : Int32) * nI p = nI (12 * p) := pk_mul 12 p
/-- a tariff's rows as they must be: how many lines, tests and terms; no divisor 0 -/
def md_TF (M : mm_M) (y t : Nat) (ln : Nat) (tn tm : Nat → Nat) : Prop := mm_I M (y + 4) t = nI ln ∧ ln ≤ 12 ∧ ∀ l, l < ln → mm_I M (y + 6) (12 * t + l) = nI (tn (12 * t + l)) ∧ tn (12 * t + l) ≤ 4 ∧ mm_I M (y + 7) (12 * t + l) = nI (tm (12 * t + l)) ∧ tm (12 * t + l) ≤ 4 ∧ ∀ k, k < tm (12 * t + l) → ¬ mm_I M (y + 13) (4 * (12 * t + l) + k) = 0

theorem k_X12_feeOf {G : mm_G} {d : Nat} {Q : Option Value → mm_M → Prop} {M : mm_M} {y : Nat} (t ln : Nat) (tn tm : Nat → Nat) (w v s p a : Int32) (hY : mdl_ M y) (ht : t < 30) (hF : md_TF M y t ln tn tm) (h0 : (∀ j, 12 * t ≤ j → j < 12 * t + ln → md_hn M y j w v s p a (tn j) = false) → Q (some (.int (-1))) M) (h1 : ∀ l, 12 * t ≤ l → l < 12 * t + ln → (∀ j, 12 * t ≤ j → j < l → md_hn M y j w v s p a (tn j) = false) → md_hn M y l w v s p a (tn l) = true → Q (some (.int (if 5000 < md_tt M y l v s p a (tm l) then 5000 else md_tt M y l v s p a (tm l)))) M) : ma_ G jX12_feeOf (d + 1) 0 0 [.ref y, .int (nI t), .int w, .int v, .int s, .int p, .int a] M Q := by
  refine ma_of [some (.ref y), some (.int (nI t)), some (.int w), some (.int v), some (.int s), some (.int p), some (.int a), none, none, none, none] (by decide) rfl (Nat.le_of_ble_eq_true rfl) ?_
  have hln : ln ≤ 12 := hF.2.1
  have lpC : ∀ (l : Nat), 12 * t ≤ l → l < 12 * t + ln → (∀ j, 12 * t ≤ j → j < l → md_hn M y j w v s p a (tn j) = false) → md_hn M y l w v s p a (tn l) = true → ∀ (r k : Nat), tm l - k = r → k ≤ tm l → wa_ 0 G jX12_feeOf (d + 1) 0 0 Q 0 0 M 183 [some (.ref y), some (.int (nI t)), some (.int w), some (.int v), some (.int s), some (.int p), some (.int a), some (.int (nI l)), some (.int 1), some (.int (md_tt M y l v s p a k)), some (.int (nI (4 * l + k)))] [] := by
    intro l hl1 hl2 hno hyes r
    obtain ⟨e1, e2, e3, e4, e5⟩ := hF.2.2 (l - 12 * t) (by omega)
    rw [show 12 * t + (l - 12 * t) = l from by omega] at e1 e2 e3 e4 e5
    induction r with
    | zero =>
      intro k hr hk
      have hkT : k = tm l := by omega
      refine wa_iload dX12_feeOf_183 rfl ?_
      refine wa_iconst (v := 4) dX12_feeOf_185 (by decide) ?_
      refine wa_iload dX12_feeOf_186 rfl ?_
      refine wa_imul dX12_feeOf_188 ?_
      refine wa_aload_n dX12_feeOf_189 rfl rfl ?_
      refine wa_getR (q := (RX12, TX12, 50)) (ci := 12) (k := 19) dX12_feeOf_190 rfl (by decide) wf_X12_37 hY.1 rfl (md_r19 hY) ?_
      refine wa_iload dX12_feeOf_193 rfl ?_
      refine wa_ialdN dX12_feeOf_195 (md_s19 hY) (Or.inl rfl) (by omega) (by decide) ?_
      rw [e3]
      refine wa_iadd dX12_feeOf_196 ?_
      rw [ix_4]
      refine wa_icmp_ge (tgt := 244) dX12_feeOf_197 (by decide) (fun hT197 => ?_) (fun hF197 => absurd (nI_le (by omega) (by omega)) hF197)
      refine wa_iload dX12_feeOf_244 rfl ?_
      refine wa_sipush (v := 5000) dX12_feeOf_246 (by decide) ?_
      refine wa_mmin dX12_feeOf_249 lk_X12_223 (Nat.le_of_ble_eq_true rfl) ?_
      exact wa_iret dX12_feeOf_252 rfl (by rw [hkT]; exact h1 l hl1 hl2 hno hyes)
    | succ r ih =>
      intro k hr hk
      refine wa_iload dX12_feeOf_183 rfl ?_
      refine wa_iconst (v := 4) dX12_feeOf_185 (by decide) ?_
      refine wa_iload dX12_feeOf_186 rfl ?_
      refine wa_imul dX12_feeOf_188 ?_
      refine wa_aload_n dX12_feeOf_189 rfl rfl ?_
      refine wa_getR (q := (RX12, TX12, 50)) (ci := 12) (k := 19) dX12_feeOf_190 rfl (by decide) wf_X12_37 hY.1 rfl (md_r19 hY) ?_
      refine wa_iload dX12_feeOf_193 rfl ?_
      refine wa_ialdN dX12_feeOf_195 (md_s19 hY) (Or.inl rfl) (by omega) (by decide) ?_
      rw [e3]
      refine wa_iadd dX12_feeOf_196 ?_
      rw [ix_4]
      refine wa_icmp_ge (tgt := 244) dX12_feeOf_197 (by decide) (fun hT197 => absurd hT197 (nI_ge (by omega) (by omega))) (fun hF197 => ?_)
      refine wa_iload dX12_feeOf_200 rfl ?_
      refine wa_aload_n dX12_feeOf_202 rfl rfl ?_
      refine wa_getR (q := (RX12, TX12, 50)) (ci := 12) (k := 24) dX12_feeOf_203 rfl (by decide) wf_X12_52 hY.1 rfl (md_r24 hY) ?_
      refine wa_iload dX12_feeOf_206 rfl ?_
      refine wa_ialdN dX12_feeOf_208 (md_s24 hY) (Or.inl rfl) (by omega) (by decide) ?_
      refine wa_aload_n dX12_feeOf_209 rfl rfl ?_
      refine wa_getR (q := (RX12, TX12, 50)) (ci := 12) (k := 23) dX12_feeOf_210 rfl (by decide) wf_X12_49 hY.1 rfl (md_r23 hY) ?_
      refine wa_iload dX12_feeOf_213 rfl ?_
      refine wa_ialdN dX12_feeOf_215 (md_s23 hY) (Or.inl rfl) (by omega) (by decide) ?_
      refine wa_iload_n dX12_feeOf_216 rfl ?_
      refine wa_iload dX12_feeOf_217 rfl ?_
      refine wa_iload dX12_feeOf_219 rfl ?_
      refine wa_iload dX12_feeOf_221 rfl ?_
      refine wa_callS (As := [.int (mm_I M (y + 11) (4 * l + k)), .int v, .int s, .int p, .int a]) dX12_feeOf_223 lk_X12_219 rfl rfl (Nat.le_of_ble_eq_true rfl) (Nat.le_of_eq (Nat.zero_add _)) (Nat.le_of_eq (Nat.zero_add _)) (k_X12_valueOf _ _ _ _ _ ?_)
      refine wa_imul dX12_feeOf_226 ?_
      refine wa_aload_n dX12_feeOf_227 rfl rfl ?_
      refine wa_getR (q := (RX12, TX12, 50)) (ci := 12) (k := 25) dX12_feeOf_228 rfl (by decide) wf_X12_55 hY.1 rfl (md_r25 hY) ?_
      refine wa_iload dX12_feeOf_231 rfl ?_
      refine wa_ialdN dX12_feeOf_233 (md_s25 hY) (Or.inl rfl) (by omega) (by decide) ?_
      refine wa_idiv dX12_feeOf_234 (e5 k (by omega)) ?_
      refine wa_iadd dX12_feeOf_235 ?_
      refine wa_istore dX12_feeOf_236 (by decide) rfl rfl ?_
      refine wa_iinc (v := nI (4 * l + (k + 1))) dX12_feeOf_238 rfl (ni_i1 _) (by decide) rfl rfl ?_
      refine wa_goto (tgt := 183) dX12_feeOf_241 (by decide) ?_
      exact ih (k + 1) (by omega) (by omega)
  have lpB : ∀ (l : Nat), 12 * t ≤ l → l < 12 * t + ln → (∀ j, 12 * t ≤ j → j < l → md_hn M y j w v s p a (tn j) = false) → (md_hn M y l w v s p a (tn l) = false → wa_ 0 G jX12_feeOf (d + 1) 0 0 Q 0 0 M 6 [some (.ref y), some (.int (nI t)), some (.int w), some (.int v), some (.int s), some (.int p), some (.int a), some (.int (nI (l + 1))), none, none, none] []) → ∀ (r k : Nat), tn l - k = r → k ≤ tn l → wa_ 0 G jX12_feeOf (d + 1) 0 0 Q 0 0 M 46 [some (.ref y), some (.int (nI t)), some (.int w), some (.int v), some (.int s), some (.int p), some (.int a), some (.int (nI l)), some (.int (mm_b (md_hn M y l w v s p a k))), some (.int (nI (4 * l + k))), none] [] := by
    intro l hl1 hl2 hno hnext r
    obtain ⟨e1, e2, e3, e4, e5⟩ := hF.2.2 (l - 12 * t) (by omega)
    rw [show 12 * t + (l - 12 * t) = l from by omega] at e1 e2 e3 e4 e5
    induction r with
    | zero =>
      intro k hr hk
      have hkT : k = tn l := by omega
      subst hkT
      refine wa_iload dX12_feeOf_46 rfl ?_
      refine wa_iconst (v := 4) dX12_feeOf_48 (by decide) ?_
      refine wa_iload dX12_feeOf_49 rfl ?_
      refine wa_imul dX12_feeOf_51 ?_
      refine wa_aload_n dX12_feeOf_52 rfl rfl ?_
      refine wa_getR (q := (RX12, TX12, 50)) (ci := 12) (k := 18) dX12_feeOf_53 rfl (by decide) wf_X12_34 hY.1 rfl (md_r18 hY) ?_
      refine wa_iload dX12_feeOf_56 rfl ?_
      refine wa_ialdN dX12_feeOf_58 (md_s18 hY) (Or.inl rfl) (by omega) (by decide) ?_
      rw [e1]
      refine wa_iadd dX12_feeOf_59 ?_
      rw [ix_4]
      refine wa_icmp_ge (tgt := 166) dX12_feeOf_60 (by decide) (fun hT60 => ?_) (fun hF60 => absurd (nI_le (Nat.le_refl _) (by omega)) hF60)
      refine wa_iload dX12_feeOf_166 rfl ?_
      refine wa_if_ne (tgt := 174) dX12_feeOf_168 (by decide) (fun hT168 => ?_) (fun hF168 => ?_)
      · refine wa_iconst (v := 0) dX12_feeOf_174 (by decide) ?_
        refine wa_istore dX12_feeOf_175 (by decide) rfl rfl ?_
        refine wa_iconst (v := 4) dX12_feeOf_177 (by decide) ?_
        refine wa_iload dX12_feeOf_178 rfl ?_
        refine wa_imul dX12_feeOf_180 ?_
        rw [ix_4m]
        refine wa_istore dX12_feeOf_181 (by decide) rfl rfl ?_
        have h9 := mm_b_t hT168
        rw [show mm_b (md_hn M y l w v s p a (tn l)) = 1 from by rw [h9]; rfl]
        exact lpC l hl1 hl2 hno h9 (tm l) 0 (by omega) (by omega)
      · refine wa_goto (tgt := 253) dX12_feeOf_171 (by decide) ?_
        refine wa_iinc (v := nI (l + 1)) dX12_feeOf_253 rfl (ni_i1 l) (by decide) rfl rfl ?_
        refine wa_goto (tgt := 6) dX12_feeOf_256 (by decide) ?_
        refine wa_set0 9 ?_
        refine wa_set0 8 ?_
        exact hnext (mm_b_f hF168)
    | succ r ih =>
      intro k hr hk
      have key9 : ∀ b : Int32, b = mm_b (md_hn M y l w v s p a (k + 1)) → wa_ 0 G jX12_feeOf (d + 1) 0 0 Q 0 0 M 46 [some (.ref y), some (.int (nI t)), some (.int w), some (.int v), some (.int s), some (.int p), some (.int a), some (.int (nI l)), some (.int b), some (.int (nI (4 * l + (k + 1)))), none] [] := fun b hb => by rw [hb]; exact ih (k + 1) (by omega) (by omega)
      refine wa_iload dX12_feeOf_46 rfl ?_
      refine wa_iconst (v := 4) dX12_feeOf_48 (by decide) ?_
      refine wa_iload dX12_feeOf_49 rfl ?_
      refine wa_imul dX12_feeOf_51 ?_
      refine wa_aload_n dX12_feeOf_52 rfl rfl ?_
      refine wa_getR (q := (RX12, TX12, 50)) (ci := 12) (k := 18) dX12_feeOf_53 rfl (by decide) wf_X12_34 hY.1 rfl (md_r18 hY) ?_
      refine wa_iload dX12_feeOf_56 rfl ?_
      refine wa_ialdN dX12_feeOf_58 (md_s18 hY) (Or.inl rfl) (by omega) (by decide) ?_
      rw [e1]
      refine wa_iadd dX12_feeOf_59 ?_
      rw [ix_4]
      refine wa_icmp_ge (tgt := 166) dX12_feeOf_60 (by decide) (fun hT60 => absurd hT60 (nI_ge (by omega) (by omega))) (fun hF60 => ?_)
      refine wa_aload_n dX12_feeOf_63 rfl rfl ?_
      refine wa_getR (q := (RX12, TX12, 50)) (ci := 12) (k := 20) dX12_feeOf_64 rfl (by decide) wf_X12_40 hY.1 rfl (md_r20 hY) ?_
      refine wa_iload dX12_feeOf_67 rfl ?_
      refine wa_ialdN dX12_feeOf_69 (md_s20 hY) (Or.inl rfl) (by omega) (by decide) ?_
      refine wa_iload_n dX12_feeOf_70 rfl ?_
      refine wa_iload dX12_feeOf_71 rfl ?_
      refine wa_iload dX12_feeOf_73 rfl ?_
      refine wa_iload dX12_feeOf_75 rfl ?_
      refine wa_callS (As := [.int (mm_I M (y + 8) (4 * l + k)), .int v, .int s, .int p, .int a]) dX12_feeOf_77 lk_X12_219 rfl rfl (Nat.le_of_ble_eq_true rfl) (Nat.le_of_eq (Nat.zero_add _)) (Nat.le_of_eq (Nat.zero_add _)) (k_X12_valueOf _ _ _ _ _ ?_)
      refine wa_istore dX12_feeOf_80 (by decide) rfl rfl ?_
      refine wa_iload dX12_feeOf_82 rfl ?_
      refine wa_if_eq (tgt := 157) dX12_feeOf_84 (by decide) (fun hT84 => ?_) (fun hF84 => ?_)
      · refine wa_iconst (v := 0) dX12_feeOf_157 (by decide) ?_
        refine wa_istore dX12_feeOf_158 (by decide) rfl rfl ?_
        refine wa_iinc (v := nI (4 * l + (k + 1))) dX12_feeOf_160 rfl (ni_i1 _) (by decide) rfl rfl ?_
        refine wa_goto (tgt := 46) dX12_feeOf_163 (by decide) ?_
        refine wa_set0 10 ?_
        exact key9 0 (hn_0 (by first | exact Or.inl (mm_b_f (by assumption)) | exact Or.inr (by unfold md_tst; first | (rw [if_pos (by assumption)]; exact decide_eq_false (Int32.not_lt.mpr (by assumption))) | (rw [if_neg (by assumption), if_pos (by assumption)]; exact decide_eq_false (Int32.not_lt.mpr (by assumption))) | (rw [if_neg (by assumption), if_neg (by assumption)]; exact decide_eq_false (by assumption)))))
      · refine wa_aload_n dX12_feeOf_87 rfl rfl ?_
        refine wa_getR (q := (RX12, TX12, 50)) (ci := 12) (k := 21) dX12_feeOf_88 rfl (by decide) wf_X12_43 hY.1 rfl (md_r21 hY) ?_
        refine wa_iload dX12_feeOf_91 rfl ?_
        refine wa_ialdN dX12_feeOf_93 (md_s21 hY) (Or.inl rfl) (by omega) (by decide) ?_
        refine wa_bipush (v := 60) dX12_feeOf_94 (by decide) ?_
        refine wa_icmp_ne (tgt := 114) dX12_feeOf_96 (by decide) (fun hT96 => ?_) (fun hF96 => ?_)
        · refine wa_aload_n dX12_feeOf_114 rfl rfl ?_
          refine wa_getR (q := (RX12, TX12, 50)) (ci := 12) (k := 21) dX12_feeOf_115 rfl (by decide) wf_X12_43 hY.1 rfl (md_r21 hY) ?_
          refine wa_iload dX12_feeOf_118 rfl ?_
          refine wa_ialdN dX12_feeOf_120 (md_s21 hY) (Or.inl rfl) (by omega) (by decide) ?_
          refine wa_bipush (v := 62) dX12_feeOf_121 (by decide) ?_
          refine wa_icmp_ne (tgt := 141) dX12_feeOf_123 (by decide) (fun hT123 => ?_) (fun hF123 => ?_)
          · refine wa_iload dX12_feeOf_141 rfl ?_
            refine wa_aload_n dX12_feeOf_143 rfl rfl ?_
            refine wa_getR (q := (RX12, TX12, 50)) (ci := 12) (k := 22) dX12_feeOf_144 rfl (by decide) wf_X12_46 hY.1 rfl (md_r22 hY) ?_
            refine wa_iload dX12_feeOf_147 rfl ?_
            refine wa_ialdN dX12_feeOf_149 (md_s22 hY) (Or.inl rfl) (by omega) (by decide) ?_
            refine wa_icmp_ne (tgt := 157) dX12_feeOf_150 (by decide) (fun hT150 => ?_) (fun hF150 => ?_)
            · refine wa_iconst (v := 0) dX12_feeOf_157 (by decide) ?_
              refine wa_istore dX12_feeOf_158 (by decide) rfl rfl ?_
              refine wa_iinc (v := nI (4 * l + (k + 1))) dX12_feeOf_160 rfl (ni_i1 _) (by decide) rfl rfl ?_
              refine wa_goto (tgt := 46) dX12_feeOf_163 (by decide) ?_
              refine wa_set0 10 ?_
              exact key9 0 (hn_0 (by first | exact Or.inl (mm_b_f (by assumption)) | exact Or.inr (by unfold md_tst; first | (rw [if_pos (by assumption)]; exact decide_eq_false (Int32.not_lt.mpr (by assumption))) | (rw [if_neg (by assumption), if_pos (by assumption)]; exact decide_eq_false (Int32.not_lt.mpr (by assumption))) | (rw [if_neg (by assumption), if_neg (by assumption)]; exact decide_eq_false (by assumption)))))
            · refine wa_iconst (v := 1) dX12_feeOf_153 (by decide) ?_
              refine wa_goto (tgt := 158) dX12_feeOf_154 (by decide) ?_
              refine wa_istore dX12_feeOf_158 (by decide) rfl rfl ?_
              refine wa_iinc (v := nI (4 * l + (k + 1))) dX12_feeOf_160 rfl (ni_i1 _) (by decide) rfl rfl ?_
              refine wa_goto (tgt := 46) dX12_feeOf_163 (by decide) ?_
              refine wa_set0 10 ?_
              exact key9 1 (hn_1 (mm_b_t hF84) (by unfold md_tst; first | (rw [if_pos (by assumption)]; exact decide_eq_true (Int32.not_le.mp (by assumption))) | (rw [if_neg (by assumption), if_pos (by assumption)]; exact decide_eq_true (Int32.not_le.mp (by assumption))) | (rw [if_neg (by assumption), if_neg (by assumption)]; exact decide_eq_true (by assumption))))
          · refine wa_iload dX12_feeOf_126 rfl ?_
            refine wa_aload_n dX12_feeOf_128 rfl rfl ?_
            refine wa_getR (q := (RX12, TX12, 50)) (ci := 12) (k := 22) dX12_feeOf_129 rfl (by decide) wf_X12_46 hY.1 rfl (md_r22 hY) ?_
            refine wa_iload dX12_feeOf_132 rfl ?_
            refine wa_ialdN dX12_feeOf_134 (md_s22 hY) (Or.inl rfl) (by omega) (by decide) ?_
            refine wa_icmp_le (tgt := 157) dX12_feeOf_135 (by decide) (fun hT135 => ?_) (fun hF135 => ?_)
            · refine wa_iconst (v := 0) dX12_feeOf_157 (by decide) ?_
              refine wa_istore dX12_feeOf_158 (by decide) rfl rfl ?_
              refine wa_iinc (v := nI (4 * l + (k + 1))) dX12_feeOf_160 rfl (ni_i1 _) (by decide) rfl rfl ?_
              refine wa_goto (tgt := 46) dX12_feeOf_163 (by decide) ?_
              refine wa_set0 10 ?_
              exact key9 0 (hn_0 (by first | exact Or.inl (mm_b_f (by assumption)) | exact Or.inr (by unfold md_tst; first | (rw [if_pos (by assumption)]; exact decide_eq_false (Int32.not_lt.mpr (by assumption))) | (rw [if_neg (by assumption), if_pos (by assumption)]; exact decide_eq_false (Int32.not_lt.mpr (by assumption))) | (rw [if_neg (by assumption), if_neg (by assumption)]; exact decide_eq_false (by assumption)))))
            · refine wa_goto (tgt := 153) dX12_feeOf_138 (by decide) ?_
              refine wa_iconst (v := 1) dX12_feeOf_153 (by decide) ?_
              refine wa_goto (tgt := 158) dX12_feeOf_154 (by decide) ?_
              refine wa_istore dX12_feeOf_158 (by decide) rfl rfl ?_
              refine wa_iinc (v := nI (4 * l + (k + 1))) dX12_feeOf_160 rfl (ni_i1 _) (by decide) rfl rfl ?_
              refine wa_goto (tgt := 46) dX12_feeOf_163 (by decide) ?_
              refine wa_set0 10 ?_
              exact key9 1 (hn_1 (mm_b_t hF84) (by unfold md_tst; first | (rw [if_pos (by assumption)]; exact decide_eq_true (Int32.not_le.mp (by assumption))) | (rw [if_neg (by assumption), if_pos (by assumption)]; exact decide_eq_true (Int32.not_le.mp (by assumption))) | (rw [if_neg (by assumption), if_neg (by assumption)]; exact decide_eq_true (by assumption))))
        · refine wa_iload dX12_feeOf_99 rfl ?_
          refine wa_aload_n dX12_feeOf_101 rfl rfl ?_
          refine wa_getR (q := (RX12, TX12, 50)) (ci := 12) (k := 22) dX12_feeOf_102 rfl (by decide) wf_X12_46 hY.1 rfl (md_r22 hY) ?_
          refine wa_iload dX12_feeOf_105 rfl ?_
          refine wa_ialdN dX12_feeOf_107 (md_s22 hY) (Or.inl rfl) (by omega) (by decide) ?_
          refine wa_icmp_ge (tgt := 157) dX12_feeOf_108 (by decide) (fun hT108 => ?_) (fun hF108 => ?_)
          · refine wa_iconst (v := 0) dX12_feeOf_157 (by decide) ?_
            refine wa_istore dX12_feeOf_158 (by decide) rfl rfl ?_
            refine wa_iinc (v := nI (4 * l + (k + 1))) dX12_feeOf_160 rfl (ni_i1 _) (by decide) rfl rfl ?_
            refine wa_goto (tgt := 46) dX12_feeOf_163 (by decide) ?_
            refine wa_set0 10 ?_
            exact key9 0 (hn_0 (by first | exact Or.inl (mm_b_f (by assumption)) | exact Or.inr (by unfold md_tst; first | (rw [if_pos (by assumption)]; exact decide_eq_false (Int32.not_lt.mpr (by assumption))) | (rw [if_neg (by assumption), if_pos (by assumption)]; exact decide_eq_false (Int32.not_lt.mpr (by assumption))) | (rw [if_neg (by assumption), if_neg (by assumption)]; exact decide_eq_false (by assumption)))))
          · refine wa_goto (tgt := 153) dX12_feeOf_111 (by decide) ?_
            refine wa_iconst (v := 1) dX12_feeOf_153 (by decide) ?_
            refine wa_goto (tgt := 158) dX12_feeOf_154 (by decide) ?_
            refine wa_istore dX12_feeOf_158 (by decide) rfl rfl ?_
            refine wa_iinc (v := nI (4 * l + (k + 1))) dX12_feeOf_160 rfl (ni_i1 _) (by decide) rfl rfl ?_
            refine wa_goto (tgt := 46) dX12_feeOf_163 (by decide) ?_
            refine wa_set0 10 ?_
            exact key9 1 (hn_1 (mm_b_t hF84) (by unfold md_tst; first | (rw [if_pos (by assumption)]; exact decide_eq_true (Int32.not_le.mp (by assumption))) | (rw [if_neg (by assumption), if_pos (by assumption)]; exact decide_eq_true (Int32.not_le.mp (by assumption))) | (rw [if_neg (by assumption), if_neg (by assumption)]; exact decide_eq_true (by assumption))))
  have lpA : ∀ (r l : Nat), 12 * t + ln - l = r → 12 * t ≤ l → l ≤ 12 * t + ln → (∀ j, 12 * t ≤ j → j < l → md_hn M y j w v s p a (tn j) = false) → wa_ 0 G jX12_feeOf (d + 1) 0 0 Q 0 0 M 6 [some (.ref y), some (.int (nI t)), some (.int w), some (.int v), some (.int s), some (.int p), some (.int a), some (.int (nI l)), none, none, none] [] := by
    intro r
    induction r with
    | zero =>
      intro l hr hl1 hl2 hno
      have hlT : l = 12 * t + ln := by omega
      subst hlT
      refine wa_iload dX12_feeOf_6 rfl ?_
      refine wa_bipush (v := 12) dX12_feeOf_8 (by decide) ?_
      refine wa_iload_n dX12_feeOf_10 rfl ?_
      refine wa_imul dX12_feeOf_11 ?_
      refine wa_aload_n dX12_feeOf_12 rfl rfl ?_
      refine wa_getR (q := (RX12, TX12, 50)) (ci := 12) (k := 16) dX12_feeOf_13 rfl (by decide) wf_X12_28 hY.1 rfl (md_r16 hY) ?_
      refine wa_iload_n dX12_feeOf_16 rfl ?_
      refine wa_ialdN dX12_feeOf_17 (md_s16 hY) (Or.inl rfl) (by omega) (by decide) ?_
      rw [hF.1]
      refine wa_iadd dX12_feeOf_18 ?_
      rw [ix_12]
      refine wa_icmp_ge (tgt := 259) dX12_feeOf_19 (by decide) (fun hT19 => ?_) (fun hF19 => absurd (nI_le (Nat.le_refl _) (by omega)) hF19)
      refine wa_iconst (v := -1) dX12_feeOf_259 (by decide) ?_
      exact wa_iret dX12_feeOf_260 rfl (h0 hno)
    | succ r ih =>
      intro l hr hl1 hl2 hno
      have hB := lpB l hl1 (by omega) hno (fun hfa => ih (l + 1) (by omega) (by omega) (by omega) (fun j h5 h6 => by
        by_cases hjl : j = l
        · rw [hjl]; exact hfa
        · exact hno j h5 (by omega))) (tn l) 0 (by omega) (by omega)
      have key9 : ∀ b : Int32, b = mm_b (md_hn M y l w v s p a 0) → wa_ 0 G jX12_feeOf (d + 1) 0 0 Q 0 0 M 46 [some (.ref y), some (.int (nI t)), some (.int w), some (.int v), some (.int s), some (.int p), some (.int a), some (.int (nI l)), some (.int b), some (.int (nI (4 * l + 0))), none] [] := fun b hb => by rw [hb]; exact hB
      refine wa_iload dX12_feeOf_6 rfl ?_
      refine wa_bipush (v := 12) dX12_feeOf_8 (by decide) ?_
      refine wa_iload_n dX12_feeOf_10 rfl ?_
      refine wa_imul dX12_feeOf_11 ?_
      refine wa_aload_n dX12_feeOf_12 rfl rfl ?_
      refine wa_getR (q := (RX12, TX12, 50)) (ci := 12) (k := 16) dX12_feeOf_13 rfl (by decide) wf_X12_28 hY.1 rfl (md_r16 hY) ?_
      refine wa_iload_n dX12_feeOf_16 rfl ?_
      refine wa_ialdN dX12_feeOf_17 (md_s16 hY) (Or.inl rfl) (by omega) (by decide) ?_
      rw [hF.1]
      refine wa_iadd dX12_feeOf_18 ?_
      rw [ix_12]
      refine wa_icmp_ge (tgt := 259) dX12_feeOf_19 (by decide) (fun hT19 => absurd hT19 (nI_ge (by omega) (by omega))) (fun hF19 => ?_)
      refine wa_aload_n dX12_feeOf_22 rfl rfl ?_
      refine wa_getR (q := (RX12, TX12, 50)) (ci := 12) (k := 17) dX12_feeOf_23 rfl (by decide) wf_X12_31 hY.1 rfl (md_r17 hY) ?_
      refine wa_iload dX12_feeOf_26 rfl ?_
      refine wa_ialdN dX12_feeOf_28 (md_s17 hY) (Or.inl rfl) (by omega) (by decide) ?_
      refine wa_iload_n dX12_feeOf_29 rfl ?_
      refine wa_icmp_ne (tgt := 37) dX12_feeOf_30 (by decide) (fun hT30 => ?_) (fun hF30 => ?_)
      · refine wa_iconst (v := 0) dX12_feeOf_37 (by decide) ?_
        refine wa_istore dX12_feeOf_38 (by decide) rfl rfl ?_
        refine wa_iconst (v := 4) dX12_feeOf_40 (by decide) ?_
        refine wa_iload dX12_feeOf_41 rfl ?_
        refine wa_imul dX12_feeOf_43 ?_
        rw [ix_4m]
        refine wa_istore dX12_feeOf_44 (by decide) rfl rfl ?_
        exact key9 0 (by simp only [md_hn]; rw [decide_eq_false hT30]; rfl)
      · refine wa_iconst (v := 1) dX12_feeOf_33 (by decide) ?_
        refine wa_goto (tgt := 38) dX12_feeOf_34 (by decide) ?_
        refine wa_istore dX12_feeOf_38 (by decide) rfl rfl ?_
        refine wa_iconst (v := 4) dX12_feeOf_40 (by decide) ?_
        refine wa_iload dX12_feeOf_41 rfl ?_
        refine wa_imul dX12_feeOf_43 ?_
        rw [ix_4m]
        refine wa_istore dX12_feeOf_44 (by decide) rfl rfl ?_
        exact key9 1 (by simp only [md_hn]; rw [decide_eq_true hF30]; rfl)
  refine wa_bipush (v := 12) dX12_feeOf_0 (by decide) ?_
  refine wa_iload_n dX12_feeOf_2 rfl ?_
  refine wa_imul dX12_feeOf_3 ?_
  rw [ix_12m]
  refine wa_istore dX12_feeOf_4 (by decide) rfl rfl ?_
  exact lpA ln (12 * t) (by omega) (by omega) (by omega) (fun j h5 h6 => absurd h6 (by omega))
