/-! the reference seals a paper -/
def sea1_ (M : mm_M) (y N q : Nat) (k v s : Int32) (fee t : Nat) : mm_M := mm_sI (mm_sI (mm_sI (mm_sI (mm_sI (mm_sI (mm_sI (mm_sI (mm_sI (mm_sI (mm_sI M y 38 (nI (N + 1))) (y + 24) N (nI q)) (y + 25) N k) (y + 26) N v) (y + 27) N s) (y + 28) N (mm_I M y 27)) (y + 29) N (nI fee)) (y + 30) N (nI t)) (y + 31) N (mm_I M (y + 17) q)) (y + 17) q (mm_I M (y + 17) q + 1)) (y + 16) q (mm_I M (y + 16) q + nI fee)
theorem sea1_I (M : mm_M) (y N q : Nat) (k v s : Int32) (fee t a j : Nat) : mm_I (sea1_ M y N q k v s fee t) a j = if a = y + 16 ∧ j = q then mm_I M (y + 16) q + nI fee else if a = y + 17 ∧ j = q then mm_I M (y + 17) q + 1 else if a = y + 31 ∧ j = N then mm_I M (y + 17) q else if a = y + 30 ∧ j = N then nI t else if a = y + 29 ∧ j = N then nI fee else if a = y + 28 ∧ j = N then mm_I M y 27 else if a = y + 27 ∧ j = N then s else if a = y + 26 ∧ j = N then v else if a = y + 25 ∧ j = N then k else if a = y + 24 ∧ j = N then nI q else if a = y ∧ j = 38 then nI (N + 1) else mm_I M a j := by
  unfold sea1_
  simp only [mm_I_sI]
def sea5_ (M : mm_M) (y N q : Nat) (n : Nat → Nat) : Nat → mm_M
  | 0 => M
  | i + 1 => mm_sI (mm_sI (sea5_ M y N q n i) (y + 32) (5 * N + i) (nI (n i))) (y + 19) (5 * q + i) (mm_I (sea5_ M y N q n i) (y + 19) (5 * q + i) - nI (n i))
theorem sea5_sk (M : mm_M) (y N q : Nat) (n : Nat → Nat) (i : Nat) : md_sk M (sea5_ M y N q n i) := by
  induction i with
  | zero => exact md_sk_rf M
  | succ i ih => exact ih
theorem sea5_I (M : mm_M) (y N q : Nat) (n : Nat → Nat) (i a j : Nat) : mm_I (sea5_ M y N q n i) a j = if a = y + 19 ∧ 5 * q ≤ j ∧ j < 5 * q + i then mm_I M (y + 19) j - nI (n (j - 5 * q)) else if a = y + 32 ∧ 5 * N ≤ j ∧ j < 5 * N + i then nI (n (j - 5 * N)) else mm_I M a j := by
  induction i generalizing a j with
  | zero => rw [if_neg (by omega), if_neg (by omega)]; rfl
  | succ i ih =>
    show mm_I (mm_sI (mm_sI (sea5_ M y N q n i) (y + 32) (5 * N + i) (nI (n i))) (y + 19) (5 * q + i) (mm_I (sea5_ M y N q n i) (y + 19) (5 * q + i) - nI (n i))) a j = _
    have e1 := ih (y + 19) (5 * q + i)
    rw [if_neg (by omega), if_neg (by omega)] at e1
    rw [mm_I_sI, mm_I_sI, e1, ih]
    by_cases h1 : a = y + 19 ∧ j = 5 * q + i
    · rw [if_pos h1, if_pos ⟨h1.1, by omega, by omega⟩, h1.2, show 5 * q + i - 5 * q = i from by omega]
    · rw [if_neg h1]
      by_cases h2 : a = y + 32 ∧ j = 5 * N + i
      · rw [if_pos h2, if_neg (by omega), if_pos ⟨h2.1, by omega, by omega⟩, h2.2, show 5 * N + i - 5 * N = i from by omega]
      · rw [if_neg h2]
        by_cases h3 : a = y + 19 ∧ 5 * q ≤ j ∧ j < 5 * q + i
        · rw [if_pos h3, if_pos ⟨h3.1, h3.2.1, by omega⟩]
        · rw [if_neg h3, if_neg (show ¬ (a = y + 19 ∧ 5 * q ≤ j ∧ j < 5 * q + (i + 1)) from by omega)]
          by_cases h4 : a = y + 32 ∧ 5 * N ≤ j ∧ j < 5 * N + i
          · rw [if_pos h4, if_pos ⟨h4.1, h4.2.1, by omega⟩]
          · rw [if_neg h4, if_neg (by omega)]
theorem chf_mdl {M M' : mm_M} {y : Nat} (h : chf_ M M' y) (hY : mdl_ M y) : mdl_ M' y := by
  obtain ⟨M1, MI, ML, M2⟩ := M
  obtain ⟨N1, NI, NL, N2⟩ := M'
  obtain ⟨h1, h2, -⟩ := h
  cases h1
  cases h2
  exact hY
/-- the reference's memory behind a seal -/
def rse_ (M : mm_M) (y N q : Nat) (k v s : Int32) (fee t : Nat) (n : Nat → Nat) : mm_M := mm_sI (mm_sI (sea5_ (sea1_ M y N q k v s fee t) y N q n 5) y 1 0) y 2 (-1)

theorem k_X12_seal {G : mm_G} {d : Nat} {Q : Option Value → mm_M → Prop} {M : mm_M} {y : Nat} (p : Int32) (k : Int32) (v : Int32) (s : Int32) {M0 : mm_M} (hM0 : M0 = mm_sI M y 0 0) (hY : mdl_ M0 y) (P T N : Nat) (hP : mm_I M0 y 26 = nI P) (hP8 : P ≤ 8) (hT : mm_I M0 y 14 = nI T) (hT30 : T ≤ 30) (hN : mm_I M0 y 38 = nI N) (hN2 : N ≤ 200) (tl : Nat → List ps_L) (hTL : rTL_ M0 y T tl) (hv : vtl_ T tl) (st : Nat → Nat → Nat) (hst : ∀ q, q < P → ∀ i, i < 5 → mm_I M0 (y + 19) (5 * q + i) = nI (st q i)) (hstb : ∀ q i, st q i ≤ 10000) (v0 : Nat) (hG2 : G.2.2.2.1 2 = .ref v0) (hv0 : wtb_ M0 v0) (hsb : ∀ q, q < P → nb_ (mm_I M0 (y + 17) q) 0 9999)
    (h0 : p < 0 ∨ mm_I M0 y 26 ≤ p → Q (some (.int (-1))) (mm_sI (mm_sI M0 y 1 1) y 2 (-1))) (h2 : ∀ q, p = nI q → q < P → ¬ (0 ≤ k ∧ k ≤ 9 ∧ 0 ≤ v ∧ v ≤ 9999 ∧ 1 ≤ s ∧ s ≤ 99) → Q (some (.int (-1))) (mm_sI (mm_sI M0 y 1 2) y 2 (-1)))
    (h5 : ∀ q, p = nI q → q < P → 0 ≤ k → k ≤ 9 → 0 ≤ v → v ≤ 9999 → 1 ≤ s → s ≤ 99 → (0 < T → mm_I M0 y 27 < md_com M0 y (30 * q + 0)) → Q (some (.int (-1))) (mm_sI (mm_sI M0 y 1 5) y 2 (-1)))
    (h1 : ∀ q t, p = nI q → q < P → 0 ≤ k → k ≤ 9 → 0 ≤ v → v ≤ 9999 → 1 ≤ s → s ≤ 99 → t < T → (∀ j, j ≤ t → md_com M0 y (30 * q + j) ≤ mm_I M0 y 27) → (t + 1 < T → mm_I M0 y 27 < md_com M0 y (30 * q + (t + 1))) → ((fq_ (-1) k v s (nI q) (mm_I M0 (y + 17) q) (tl t)) = -1 → Q (some (.int (-1))) (mm_sI (mm_sI M0 y 1 5) y 2 (-1))) ∧
      (∀ fee, fee ≤ 5000 → (fq_ (-1) k v s (nI q) (mm_I M0 (y + 17) q) (tl t)) = nI fee → ((∀ n, ¬ fz_ (st q) fee n) → ∀ M' : mm_M, lsk_ M0 M' → Q (some (.int (-1))) (mm_sI (mm_sI M' y 1 6) y 2 (-1))) ∧
        ∀ n, opt_ (st q) fee n → (N = 200 → ∀ M' : mm_M, chf_ M0 M' y → Q (some (.int (-1))) (mm_sI (mm_sI M' y 1 3) y 2 (-1))) ∧
          (N < 200 → ∀ (M' : mm_M), chf_ M0 M' y → (∀ i, i < 5 → mm_I M' (y + 34) i = nI (n i)) → Q (some (.int (nI N))) (rse_ M' y N q k v s fee t n)))) : ma_ G jX12_seal (d + 3) 0 0 [.ref y, .int p, .int k, .int v, .int s] M Q := by
  refine ma_of [some (.ref y), some (.int p), some (.int k), some (.int v), some (.int s), none, none, none, none] (by decide) rfl (Nat.le_of_ble_eq_true rfl) ?_
  have hY0 : mdl_ M y := by subst hM0; exact hY
  refine wa_aload_n dX12_seal_0 rfl rfl ?_
  refine wa_iconst (v := 0) dX12_seal_1 (by decide) ?_
  refine wa_put (q := (RX12, TX12, 50)) (ci := 12) (k := 0) dX12_seal_2 rfl (by decide) wf_X12_123 rfl hY0.1 rfl ?_
  rw [show mm_put M y 0 (.int 0) = M0 from hM0.symm]
  have s115 : ∀ q t fee, q < P → t < T → N < 200 → ∀ (n : Nat → Nat) (M1 : mm_M), chf_ M0 M1 y → (∀ i, i < 5 → mm_I M1 (y + 34) i = nI (n i)) → Q (some (.int (nI N))) (rse_ M1 y N q k v s fee t n) → wa_ 0 G jX12_seal (d + 3) 0 0 Q 0 0 M1 115 [some (.ref y), some (.int (nI q)), some (.int k), some (.int v), some (.int s), some (.int (nI t)), some (.int (nI fee)), none, none] [] := by
    intro q t fee hq ht hN9 n M1 hc hin hQ
    have hY1 := chf_mdl hc hY
    have g38 : mm_I M1 y 38 = nI N := (hc.2.2 _ _ (by omega)).trans hN
    have loop : ∀ (r i : Nat), i + r = 5 → wa_ 0 G jX12_seal (d + 3) 0 0 Q 0 0 (sea5_ (sea1_ M1 y N q k v s fee t) y N q n i) 230 [some (.ref y), some (.int (nI q)), some (.int k), some (.int v), some (.int s), some (.int (nI t)), some (.int (nI fee)), some (.int (nI N)), some (.int (nI i))] [] := by
      intro r
      induction r with
      | zero =>
        intro i hi
        obtain rfl : i = 5 := by omega
        have hYA : mdl_ (sea5_ (sea1_ M1 y N q k v s fee t) y N q n 5) y := md_sk_mdl (sea5_sk _ _ _ _ _ _) hY1
        refine wa_iload dX12_seal_230 rfl ?_
        refine wa_iconst (v := 5) dX12_seal_232 (by decide) ?_
        refine wa_icmp_ge (tgt := 282) dX12_seal_233 (by decide) (fun hT233 => ?_) (fun hF233 => absurd (show (5 : Int32) ≤ nI 5 from by decide) hF233)
        refine wa_aload_n dX12_seal_282 rfl rfl ?_
        refine wa_iload dX12_seal_283 rfl ?_
        refine wa_callV  (q := (RX12, TX12, 50)) (As := [.int (nI N)]) dX12_seal_285 lk_X12_246 rfl rfl hYA.1 rfl rfl (Nat.le_of_ble_eq_true rfl) (Nat.le_of_eq (Nat.zero_add _)) (Nat.le_of_eq (Nat.zero_add _)) (k_X12_done (nI N) hYA ?_)
        exact wa_iret dX12_seal_288 rfl (hQ)
      | succ r ih =>
        intro i hi
        have hYA : mdl_ (sea5_ (sea1_ M1 y N q k v s fee t) y N q n i) y := md_sk_mdl (sea5_sk _ _ _ _ _ _) hY1
        have hch : mm_I (sea5_ (sea1_ M1 y N q k v s fee t) y N q n i) (y + 34) i = nI (n i) := by
          rw [sea5_I, if_neg (by omega), if_neg (by omega), sea1_I, if_neg (by omega), if_neg (by omega), if_neg (by omega), if_neg (by omega), if_neg (by omega), if_neg (by omega), if_neg (by omega), if_neg (by omega), if_neg (by omega), if_neg (by omega), if_neg (by omega)]
          exact hin i (by omega)
        refine wa_iload dX12_seal_230 rfl ?_
        refine wa_iconst (v := 5) dX12_seal_232 (by decide) ?_
        refine wa_icmp_ge (tgt := 282) dX12_seal_233 (by decide) (fun hT233 => absurd hT233 (nI_ge (b := 5) (by omega) (by decide))) (fun hF233 => ?_)
        refine wa_aload_n dX12_seal_236 rfl rfl ?_
        refine wa_getR (q := (RX12, TX12, 50)) (ci := 12) (k := 47) dX12_seal_237 rfl (by decide) wf_X12_113 hYA.1 rfl (md_r47 hYA) ?_
        refine wa_iconst (v := 5) dX12_seal_240 (by decide) ?_
        refine wa_iload dX12_seal_241 rfl ?_
        refine wa_imul dX12_seal_243 ?_
        refine wa_iload dX12_seal_244 rfl ?_
        refine wa_iadd dX12_seal_246 ?_
        rw [ix_5 N i]
        refine wa_aload_n dX12_seal_247 rfl rfl ?_
        refine wa_getR (q := (RX12, TX12, 50)) (ci := 12) (k := 49) dX12_seal_248 rfl (by decide) wf_X12_120 hYA.1 rfl (md_r49 hYA) ?_
        refine wa_iload dX12_seal_251 rfl ?_
        refine wa_ialdN dX12_seal_253 (md_s49 hYA) (Or.inl rfl) (by omega) (by decide) ?_
        rw [hch]
        refine wa_iastN dX12_seal_254 (md_s47 hYA) (by omega) (by decide) ?_
        refine wa_aload_n dX12_seal_255 rfl rfl ?_
        refine wa_getR (q := (RX12, TX12, 50)) (ci := 12) (k := 33) dX12_seal_256 rfl (by decide) wf_X12_73 hYA.1 rfl (md_r33 hYA) ?_
        refine wa_iconst (v := 5) dX12_seal_259 (by decide) ?_
        refine wa_iload_n dX12_seal_260 rfl ?_
        refine wa_imul dX12_seal_261 ?_
        refine wa_iload dX12_seal_262 rfl ?_
        refine wa_iadd dX12_seal_264 ?_
        rw [ix_5 q i]
        refine wa_dup2 dX12_seal_265 rfl rfl ?_
        refine wa_ialdN dX12_seal_266 (md_s33 hYA) (Or.inl rfl) (by omega) (by decide) ?_
        rw [mI_na _ _ _ _ _ _ (by omega)]
        refine wa_aload_n dX12_seal_267 rfl rfl ?_
        refine wa_getR (q := (RX12, TX12, 50)) (ci := 12) (k := 49) dX12_seal_268 rfl (by decide) wf_X12_120 hYA.1 rfl (md_r49 hYA) ?_
        refine wa_iload dX12_seal_271 rfl ?_
        refine wa_ialdN dX12_seal_273 (md_s49 hYA) (Or.inl rfl) (by omega) (by decide) ?_
        rw [mI_na _ _ _ _ _ _ (by omega), hch]
        refine wa_isub dX12_seal_274 ?_
        refine wa_iastN dX12_seal_275 (md_s33 hYA) (by omega) (by decide) ?_
        refine wa_iinc (v := nI (i + 1)) dX12_seal_276 rfl (ni_i1 i) (by decide) rfl rfl ?_
        refine wa_goto (tgt := 230) dX12_seal_279 (by decide) ?_
        exact ih (i + 1) (by omega)
    refine wa_aload_n dX12_seal_115 rfl rfl ?_
    refine wa_getI (q := (RX12, TX12, 50)) (ci := 12) (k := 38) dX12_seal_116 rfl (by decide) wf_X12_313 hY1.1 rfl ?_
    rw [g38]
    refine wa_istore dX12_seal_119 (by decide) rfl rfl ?_
    refine wa_aload_n dX12_seal_121 rfl rfl ?_
    refine wa_dup dX12_seal_122 rfl ?_
    refine wa_getI (q := (RX12, TX12, 50)) (ci := 12) (k := 38) dX12_seal_123 rfl (by decide) wf_X12_313 hY1.1 rfl ?_
    rw [g38]
    refine wa_iconst (v := 1) dX12_seal_126 (by decide) ?_
    refine wa_iadd dX12_seal_127 ?_
    rw [show nI N + 1 = nI (N + 1) from ni_i1 N]
    refine wa_put (q := (RX12, TX12, 50)) (ci := 12) (k := 38) dX12_seal_128 rfl (by decide) wf_X12_313 rfl hY1.1 rfl ?_
    rw [mm_putI]
    refine wa_aload_n dX12_seal_131 rfl rfl ?_
    refine wa_getR (q := (RX12, TX12, 50)) (ci := 12) (k := 39) dX12_seal_132 rfl (by decide) wf_X12_89 hY1.1 rfl (md_r39 hY1) ?_
    refine wa_iload dX12_seal_135 rfl ?_
    refine wa_iload_n dX12_seal_137 rfl ?_
    refine wa_iastN dX12_seal_138 (md_s39 hY1) (by omega) (by decide) ?_
    refine wa_aload_n dX12_seal_139 rfl rfl ?_
    refine wa_getR (q := (RX12, TX12, 50)) (ci := 12) (k := 40) dX12_seal_140 rfl (by decide) wf_X12_92 hY1.1 rfl (md_r40 hY1) ?_
    refine wa_iload dX12_seal_143 rfl ?_
    refine wa_iload_n dX12_seal_145 rfl ?_
    refine wa_iastN dX12_seal_146 (md_s40 hY1) (by omega) (by decide) ?_
    refine wa_aload_n dX12_seal_147 rfl rfl ?_
    refine wa_getR (q := (RX12, TX12, 50)) (ci := 12) (k := 41) dX12_seal_148 rfl (by decide) wf_X12_95 hY1.1 rfl (md_r41 hY1) ?_
    refine wa_iload dX12_seal_151 rfl ?_
    refine wa_iload_n dX12_seal_153 rfl ?_
    refine wa_iastN dX12_seal_154 (md_s41 hY1) (by omega) (by decide) ?_
    refine wa_aload_n dX12_seal_155 rfl rfl ?_
    refine wa_getR (q := (RX12, TX12, 50)) (ci := 12) (k := 42) dX12_seal_156 rfl (by decide) wf_X12_98 hY1.1 rfl (md_r42 hY1) ?_
    refine wa_iload dX12_seal_159 rfl ?_
    refine wa_iload dX12_seal_161 rfl ?_
    refine wa_iastN dX12_seal_163 (md_s42 hY1) (by omega) (by decide) ?_
    refine wa_aload_n dX12_seal_164 rfl rfl ?_
    refine wa_getR (q := (RX12, TX12, 50)) (ci := 12) (k := 43) dX12_seal_165 rfl (by decide) wf_X12_101 hY1.1 rfl (md_r43 hY1) ?_
    refine wa_iload dX12_seal_168 rfl ?_
    refine wa_aload_n dX12_seal_170 rfl rfl ?_
    refine wa_getI (q := (RX12, TX12, 50)) (ci := 12) (k := 27) dX12_seal_171 rfl (by decide) wf_X12_239 hY1.1 rfl ?_
    rw [mI_na _ _ _ _ _ _ (by omega), mI_na _ _ _ _ _ _ (by omega), mI_na _ _ _ _ _ _ (by omega), mI_na _ _ _ _ _ _ (by omega), mI_ne _ _ _ _ _ (by decide)]
    refine wa_iastN dX12_seal_174 (md_s43 hY1) (by omega) (by decide) ?_
    refine wa_aload_n dX12_seal_175 rfl rfl ?_
    refine wa_getR (q := (RX12, TX12, 50)) (ci := 12) (k := 44) dX12_seal_176 rfl (by decide) wf_X12_104 hY1.1 rfl (md_r44 hY1) ?_
    refine wa_iload dX12_seal_179 rfl ?_
    refine wa_iload dX12_seal_181 rfl ?_
    refine wa_iastN dX12_seal_183 (md_s44 hY1) (by omega) (by decide) ?_
    refine wa_aload_n dX12_seal_184 rfl rfl ?_
    refine wa_getR (q := (RX12, TX12, 50)) (ci := 12) (k := 45) dX12_seal_185 rfl (by decide) wf_X12_107 hY1.1 rfl (md_r45 hY1) ?_
    refine wa_iload dX12_seal_188 rfl ?_
    refine wa_iload dX12_seal_190 rfl ?_
    refine wa_iastN dX12_seal_192 (md_s45 hY1) (by omega) (by decide) ?_
    refine wa_aload_n dX12_seal_193 rfl rfl ?_
    refine wa_getR (q := (RX12, TX12, 50)) (ci := 12) (k := 46) dX12_seal_194 rfl (by decide) wf_X12_110 hY1.1 rfl (md_r46 hY1) ?_
    refine wa_iload dX12_seal_197 rfl ?_
    refine wa_aload_n dX12_seal_199 rfl rfl ?_
    refine wa_getR (q := (RX12, TX12, 50)) (ci := 12) (k := 31) dX12_seal_200 rfl (by decide) wf_X12_67 hY1.1 rfl (md_r31 hY1) ?_
    refine wa_iload_n dX12_seal_203 rfl ?_
    refine wa_ialdN dX12_seal_204 (md_s31 hY1) (Or.inl rfl) (by omega) (by decide) ?_
    rw [mI_na _ _ _ _ _ _ (by omega), mI_na _ _ _ _ _ _ (by omega), mI_na _ _ _ _ _ _ (by omega), mI_na _ _ _ _ _ _ (by omega), mI_na _ _ _ _ _ _ (by omega), mI_na _ _ _ _ _ _ (by omega), mI_na _ _ _ _ _ _ (by omega), mI_na _ _ _ _ _ _ (by omega)]
    refine wa_iastN dX12_seal_205 (md_s46 hY1) (by omega) (by decide) ?_
    refine wa_aload_n dX12_seal_206 rfl rfl ?_
    refine wa_getR (q := (RX12, TX12, 50)) (ci := 12) (k := 31) dX12_seal_207 rfl (by decide) wf_X12_67 hY1.1 rfl (md_r31 hY1) ?_
    refine wa_iload_n dX12_seal_210 rfl ?_
    refine wa_dup2 dX12_seal_211 rfl rfl ?_
    refine wa_ialdN dX12_seal_212 (md_s31 hY1) (Or.inl rfl) (by omega) (by decide) ?_
    rw [mI_na _ _ _ _ _ _ (by omega), mI_na _ _ _ _ _ _ (by omega), mI_na _ _ _ _ _ _ (by omega), mI_na _ _ _ _ _ _ (by omega), mI_na _ _ _ _ _ _ (by omega), mI_na _ _ _ _ _ _ (by omega), mI_na _ _ _ _ _ _ (by omega), mI_na _ _ _ _ _ _ (by omega), mI_na _ _ _ _ _ _ (by omega)]
    refine wa_iconst (v := 1) dX12_seal_213 (by decide) ?_
    refine wa_iadd dX12_seal_214 ?_
    refine wa_iastN dX12_seal_215 (md_s31 hY1) (by omega) (by decide) ?_
    refine wa_aload_n dX12_seal_216 rfl rfl ?_
    refine wa_getR (q := (RX12, TX12, 50)) (ci := 12) (k := 30) dX12_seal_217 rfl (by decide) wf_X12_64 hY1.1 rfl (md_r30 hY1) ?_
    refine wa_iload_n dX12_seal_220 rfl ?_
    refine wa_dup2 dX12_seal_221 rfl rfl ?_
    refine wa_ialdN dX12_seal_222 (md_s30 hY1) (Or.inl rfl) (by omega) (by decide) ?_
    rw [mI_na _ _ _ _ _ _ (by omega), mI_na _ _ _ _ _ _ (by omega), mI_na _ _ _ _ _ _ (by omega), mI_na _ _ _ _ _ _ (by omega), mI_na _ _ _ _ _ _ (by omega), mI_na _ _ _ _ _ _ (by omega), mI_na _ _ _ _ _ _ (by omega), mI_na _ _ _ _ _ _ (by omega), mI_na _ _ _ _ _ _ (by omega), mI_na _ _ _ _ _ _ (by omega)]
    refine wa_iload dX12_seal_223 rfl ?_
    refine wa_iadd dX12_seal_225 ?_
    refine wa_iastN dX12_seal_226 (md_s30 hY1) (by omega) (by decide) ?_
    refine wa_iconst (v := 0) dX12_seal_227 (by decide) ?_
    refine wa_istore dX12_seal_228 (by decide) rfl rfl ?_
    exact loop 5 0 rfl
  have s82 : ∀ q t fee, q < P → t < T → fee ≤ 5000 → ((∀ n, ¬ fz_ (st q) fee n) → ∀ M' : mm_M, lsk_ M0 M' → Q (some (.int (-1))) (mm_sI (mm_sI M' y 1 6) y 2 (-1))) → (∀ n, opt_ (st q) fee n → (N = 200 → ∀ M' : mm_M, chf_ M0 M' y → Q (some (.int (-1))) (mm_sI (mm_sI M' y 1 3) y 2 (-1))) ∧
          (N < 200 → ∀ (M' : mm_M), chf_ M0 M' y → (∀ i, i < 5 → mm_I M' (y + 34) i = nI (n i)) → Q (some (.int (nI N))) (rse_ M' y N q k v s fee t n))) → wa_ 0 G jX12_seal (d + 3) 0 0 Q 0 0 M0 82 [some (.ref y), some (.int (nI q)), some (.int k), some (.int v), some (.int s), some (.int (nI t)), some (.int (nI fee)), none, none] [] := by
    intro q t fee hq ht hf hno hop
    refine wa_aload_n dX12_seal_82 rfl rfl ?_
    refine wa_iload_n dX12_seal_83 rfl ?_
    refine wa_iload dX12_seal_84 rfl ?_
    refine wa_callV  (q := (RX12, TX12, 50)) (As := [.int (nI q), .int (nI fee)]) dX12_seal_86 lk_X12_309 rfl rfl hY.1 rfl rfl (Nat.le_of_ble_eq_true rfl) (Nat.le_of_eq (Nat.zero_add _)) (Nat.le_of_eq (Nat.zero_add _)) (k_X12_chooses (d := d + 1) (st := st q) hY (by omega) hf (hst q hq) (hstb q) hG2 hv0 (fun hz M1 hl => ?_) (fun n M1 ho hc hin => ?_))
    · have hY1 := lsk_mdl hl hY
      refine wa_if_ne (tgt := 99) dX12_seal_89 (by decide) (fun h9 => absurd h9 (by decide)) (fun _ => ?_)
      refine wa_aload_n dX12_seal_92 rfl rfl ?_
      refine wa_bipush (v := 6) dX12_seal_93 (by decide) ?_
      refine wa_callV  (q := (RX12, TX12, 50)) (As := [.int 6]) dX12_seal_95 lk_X12_233 rfl rfl hY1.1 rfl rfl (Nat.le_of_ble_eq_true rfl) (Nat.le_of_eq (Nat.zero_add _)) (Nat.le_of_eq (Nat.zero_add _)) (k_X12_refused 6 hY1 ?_)
      exact wa_iret dX12_seal_98 rfl (hno hz M1 hl)
    · have hY1 := chf_mdl hc hY
      have g38 : mm_I M1 y 38 = nI N := (hc.2.2 _ _ (by omega)).trans hN
      refine wa_if_ne (tgt := 99) dX12_seal_89 (by decide) (fun _ => ?_) (fun h9 => absurd h9 (by decide))
      refine wa_aload_n dX12_seal_99 rfl rfl ?_
      refine wa_getI (q := (RX12, TX12, 50)) (ci := 12) (k := 38) dX12_seal_100 rfl (by decide) wf_X12_313 hY1.1 rfl ?_
      rw [g38]
      refine wa_sipush (v := 200) dX12_seal_103 (by decide) ?_
      refine wa_icmp_ne (tgt := 115) dX12_seal_106 (by decide) (fun hT106 => ?_) (fun hF106 => ?_)
      · have hN9 : N < 200 := Nat.lt_of_le_of_ne hN2 (fun e => hT106 (by rw [e]; rfl))
        exact s115 q t fee hq ht hN9 n M1 hc hin ((hop n ho).2 hN9 M1 hc hin)
      · have hN9 : N = 200 := (nI_eq (by omega) (by decide)).mp hF106
        refine wa_aload_n dX12_seal_109 rfl rfl ?_
        refine wa_iconst (v := 3) dX12_seal_110 (by decide) ?_
        refine wa_callV  (q := (RX12, TX12, 50)) (As := [.int 3]) dX12_seal_111 lk_X12_233 rfl rfl hY1.1 rfl rfl (Nat.le_of_ble_eq_true rfl) (Nat.le_of_eq (Nat.zero_add _)) (Nat.le_of_eq (Nat.zero_add _)) (k_X12_refused 3 hY1 ?_)
        exact wa_iret dX12_seal_114 rfl ((hop n ho).1 hN9 M1 hc)
  have s42n : ∀ q, q < P → Q (some (.int (-1))) (mm_sI (mm_sI M0 y 1 5) y 2 (-1)) → wa_ 0 G jX12_seal (d + 3) 0 0 Q 0 0 M0 40 [some (.ref y), some (.int (nI q)), some (.int k), some (.int v), some (.int s), none, none, none, none] [.int (-2)] := by
    intro q hq hQ
    refine wa_istore dX12_seal_40 (by decide) rfl rfl ?_
    refine wa_iload dX12_seal_42 rfl ?_
    refine wa_if_ge (tgt := 51) dX12_seal_44 (by decide) (fun h9 => absurd h9 (by decide)) (fun _ => ?_)
    refine wa_iconst (v := -1) dX12_seal_47 (by decide) ?_
    refine wa_goto (tgt := 68) dX12_seal_48 (by decide) ?_
    refine wa_istore dX12_seal_68 (by decide) rfl rfl ?_
    refine wa_iload dX12_seal_70 rfl ?_
    refine wa_iconst (v := -1) dX12_seal_72 (by decide) ?_
    refine wa_icmp_ne (tgt := 82) dX12_seal_73 (by decide) (fun h9 => absurd h9 (by decide)) (fun _ => ?_)
    refine wa_aload_n dX12_seal_76 rfl rfl ?_
    refine wa_iconst (v := 5) dX12_seal_77 (by decide) ?_
    refine wa_callV  (q := (RX12, TX12, 50)) (As := [.int 5]) dX12_seal_78 lk_X12_233 rfl rfl hY.1 rfl rfl (Nat.le_of_ble_eq_true rfl) (Nat.le_of_eq (Nat.zero_add _)) (Nat.le_of_eq (Nat.zero_add _)) (k_X12_refused 5 hY ?_)
    exact wa_iret dX12_seal_81 rfl (hQ)
  have s42t : ∀ q t, q < P → t < T → 0 ≤ k → k ≤ 9 → 0 ≤ v → v ≤ 9999 → 1 ≤ s → s ≤ 99 → (((fq_ (-1) k v s (nI q) (mm_I M0 (y + 17) q) (tl t)) = -1 → Q (some (.int (-1))) (mm_sI (mm_sI M0 y 1 5) y 2 (-1))) ∧
      (∀ fee, fee ≤ 5000 → (fq_ (-1) k v s (nI q) (mm_I M0 (y + 17) q) (tl t)) = nI fee → ((∀ n, ¬ fz_ (st q) fee n) → ∀ M' : mm_M, lsk_ M0 M' → Q (some (.int (-1))) (mm_sI (mm_sI M' y 1 6) y 2 (-1))) ∧
        ∀ n, opt_ (st q) fee n → (N = 200 → ∀ M' : mm_M, chf_ M0 M' y → Q (some (.int (-1))) (mm_sI (mm_sI M' y 1 3) y 2 (-1))) ∧
          (N < 200 → ∀ (M' : mm_M), chf_ M0 M' y → (∀ i, i < 5 → mm_I M' (y + 34) i = nI (n i)) → Q (some (.int (nI N))) (rse_ M' y N q k v s fee t n)))) → wa_ 0 G jX12_seal (d + 3) 0 0 Q 0 0 M0 40 [some (.ref y), some (.int (nI q)), some (.int k), some (.int v), some (.int s), none, none, none, none] [.int (nI t)] := by
    intro q t hq ht z1 z2 z3 z4 z5 z6 hE
    refine wa_istore dX12_seal_40 (by decide) rfl rfl ?_
    refine wa_iload dX12_seal_42 rfl ?_
    refine wa_if_ge (tgt := 51) dX12_seal_44 (by decide) (fun hT44 => ?_) (fun hF44 => absurd (nI_pos' (by omega)) hF44)
    refine wa_aload_n dX12_seal_51 rfl rfl ?_
    refine wa_iload dX12_seal_52 rfl ?_
    refine wa_iload_n dX12_seal_54 rfl ?_
    refine wa_iload_n dX12_seal_55 rfl ?_
    refine wa_iload dX12_seal_56 rfl ?_
    refine wa_iload_n dX12_seal_58 rfl ?_
    refine wa_aload_n dX12_seal_59 rfl rfl ?_
    refine wa_getR (q := (RX12, TX12, 50)) (ci := 12) (k := 31) dX12_seal_60 rfl (by decide) wf_X12_67 hY.1 rfl (md_r31 hY) ?_
    refine wa_iload_n dX12_seal_63 rfl ?_
    refine wa_ialdN dX12_seal_64 (md_s31 hY) (Or.inl rfl) (by omega) (by decide) ?_
    refine wa_callV  (q := (RX12, TX12, 50)) (As := [.int (nI t), .int k, .int v, .int s, .int (nI q), .int (mm_I M0 (y + 17) q)]) dX12_seal_65 lk_X12_281 rfl rfl hY.1 rfl rfl (Nat.le_of_ble_eq_true rfl) (Nat.le_of_eq (Nat.zero_add _)) (Nat.le_of_eq (Nat.zero_add _)) (kk_X12_feeOf (d := d + 1) t (fun t => (tl t).length) (tn_ tl) (tm_ tl) k v s (nI q) (mm_I M0 (y + 17) q) hY (by omega) (rTL_F hTL hv ht) ?_)
    rw [md_ft_t hTL hv ht]
    refine wa_istore dX12_seal_68 (by decide) rfl rfl ?_
    refine wa_iload dX12_seal_70 rfl ?_
    refine wa_iconst (v := -1) dX12_seal_72 (by decide) ?_
    refine wa_icmp_ne (tgt := 82) dX12_seal_73 (by decide) (fun hT73 => ?_) (fun hF73 => ?_)
    · have hbm := ms_nb (v := v) (s := s) (p := nI q) (h := mm_I M0 (y + 17) q) (nb_of 9999 rfl (by decide) (show nI 0 ≤ v from z3) (by decide) z4) (nb_w (nb_of 99 rfl (by decide) (show nI 1 ≤ s from z5) (by decide) z6) (by decide) (by decide)) ⟨q, by omega, by omega, rfl⟩ (hsb q hq)
      obtain ⟨fee, hfee, ef1⟩ : ∃ fee, fee ≤ 5000 ∧ (fq_ (-1) k v s (nI q) (mm_I M0 (y + 17) q) (tl t)) = nI fee := by
        rcases fq_nat (n0 := -1) (w := k) hbm (tl t) (hv t ht).2 with ⟨e1, -, -⟩ | ⟨kf, k1, -, k2, -⟩
        · exact absurd e1 hT73
        · exact ⟨kf, k1, k2⟩
      rw [ef1]
      exact s82 q t fee hq ht hfee (hE.2 fee hfee ef1).1 (hE.2 fee hfee ef1).2
    · refine wa_aload_n dX12_seal_76 rfl rfl ?_
      refine wa_iconst (v := 5) dX12_seal_77 (by decide) ?_
      refine wa_callV  (q := (RX12, TX12, 50)) (As := [.int 5]) dX12_seal_78 lk_X12_233 rfl rfl hY.1 rfl rfl (Nat.le_of_ble_eq_true rfl) (Nat.le_of_eq (Nat.zero_add _)) (Nat.le_of_eq (Nat.zero_add _)) (k_X12_refused 5 hY ?_)
      exact wa_iret dX12_seal_81 rfl (hE.1 hF73)
  refine wa_aload_n dX12_seal_5 rfl rfl ?_
  refine wa_iload_n dX12_seal_6 rfl ?_
  refine wa_callV  (q := (RX12, TX12, 50)) (As := [.int p]) dX12_seal_7 lk_X12_262 rfl rfl hY.1 rfl rfl (Nat.le_of_ble_eq_true rfl) (Nat.le_of_eq (Nat.zero_add _)) (Nat.le_of_eq (Nat.zero_add _)) (k_X12_isPort p hY (fun hA hB => ?_) (fun hA => ?_))
  · rw [hP] at hB
    obtain ⟨q, hq, rfl⟩ := ix_of hA hB (by omega)
    refine wa_if_ne (tgt := 19) dX12_seal_10 (by decide) (fun _ => ?_) (fun h9 => absurd h9 (by decide))
    refine wa_iload_n dX12_seal_19 rfl ?_
    refine wa_iload_n dX12_seal_20 rfl ?_
    refine wa_iload dX12_seal_21 rfl ?_
    refine wa_callS (As := [.int k, .int v, .int s]) dX12_seal_23 lk_X12_278 rfl rfl (Nat.le_of_ble_eq_true rfl) (Nat.le_of_eq (Nat.zero_add _)) (Nat.le_of_eq (Nat.zero_add _)) (k_X12_isPaper k v s (fun z1 z2 z3 z4 z5 z6 => ?_) (fun hNP => ?_))
    · refine wa_if_ne (tgt := 35) dX12_seal_26 (by decide) (fun _ => ?_) (fun h9 => absurd h9 (by decide))
      refine wa_aload_n dX12_seal_35 rfl rfl ?_
      refine wa_iload_n dX12_seal_36 rfl ?_
      refine wa_callV  (q := (RX12, TX12, 50)) (As := [.int (nI q)]) dX12_seal_37 lk_X12_275 rfl rfl hY.1 rfl rfl (Nat.le_of_ble_eq_true rfl) (Nat.le_of_eq (Nat.zero_add _)) (Nat.le_of_eq (Nat.zero_add _)) (k_X12_forceOf q T hY (by omega) hT hT30 (fun t ht ha hb => ?_))
      rcases Nat.eq_zero_or_pos t with e0 | e0
      · subst e0
        rw [if_pos rfl]
        exact s42n q hq (h5 q rfl hq z1 z2 z3 z4 z5 z6 (fun h => hb h))
      · obtain ⟨t', rfl⟩ : ∃ t', t = t' + 1 := ⟨t - 1, by omega⟩
        rw [if_neg (by omega), nI_pred]
        exact s42t q t' hq (by omega) z1 z2 z3 z4 z5 z6 (h1 q t' rfl hq z1 z2 z3 z4 z5 z6 (by omega) (fun j hj => ha j (by omega)) (fun h => hb h))
    · refine wa_if_ne (tgt := 35) dX12_seal_26 (by decide) (fun h9 => absurd h9 (by decide)) (fun _ => ?_)
      refine wa_aload_n dX12_seal_29 rfl rfl ?_
      refine wa_iconst (v := 2) dX12_seal_30 (by decide) ?_
      refine wa_callV  (q := (RX12, TX12, 50)) (As := [.int 2]) dX12_seal_31 lk_X12_233 rfl rfl hY.1 rfl rfl (Nat.le_of_ble_eq_true rfl) (Nat.le_of_eq (Nat.zero_add _)) (Nat.le_of_eq (Nat.zero_add _)) (k_X12_refused 2 hY ?_)
      exact wa_iret dX12_seal_34 rfl (h2 q rfl hq hNP)
  · refine wa_if_ne (tgt := 19) dX12_seal_10 (by decide) (fun h9 => absurd h9 (by decide)) (fun _ => ?_)
    refine wa_aload_n dX12_seal_13 rfl rfl ?_
    refine wa_iconst (v := 1) dX12_seal_14 (by decide) ?_
    refine wa_callV  (q := (RX12, TX12, 50)) (As := [.int 1]) dX12_seal_15 lk_X12_233 rfl rfl hY.1 rfl rfl (Nat.le_of_ble_eq_true rfl) (Nat.le_of_eq (Nat.zero_add _)) (Nat.le_of_eq (Nat.zero_add _)) (k_X12_refused 1 hY ?_)
    exact wa_iret dX12_seal_18 rfl (h0 hA)
