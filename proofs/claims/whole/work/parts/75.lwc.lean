/-! the law: its cases -/
abbrev jL_law : mm_J := (⟨RL, "law", "([I)Z"⟩, cL_law, 4, ret)
abbrev lvL (bs x y i : Nat) : List (Option Value) := [some (.ref bs), some (.ref x), some (.ref y), some (.int (nI i))]
theorem law_rd {G : mm_G} {d mc ms : Nat} {Q : Option Value → mm_M → Prop} {kc ks : Nat} {M : mm_M} {x y bs L i pc : Nat} {xs : Nat → Int32} {st : List Value} {v : Int32} (k : Nat) (hk : k ≤ 5) (d0 : decode cL_law pc = .ok (.aload_n 0, 1)) (d1 : decode cL_law (pc + 1) = .ok (.iload_n 3, 1)) (d2 : decode cL_law (pc + 2) = .ok (.iconst k, 1)) (d3 : decode cL_law (pc + 3) = .ok (.iadd, 1)) (d4 : decode cL_law (pc + 4) = .ok (.iaload, 1)) (hm : mm_sh M bs = some (.inr (10, L)) ∧ ∀ j, j < L → mm_I M bs j = xs j) (hi : i + 6 ≤ L) (hL : L ≤ 3072) (hv : xs (i + k) = v) (kk : wa_ 0 G jL_law d mc ms Q kc ks M (pc + 5) (lvL bs x y i) (.int v :: st)) : wa_ 0 G jL_law d mc ms Q kc ks M pc (lvL bs x y i) st := by
  refine wa_aload_n d0 rfl rfl ?_
  refine wa_iload_n d1 rfl ?_
  refine wa_iconst (v := nI k) d2 (by show Int32.ofInt (k : Int) = Int32.ofNat k; rfl) ?_
  refine wa_iadd d3 ?_
  rw [nI_add]
  refine wa_ialdN d4 hm.1 (Or.inr rfl) (by omega) (by omega) ?_
  rw [hm.2 _ (by omega), hv]
  exact kk
theorem lc_port {G : mm_G} {d mc ms : Nat} {Q : Option Value → mm_M → Prop} {kc ks : Nat} {M : mm_M} {x y w0 s0 v0 bs L i : Nat} {xs : Nat → Int32} (hG0 : G.2.2.2.1 0 = .ref w0) (hR : Rel_ x y w0 s0 v0 bs L xs M) (hL : L ≤ 3072) (hi : i + 6 ≤ L) (hk : ∀ M2 : mm_M, Rel_ x y w0 s0 v0 bs L xs M2 → wa_ 0 G jL_law (d + 10) mc ms Q kc ks M2 876 (lvL bs x y i) []) : wa_ 0 G jL_law (d + 10) mc ms Q (kc + 171) (ks + 547) M 144 (lvL bs x y i) [] := by
  obtain ⟨rS, rX, P, T, td, N, tp, pa, ar, ta, la, tl, pp, tk, pq, rP, rT, rN, rB⟩ := hR
  have c : RW_ M x y w0 s0 v0 bs L xs P T td N tp pa ar ta la tl pp tk pq := ⟨rS, rX, rP, rT, rN, rB⟩
  have hm0 := RW_mid c
  refine wa_aload_n dL_law_144 rfl rfl ?_
  refine law_rd 1 (by decide) dL_law_145 dL_law_146 dL_law_147 dL_law_148 dL_law_149 hm0.2 hi hL rfl ?_
  refine wa_callV (kc' := kc) (ks' := ks) (q := (RX10, TX10, 13)) (As := [.int (xs (i + 1))]) dL_law_150 lk_L_13 rfl rfl rS.2.1.1.1 rfl rfl (Nat.le_of_ble_eq_true rfl) (by omega) (by omega) (op_port hG0 c _ (fun rz M1 hm hop => ?_))
  refine wa_aload_n dL_law_153 rfl rfl ?_
  refine law_rd 1 (by decide) dL_law_154 dL_law_155 dL_law_156 dL_law_157 dL_law_158 hm.2 hi hL rfl ?_
  refine wa_callV (kc' := kc) (ks' := ks) (q := (RX12, TX12, 50)) (As := [.int (xs (i + 1))]) dL_law_159 lk_L_17 rfl rfl hm.1 rfl rfl (Nat.le_of_ble_eq_true rfl) (by omega) (by omega) (hop _ _ (fun M2 hr => ?_))
  exact wa_icmp_eq (tgt := 876) dL_law_162 (by decide) (fun _ => hk M2 hr) (fun h => absurd rfl h)
theorem lc_feed {G : mm_G} {d mc ms : Nat} {Q : Option Value → mm_M → Prop} {kc ks : Nat} {M : mm_M} {x y w0 s0 v0 bs L i : Nat} {xs : Nat → Int32} (hR : Rel_ x y w0 s0 v0 bs L xs M) (hL : L ≤ 3072) (hi : i + 6 ≤ L) (hk : ∀ M2 : mm_M, Rel_ x y w0 s0 v0 bs L xs M2 → wa_ 0 G jL_law (d + 10) mc ms Q kc ks M2 876 (lvL bs x y i) []) : wa_ 0 G jL_law (d + 10) mc ms Q (kc + 171) (ks + 547) M 167 (lvL bs x y i) [] := by
  obtain ⟨rS, rX, P, T, td, N, tp, pa, ar, ta, la, tl, pp, tk, pq, rP, rT, rN, rB⟩ := hR
  have c : RW_ M x y w0 s0 v0 bs L xs P T td N tp pa ar ta la tl pp tk pq := ⟨rS, rX, rP, rT, rN, rB⟩
  have hm0 := RW_mid c
  refine wa_aload_n dL_law_167 rfl rfl ?_
  refine law_rd 1 (by decide) dL_law_168 dL_law_169 dL_law_170 dL_law_171 dL_law_172 hm0.2 hi hL rfl ?_
  refine law_rd 2 (by decide) dL_law_173 dL_law_174 dL_law_175 dL_law_176 dL_law_177 hm0.2 hi hL rfl ?_
  refine law_rd 3 (by decide) dL_law_178 dL_law_179 dL_law_180 dL_law_181 dL_law_182 hm0.2 hi hL rfl ?_
  refine law_rd 4 (by decide) dL_law_183 dL_law_184 dL_law_185 dL_law_186 dL_law_187 hm0.2 hi hL rfl ?_
  refine law_rd 5 (by decide) dL_law_188 dL_law_189 dL_law_190 dL_law_191 dL_law_192 hm0.2 hi hL rfl ?_
  refine wa_callV (kc' := kc) (ks' := ks) (q := (RX10, TX10, 13)) (As := [.int (xs (i + 1)), .int (xs (i + 2)), .int (xs (i + 3)), .int (xs (i + 4)), .int (xs (i + 5))]) dL_law_193 lk_L_18 rfl rfl rS.2.1.1.1 rfl rfl (Nat.le_of_ble_eq_true rfl) (by omega) (by omega) (op_feed c _ _ _ _ _ (fun rz M1 hm hop => ?_))
  refine wa_aload_n dL_law_196 rfl rfl ?_
  refine law_rd 1 (by decide) dL_law_197 dL_law_198 dL_law_199 dL_law_200 dL_law_201 hm.2 hi hL rfl ?_
  refine law_rd 2 (by decide) dL_law_202 dL_law_203 dL_law_204 dL_law_205 dL_law_206 hm.2 hi hL rfl ?_
  refine law_rd 3 (by decide) dL_law_207 dL_law_208 dL_law_209 dL_law_210 dL_law_211 hm.2 hi hL rfl ?_
  refine law_rd 4 (by decide) dL_law_212 dL_law_213 dL_law_214 dL_law_215 dL_law_216 hm.2 hi hL rfl ?_
  refine law_rd 5 (by decide) dL_law_217 dL_law_218 dL_law_219 dL_law_220 dL_law_221 hm.2 hi hL rfl ?_
  refine wa_callV (kc' := kc) (ks' := ks) (q := (RX12, TX12, 50)) (As := [.int (xs (i + 1)), .int (xs (i + 2)), .int (xs (i + 3)), .int (xs (i + 4)), .int (xs (i + 5))]) dL_law_222 lk_L_22 rfl rfl hm.1 rfl rfl (Nat.le_of_ble_eq_true rfl) (by omega) (by omega) (hop _ _ (fun M2 hr => ?_))
  exact wa_icmp_eq (tgt := 876) dL_law_225 (by decide) (fun _ => hk M2 hr) (fun h => absurd rfl h)
theorem lc_fault {G : mm_G} {d mc ms : Nat} {Q : Option Value → mm_M → Prop} {kc ks : Nat} {M : mm_M} {x y w0 s0 v0 bs L i : Nat} {xs : Nat → Int32} (hR : Rel_ x y w0 s0 v0 bs L xs M) (hL : L ≤ 3072) (hi : i + 6 ≤ L) (hk : ∀ M2 : mm_M, Rel_ x y w0 s0 v0 bs L xs M2 → wa_ 0 G jL_law (d + 10) mc ms Q kc ks M2 876 (lvL bs x y i) []) : wa_ 0 G jL_law (d + 10) mc ms Q (kc + 171) (ks + 547) M 253 (lvL bs x y i) [] := by
  obtain ⟨rS, rX, P, T, td, N, tp, pa, ar, ta, la, tl, pp, tk, pq, rP, rT, rN, rB⟩ := hR
  have c : RW_ M x y w0 s0 v0 bs L xs P T td N tp pa ar ta la tl pp tk pq := ⟨rS, rX, rP, rT, rN, rB⟩
  have hm0 := RW_mid c
  refine wa_aload_n dL_law_253 rfl rfl ?_
  refine wa_callV (kc' := kc) (ks' := ks) (q := (RX10, TX10, 13)) (As := []) dL_law_254 lk_L_27 rfl rfl rS.2.1.1.1 rfl rfl (Nat.le_of_ble_eq_true rfl) (by omega) (by omega) (op_fault c (fun rz M1 hm hop => ?_))
  refine wa_aload_n dL_law_257 rfl rfl ?_
  refine wa_callV (kc' := kc) (ks' := ks) (q := (RX12, TX12, 50)) (As := []) dL_law_258 lk_L_31 rfl rfl hm.1 rfl rfl (Nat.le_of_ble_eq_true rfl) (by omega) (by omega) (hop _ _ (fun M2 hr => ?_))
  exact wa_icmp_eq (tgt := 876) dL_law_261 (by decide) (fun _ => hk M2 hr) (fun h => absurd rfl h)
theorem lc_where {G : mm_G} {d mc ms : Nat} {Q : Option Value → mm_M → Prop} {kc ks : Nat} {M : mm_M} {x y w0 s0 v0 bs L i : Nat} {xs : Nat → Int32} (hR : Rel_ x y w0 s0 v0 bs L xs M) (hL : L ≤ 3072) (hi : i + 6 ≤ L) (hk : ∀ M2 : mm_M, Rel_ x y w0 s0 v0 bs L xs M2 → wa_ 0 G jL_law (d + 10) mc ms Q kc ks M2 876 (lvL bs x y i) []) : wa_ 0 G jL_law (d + 10) mc ms Q (kc + 171) (ks + 547) M 266 (lvL bs x y i) [] := by
  obtain ⟨rS, rX, P, T, td, N, tp, pa, ar, ta, la, tl, pp, tk, pq, rP, rT, rN, rB⟩ := hR
  have c : RW_ M x y w0 s0 v0 bs L xs P T td N tp pa ar ta la tl pp tk pq := ⟨rS, rX, rP, rT, rN, rB⟩
  have hm0 := RW_mid c
  refine wa_aload_n dL_law_266 rfl rfl ?_
  refine wa_callV (kc' := kc) (ks' := ks) (q := (RX10, TX10, 13)) (As := []) dL_law_267 lk_L_32 rfl rfl rS.2.1.1.1 rfl rfl (Nat.le_of_ble_eq_true rfl) (by omega) (by omega) (op_where c (fun rz M1 hm hop => ?_))
  refine wa_aload_n dL_law_270 rfl rfl ?_
  refine wa_callV (kc' := kc) (ks' := ks) (q := (RX12, TX12, 50)) (As := []) dL_law_271 lk_L_35 rfl rfl hm.1 rfl rfl (Nat.le_of_ble_eq_true rfl) (by omega) (by omega) (hop _ _ (fun M2 hr => ?_))
  exact wa_icmp_eq (tgt := 876) dL_law_274 (by decide) (fun _ => hk M2 hr) (fun h => absurd rfl h)
theorem lc_lost {G : mm_G} {d mc ms : Nat} {Q : Option Value → mm_M → Prop} {kc ks : Nat} {M : mm_M} {x y w0 s0 v0 bs L i : Nat} {xs : Nat → Int32} (hR : Rel_ x y w0 s0 v0 bs L xs M) (hL : L ≤ 3072) (hi : i + 6 ≤ L) (hk : ∀ M2 : mm_M, Rel_ x y w0 s0 v0 bs L xs M2 → wa_ 0 G jL_law (d + 10) mc ms Q kc ks M2 876 (lvL bs x y i) []) : wa_ 0 G jL_law (d + 10) mc ms Q (kc + 171) (ks + 547) M 279 (lvL bs x y i) [] := by
  obtain ⟨rS, rX, P, T, td, N, tp, pa, ar, ta, la, tl, pp, tk, pq, rP, rT, rN, rB⟩ := hR
  have c : RW_ M x y w0 s0 v0 bs L xs P T td N tp pa ar ta la tl pp tk pq := ⟨rS, rX, rP, rT, rN, rB⟩
  have hm0 := RW_mid c
  refine wa_aload_n dL_law_279 rfl rfl ?_
  refine law_rd 1 (by decide) dL_law_280 dL_law_281 dL_law_282 dL_law_283 dL_law_284 hm0.2 hi hL rfl ?_
  refine law_rd 2 (by decide) dL_law_285 dL_law_286 dL_law_287 dL_law_288 dL_law_289 hm0.2 hi hL rfl ?_
  refine wa_callV (kc' := kc) (ks' := ks) (q := (RX10, TX10, 13)) (As := [.int (xs (i + 1)), .int (xs (i + 2))]) dL_law_290 lk_L_36 rfl rfl rS.2.1.1.1 rfl rfl (Nat.le_of_ble_eq_true rfl) (by omega) (by omega) (op_lost c _ _ (fun rz M1 hm hop => ?_))
  refine wa_aload_n dL_law_293 rfl rfl ?_
  refine law_rd 1 (by decide) dL_law_294 dL_law_295 dL_law_296 dL_law_297 dL_law_298 hm.2 hi hL rfl ?_
  refine law_rd 2 (by decide) dL_law_299 dL_law_300 dL_law_301 dL_law_302 dL_law_303 hm.2 hi hL rfl ?_
  refine wa_callV (kc' := kc) (ks' := ks) (q := (RX12, TX12, 50)) (As := [.int (xs (i + 1)), .int (xs (i + 2))]) dL_law_304 lk_L_40 rfl rfl hm.1 rfl rfl (Nat.le_of_ble_eq_true rfl) (by omega) (by omega) (hop _ _ (fun M2 hr => ?_))
  exact wa_icmp_eq (tgt := 876) dL_law_307 (by decide) (fun _ => hk M2 hr) (fun h => absurd rfl h)
theorem lc_pass {G : mm_G} {d mc ms : Nat} {Q : Option Value → mm_M → Prop} {kc ks : Nat} {M : mm_M} {x y w0 s0 v0 bs L i : Nat} {xs : Nat → Int32} (hR : Rel_ x y w0 s0 v0 bs L xs M) (hL : L ≤ 3072) (hi : i + 6 ≤ L) (hk : ∀ M2 : mm_M, Rel_ x y w0 s0 v0 bs L xs M2 → wa_ 0 G jL_law (d + 10) mc ms Q kc ks M2 876 (lvL bs x y i) []) : wa_ 0 G jL_law (d + 10) mc ms Q (kc + 171) (ks + 547) M 312 (lvL bs x y i) [] := by
  obtain ⟨rS, rX, P, T, td, N, tp, pa, ar, ta, la, tl, pp, tk, pq, rP, rT, rN, rB⟩ := hR
  have c : RW_ M x y w0 s0 v0 bs L xs P T td N tp pa ar ta la tl pp tk pq := ⟨rS, rX, rP, rT, rN, rB⟩
  have hm0 := RW_mid c
  refine wa_aload_n dL_law_312 rfl rfl ?_
  refine law_rd 1 (by decide) dL_law_313 dL_law_314 dL_law_315 dL_law_316 dL_law_317 hm0.2 hi hL rfl ?_
  refine wa_callV (kc' := kc) (ks' := ks) (q := (RX10, TX10, 13)) (As := [.int (xs (i + 1))]) dL_law_318 lk_L_41 rfl rfl rS.2.1.1.1 rfl rfl (Nat.le_of_ble_eq_true rfl) (by omega) (by omega) (op_pass c _ (fun rz M1 hm hop => ?_))
  refine wa_aload_n dL_law_321 rfl rfl ?_
  refine law_rd 1 (by decide) dL_law_322 dL_law_323 dL_law_324 dL_law_325 dL_law_326 hm.2 hi hL rfl ?_
  refine wa_callV (kc' := kc) (ks' := ks) (q := (RX12, TX12, 50)) (As := [.int (xs (i + 1))]) dL_law_327 lk_L_44 rfl rfl hm.1 rfl rfl (Nat.le_of_ble_eq_true rfl) (by omega) (by omega) (hop _ _ (fun M2 hr => ?_))
  exact wa_icmp_eq (tgt := 876) dL_law_330 (by decide) (fun _ => hk M2 hr) (fun h => absurd rfl h)
theorem lc_force {G : mm_G} {d mc ms : Nat} {Q : Option Value → mm_M → Prop} {kc ks : Nat} {M : mm_M} {x y w0 s0 v0 bs L i : Nat} {xs : Nat → Int32} (hR : Rel_ x y w0 s0 v0 bs L xs M) (hL : L ≤ 3072) (hi : i + 6 ≤ L) (hk : ∀ M2 : mm_M, Rel_ x y w0 s0 v0 bs L xs M2 → wa_ 0 G jL_law (d + 10) mc ms Q kc ks M2 876 (lvL bs x y i) []) : wa_ 0 G jL_law (d + 10) mc ms Q (kc + 171) (ks + 547) M 335 (lvL bs x y i) [] := by
  obtain ⟨rS, rX, P, T, td, N, tp, pa, ar, ta, la, tl, pp, tk, pq, rP, rT, rN, rB⟩ := hR
  have c : RW_ M x y w0 s0 v0 bs L xs P T td N tp pa ar ta la tl pp tk pq := ⟨rS, rX, rP, rT, rN, rB⟩
  have hm0 := RW_mid c
  refine wa_aload_n dL_law_335 rfl rfl ?_
  refine law_rd 1 (by decide) dL_law_336 dL_law_337 dL_law_338 dL_law_339 dL_law_340 hm0.2 hi hL rfl ?_
  refine wa_callV (kc' := kc) (ks' := ks) (q := (RX10, TX10, 13)) (As := [.int (xs (i + 1))]) dL_law_341 lk_L_45 rfl rfl rS.2.1.1.1 rfl rfl (Nat.le_of_ble_eq_true rfl) (by omega) (by omega) (op_force c _ (fun rz M1 hm hop => ?_))
  refine wa_aload_n dL_law_344 rfl rfl ?_
  refine law_rd 1 (by decide) dL_law_345 dL_law_346 dL_law_347 dL_law_348 dL_law_349 hm.2 hi hL rfl ?_
  refine wa_callV (kc' := kc) (ks' := ks) (q := (RX12, TX12, 50)) (As := [.int (xs (i + 1))]) dL_law_350 lk_L_48 rfl rfl hm.1 rfl rfl (Nat.le_of_ble_eq_true rfl) (by omega) (by omega) (hop _ _ (fun M2 hr => ?_))
  exact wa_icmp_eq (tgt := 876) dL_law_353 (by decide) (fun _ => hk M2 hr) (fun h => absurd rfl h)
theorem lc_came {G : mm_G} {d mc ms : Nat} {Q : Option Value → mm_M → Prop} {kc ks : Nat} {M : mm_M} {x y w0 s0 v0 bs L i : Nat} {xs : Nat → Int32} (hR : Rel_ x y w0 s0 v0 bs L xs M) (hL : L ≤ 3072) (hi : i + 6 ≤ L) (hk : ∀ M2 : mm_M, Rel_ x y w0 s0 v0 bs L xs M2 → wa_ 0 G jL_law (d + 10) mc ms Q kc ks M2 876 (lvL bs x y i) []) : wa_ 0 G jL_law (d + 10) mc ms Q (kc + 171) (ks + 547) M 358 (lvL bs x y i) [] := by
  obtain ⟨rS, rX, P, T, td, N, tp, pa, ar, ta, la, tl, pp, tk, pq, rP, rT, rN, rB⟩ := hR
  have c : RW_ M x y w0 s0 v0 bs L xs P T td N tp pa ar ta la tl pp tk pq := ⟨rS, rX, rP, rT, rN, rB⟩
  have hm0 := RW_mid c
  refine wa_aload_n dL_law_358 rfl rfl ?_
  refine law_rd 1 (by decide) dL_law_359 dL_law_360 dL_law_361 dL_law_362 dL_law_363 hm0.2 hi hL rfl ?_
  refine law_rd 2 (by decide) dL_law_364 dL_law_365 dL_law_366 dL_law_367 dL_law_368 hm0.2 hi hL rfl ?_
  refine wa_callV (kc' := kc) (ks' := ks) (q := (RX10, TX10, 13)) (As := [.int (xs (i + 1)), .int (xs (i + 2))]) dL_law_369 lk_L_49 rfl rfl rS.2.1.1.1 rfl rfl (Nat.le_of_ble_eq_true rfl) (by omega) (by omega) (op_came c _ _ (fun rz M1 hm hop => ?_))
  refine wa_aload_n dL_law_372 rfl rfl ?_
  refine law_rd 1 (by decide) dL_law_373 dL_law_374 dL_law_375 dL_law_376 dL_law_377 hm.2 hi hL rfl ?_
  refine law_rd 2 (by decide) dL_law_378 dL_law_379 dL_law_380 dL_law_381 dL_law_382 hm.2 hi hL rfl ?_
  refine wa_callV (kc' := kc) (ks' := ks) (q := (RX12, TX12, 50)) (As := [.int (xs (i + 1)), .int (xs (i + 2))]) dL_law_383 lk_L_53 rfl rfl hm.1 rfl rfl (Nat.le_of_ble_eq_true rfl) (by omega) (by omega) (hop _ _ (fun M2 hr => ?_))
  exact wa_icmp_eq (tgt := 876) dL_law_386 (by decide) (fun _ => hk M2 hr) (fun h => absurd rfl h)
theorem lc_asked {G : mm_G} {d mc ms : Nat} {Q : Option Value → mm_M → Prop} {kc ks : Nat} {M : mm_M} {x y w0 s0 v0 bs L i : Nat} {xs : Nat → Int32} (hR : Rel_ x y w0 s0 v0 bs L xs M) (hL : L ≤ 3072) (hi : i + 6 ≤ L) (hk : ∀ M2 : mm_M, Rel_ x y w0 s0 v0 bs L xs M2 → wa_ 0 G jL_law (d + 10) mc ms Q kc ks M2 876 (lvL bs x y i) []) : wa_ 0 G jL_law (d + 10) mc ms Q (kc + 171) (ks + 547) M 391 (lvL bs x y i) [] := by
  obtain ⟨rS, rX, P, T, td, N, tp, pa, ar, ta, la, tl, pp, tk, pq, rP, rT, rN, rB⟩ := hR
  have c : RW_ M x y w0 s0 v0 bs L xs P T td N tp pa ar ta la tl pp tk pq := ⟨rS, rX, rP, rT, rN, rB⟩
  have hm0 := RW_mid c
  refine wa_aload_n dL_law_391 rfl rfl ?_
  refine law_rd 1 (by decide) dL_law_392 dL_law_393 dL_law_394 dL_law_395 dL_law_396 hm0.2 hi hL rfl ?_
  refine law_rd 2 (by decide) dL_law_397 dL_law_398 dL_law_399 dL_law_400 dL_law_401 hm0.2 hi hL rfl ?_
  refine wa_callV (kc' := kc) (ks' := ks) (q := (RX10, TX10, 13)) (As := [.int (xs (i + 1)), .int (xs (i + 2))]) dL_law_402 lk_L_54 rfl rfl rS.2.1.1.1 rfl rfl (Nat.le_of_ble_eq_true rfl) (by omega) (by omega) (op_asked c _ _ (fun rz M1 hm hop => ?_))
  refine wa_aload_n dL_law_405 rfl rfl ?_
  refine law_rd 1 (by decide) dL_law_406 dL_law_407 dL_law_408 dL_law_409 dL_law_410 hm.2 hi hL rfl ?_
  refine law_rd 2 (by decide) dL_law_411 dL_law_412 dL_law_413 dL_law_414 dL_law_415 hm.2 hi hL rfl ?_
  refine wa_callV (kc' := kc) (ks' := ks) (q := (RX12, TX12, 50)) (As := [.int (xs (i + 1)), .int (xs (i + 2))]) dL_law_416 lk_L_57 rfl rfl hm.1 rfl rfl (Nat.le_of_ble_eq_true rfl) (by omega) (by omega) (hop _ _ (fun M2 hr => ?_))
  exact wa_icmp_eq (tgt := 876) dL_law_419 (by decide) (fun _ => hk M2 hr) (fun h => absurd rfl h)
theorem lc_under {G : mm_G} {d mc ms : Nat} {Q : Option Value → mm_M → Prop} {kc ks : Nat} {M : mm_M} {x y w0 s0 v0 bs L i : Nat} {xs : Nat → Int32} (hR : Rel_ x y w0 s0 v0 bs L xs M) (hL : L ≤ 3072) (hi : i + 6 ≤ L) (hk : ∀ M2 : mm_M, Rel_ x y w0 s0 v0 bs L xs M2 → wa_ 0 G jL_law (d + 10) mc ms Q kc ks M2 876 (lvL bs x y i) []) : wa_ 0 G jL_law (d + 10) mc ms Q (kc + 171) (ks + 547) M 424 (lvL bs x y i) [] := by
  obtain ⟨rS, rX, P, T, td, N, tp, pa, ar, ta, la, tl, pp, tk, pq, rP, rT, rN, rB⟩ := hR
  have c : RW_ M x y w0 s0 v0 bs L xs P T td N tp pa ar ta la tl pp tk pq := ⟨rS, rX, rP, rT, rN, rB⟩
  have hm0 := RW_mid c
  refine wa_aload_n dL_law_424 rfl rfl ?_
  refine law_rd 1 (by decide) dL_law_425 dL_law_426 dL_law_427 dL_law_428 dL_law_429 hm0.2 hi hL rfl ?_
  refine wa_callV (kc' := kc) (ks' := ks) (q := (RX10, TX10, 13)) (As := [.int (xs (i + 1))]) dL_law_430 lk_L_58 rfl rfl rS.2.1.1.1 rfl rfl (Nat.le_of_ble_eq_true rfl) (by omega) (by omega) (op_under c _ (fun rz M1 hm hop => ?_))
  refine wa_aload_n dL_law_433 rfl rfl ?_
  refine law_rd 1 (by decide) dL_law_434 dL_law_435 dL_law_436 dL_law_437 dL_law_438 hm.2 hi hL rfl ?_
  refine wa_callV (kc' := kc) (ks' := ks) (q := (RX12, TX12, 50)) (As := [.int (xs (i + 1))]) dL_law_439 lk_L_61 rfl rfl hm.1 rfl rfl (Nat.le_of_ble_eq_true rfl) (by omega) (by omega) (hop _ _ (fun M2 hr => ?_))
  exact wa_icmp_eq (tgt := 876) dL_law_442 (by decide) (fun _ => hk M2 hr) (fun h => absurd rfl h)
theorem lc_stock {G : mm_G} {d mc ms : Nat} {Q : Option Value → mm_M → Prop} {kc ks : Nat} {M : mm_M} {x y w0 s0 v0 bs L i : Nat} {xs : Nat → Int32} (hG0 : G.2.2.2.1 0 = .ref w0) (hR : Rel_ x y w0 s0 v0 bs L xs M) (hL : L ≤ 3072) (hi : i + 6 ≤ L) (hk : ∀ M2 : mm_M, Rel_ x y w0 s0 v0 bs L xs M2 → wa_ 0 G jL_law (d + 10) mc ms Q kc ks M2 876 (lvL bs x y i) []) : wa_ 0 G jL_law (d + 10) mc ms Q (kc + 171) (ks + 547) M 447 (lvL bs x y i) [] := by
  obtain ⟨rS, rX, P, T, td, N, tp, pa, ar, ta, la, tl, pp, tk, pq, rP, rT, rN, rB⟩ := hR
  have c : RW_ M x y w0 s0 v0 bs L xs P T td N tp pa ar ta la tl pp tk pq := ⟨rS, rX, rP, rT, rN, rB⟩
  have hm0 := RW_mid c
  refine wa_aload_n dL_law_447 rfl rfl ?_
  refine law_rd 1 (by decide) dL_law_448 dL_law_449 dL_law_450 dL_law_451 dL_law_452 hm0.2 hi hL rfl ?_
  refine law_rd 2 (by decide) dL_law_453 dL_law_454 dL_law_455 dL_law_456 dL_law_457 hm0.2 hi hL rfl ?_
  refine law_rd 3 (by decide) dL_law_458 dL_law_459 dL_law_460 dL_law_461 dL_law_462 hm0.2 hi hL rfl ?_
  refine wa_callV (kc' := kc) (ks' := ks) (q := (RX10, TX10, 13)) (As := [.int (xs (i + 1)), .int (xs (i + 2)), .int (xs (i + 3))]) dL_law_463 lk_L_62 rfl rfl rS.2.1.1.1 rfl rfl (Nat.le_of_ble_eq_true rfl) (by omega) (by omega) (op_stock hG0 c _ _ _ (fun rz M1 hm hop => ?_))
  refine wa_aload_n dL_law_466 rfl rfl ?_
  refine law_rd 1 (by decide) dL_law_467 dL_law_468 dL_law_469 dL_law_470 dL_law_471 hm.2 hi hL rfl ?_
  refine law_rd 2 (by decide) dL_law_472 dL_law_473 dL_law_474 dL_law_475 dL_law_476 hm.2 hi hL rfl ?_
  refine law_rd 3 (by decide) dL_law_477 dL_law_478 dL_law_479 dL_law_480 dL_law_481 hm.2 hi hL rfl ?_
  refine wa_callV (kc' := kc) (ks' := ks) (q := (RX12, TX12, 50)) (As := [.int (xs (i + 1)), .int (xs (i + 2)), .int (xs (i + 3))]) dL_law_482 lk_L_66 rfl rfl hm.1 rfl rfl (Nat.le_of_ble_eq_true rfl) (by omega) (by omega) (hop _ _ (fun M2 hr => ?_))
  exact wa_icmp_eq (tgt := 876) dL_law_485 (by decide) (fun _ => hk M2 hr) (fun h => absurd rfl h)
theorem lc_fee {G : mm_G} {d mc ms : Nat} {Q : Option Value → mm_M → Prop} {kc ks : Nat} {M : mm_M} {x y w0 s0 v0 bs L i : Nat} {xs : Nat → Int32} (hR : Rel_ x y w0 s0 v0 bs L xs M) (hL : L ≤ 3072) (hi : i + 6 ≤ L) (hk : ∀ M2 : mm_M, Rel_ x y w0 s0 v0 bs L xs M2 → wa_ 0 G jL_law (d + 10) mc ms Q kc ks M2 876 (lvL bs x y i) []) : wa_ 0 G jL_law (d + 10) mc ms Q (kc + 171) (ks + 547) M 490 (lvL bs x y i) [] := by
  obtain ⟨rS, rX, P, T, td, N, tp, pa, ar, ta, la, tl, pp, tk, pq, rP, rT, rN, rB⟩ := hR
  have c : RW_ M x y w0 s0 v0 bs L xs P T td N tp pa ar ta la tl pp tk pq := ⟨rS, rX, rP, rT, rN, rB⟩
  have hm0 := RW_mid c
  refine wa_aload_n dL_law_490 rfl rfl ?_
  refine law_rd 1 (by decide) dL_law_491 dL_law_492 dL_law_493 dL_law_494 dL_law_495 hm0.2 hi hL rfl ?_
  refine law_rd 2 (by decide) dL_law_496 dL_law_497 dL_law_498 dL_law_499 dL_law_500 hm0.2 hi hL rfl ?_
  refine law_rd 3 (by decide) dL_law_501 dL_law_502 dL_law_503 dL_law_504 dL_law_505 hm0.2 hi hL rfl ?_
  refine law_rd 4 (by decide) dL_law_506 dL_law_507 dL_law_508 dL_law_509 dL_law_510 hm0.2 hi hL rfl ?_
  refine law_rd 5 (by decide) dL_law_511 dL_law_512 dL_law_513 dL_law_514 dL_law_515 hm0.2 hi hL rfl ?_
  refine wa_callV (kc' := kc) (ks' := ks) (q := (RX10, TX10, 13)) (As := [.int (xs (i + 1)), .int (xs (i + 2)), .int (xs (i + 3)), .int (xs (i + 4)), .int (xs (i + 5))]) dL_law_516 lk_L_67 rfl rfl rS.2.1.1.1 rfl rfl (Nat.le_of_ble_eq_true rfl) (by omega) (by omega) (op_fee c _ _ _ _ _ (fun rz M1 hm hop => ?_))
  refine wa_aload_n dL_law_519 rfl rfl ?_
  refine law_rd 1 (by decide) dL_law_520 dL_law_521 dL_law_522 dL_law_523 dL_law_524 hm.2 hi hL rfl ?_
  refine law_rd 2 (by decide) dL_law_525 dL_law_526 dL_law_527 dL_law_528 dL_law_529 hm.2 hi hL rfl ?_
  refine law_rd 3 (by decide) dL_law_530 dL_law_531 dL_law_532 dL_law_533 dL_law_534 hm.2 hi hL rfl ?_
  refine law_rd 4 (by decide) dL_law_535 dL_law_536 dL_law_537 dL_law_538 dL_law_539 hm.2 hi hL rfl ?_
  refine law_rd 5 (by decide) dL_law_540 dL_law_541 dL_law_542 dL_law_543 dL_law_544 hm.2 hi hL rfl ?_
  refine wa_callV (kc' := kc) (ks' := ks) (q := (RX12, TX12, 50)) (As := [.int (xs (i + 1)), .int (xs (i + 2)), .int (xs (i + 3)), .int (xs (i + 4)), .int (xs (i + 5))]) dL_law_545 lk_L_70 rfl rfl hm.1 rfl rfl (Nat.le_of_ble_eq_true rfl) (by omega) (by omega) (hop _ _ (fun M2 hr => ?_))
  exact wa_icmp_eq (tgt := 876) dL_law_548 (by decide) (fun _ => hk M2 hr) (fun h => absurd rfl h)
theorem lc_seal {G : mm_G} {d mc ms : Nat} {Q : Option Value → mm_M → Prop} {kc ks : Nat} {M : mm_M} {x y w0 s0 v0 bs L i : Nat} {xs : Nat → Int32} (hG0 : G.2.2.2.1 0 = .ref w0) (hG1 : G.2.2.2.1 1 = .ref s0) (hG2 : G.2.2.2.1 2 = .ref v0) (hR : Rel_ x y w0 s0 v0 bs L xs M) (hL : L ≤ 3072) (hi : i + 6 ≤ L) (hk : ∀ M2 : mm_M, Rel_ x y w0 s0 v0 bs L xs M2 → wa_ 0 G jL_law (d + 10) mc ms Q kc ks M2 876 (lvL bs x y i) []) : wa_ 0 G jL_law (d + 10) mc ms Q (kc + 171) (ks + 547) M 553 (lvL bs x y i) [] := by
  obtain ⟨rS, rX, P, T, td, N, tp, pa, ar, ta, la, tl, pp, tk, pq, rP, rT, rN, rB⟩ := hR
  have c : RW_ M x y w0 s0 v0 bs L xs P T td N tp pa ar ta la tl pp tk pq := ⟨rS, rX, rP, rT, rN, rB⟩
  have hm0 := RW_mid c
  refine wa_aload_n dL_law_553 rfl rfl ?_
  refine law_rd 1 (by decide) dL_law_554 dL_law_555 dL_law_556 dL_law_557 dL_law_558 hm0.2 hi hL rfl ?_
  refine law_rd 2 (by decide) dL_law_559 dL_law_560 dL_law_561 dL_law_562 dL_law_563 hm0.2 hi hL rfl ?_
  refine law_rd 3 (by decide) dL_law_564 dL_law_565 dL_law_566 dL_law_567 dL_law_568 hm0.2 hi hL rfl ?_
  refine law_rd 4 (by decide) dL_law_569 dL_law_570 dL_law_571 dL_law_572 dL_law_573 hm0.2 hi hL rfl ?_
  refine wa_callV (kc' := kc) (ks' := ks) (q := (RX10, TX10, 13)) (As := [.int (xs (i + 1)), .int (xs (i + 2)), .int (xs (i + 3)), .int (xs (i + 4))]) dL_law_574 lk_L_71 rfl rfl rS.2.1.1.1 rfl rfl (Nat.le_of_ble_eq_true rfl) (by omega) (by omega) (op_seal hG0 hG1 hG2 c _ _ _ _ (fun rz M1 hm hop => ?_))
  refine wa_aload_n dL_law_577 rfl rfl ?_
  refine law_rd 1 (by decide) dL_law_578 dL_law_579 dL_law_580 dL_law_581 dL_law_582 hm.2 hi hL rfl ?_
  refine law_rd 2 (by decide) dL_law_583 dL_law_584 dL_law_585 dL_law_586 dL_law_587 hm.2 hi hL rfl ?_
  refine law_rd 3 (by decide) dL_law_588 dL_law_589 dL_law_590 dL_law_591 dL_law_592 hm.2 hi hL rfl ?_
  refine law_rd 4 (by decide) dL_law_593 dL_law_594 dL_law_595 dL_law_596 dL_law_597 hm.2 hi hL rfl ?_
  refine wa_callV (kc' := kc) (ks' := ks) (q := (RX12, TX12, 50)) (As := [.int (xs (i + 1)), .int (xs (i + 2)), .int (xs (i + 3)), .int (xs (i + 4))]) dL_law_598 lk_L_75 rfl rfl hm.1 rfl rfl (Nat.le_of_ble_eq_true rfl) (by omega) (by omega) (hop _ _ (fun M2 hr => ?_))
  exact wa_icmp_eq (tgt := 876) dL_law_601 (by decide) (fun _ => hk M2 hr) (fun h => absurd rfl h)
theorem lc_paper {G : mm_G} {d mc ms : Nat} {Q : Option Value → mm_M → Prop} {kc ks : Nat} {M : mm_M} {x y w0 s0 v0 bs L i : Nat} {xs : Nat → Int32} (hG0 : G.2.2.2.1 0 = .ref w0) (hR : Rel_ x y w0 s0 v0 bs L xs M) (hL : L ≤ 3072) (hi : i + 6 ≤ L) (hk : ∀ M2 : mm_M, Rel_ x y w0 s0 v0 bs L xs M2 → wa_ 0 G jL_law (d + 10) mc ms Q kc ks M2 876 (lvL bs x y i) []) : wa_ 0 G jL_law (d + 10) mc ms Q (kc + 171) (ks + 547) M 606 (lvL bs x y i) [] := by
  obtain ⟨rS, rX, P, T, td, N, tp, pa, ar, ta, la, tl, pp, tk, pq, rP, rT, rN, rB⟩ := hR
  have c : RW_ M x y w0 s0 v0 bs L xs P T td N tp pa ar ta la tl pp tk pq := ⟨rS, rX, rP, rT, rN, rB⟩
  have hm0 := RW_mid c
  refine wa_aload_n dL_law_606 rfl rfl ?_
  refine law_rd 1 (by decide) dL_law_607 dL_law_608 dL_law_609 dL_law_610 dL_law_611 hm0.2 hi hL rfl ?_
  refine law_rd 2 (by decide) dL_law_612 dL_law_613 dL_law_614 dL_law_615 dL_law_616 hm0.2 hi hL rfl ?_
  refine wa_callV (kc' := kc) (ks' := ks) (q := (RX10, TX10, 13)) (As := [.int (xs (i + 1)), .int (xs (i + 2))]) dL_law_617 lk_L_76 rfl rfl rS.2.1.1.1 rfl rfl (Nat.le_of_ble_eq_true rfl) (by omega) (by omega) (op_paper hG0 c _ _ (fun rz M1 hm hop => ?_))
  refine wa_aload_n dL_law_620 rfl rfl ?_
  refine law_rd 1 (by decide) dL_law_621 dL_law_622 dL_law_623 dL_law_624 dL_law_625 hm.2 hi hL rfl ?_
  refine law_rd 2 (by decide) dL_law_626 dL_law_627 dL_law_628 dL_law_629 dL_law_630 hm.2 hi hL rfl ?_
  refine wa_callV (kc' := kc) (ks' := ks) (q := (RX12, TX12, 50)) (As := [.int (xs (i + 1)), .int (xs (i + 2))]) dL_law_631 lk_L_79 rfl rfl hm.1 rfl rfl (Nat.le_of_ble_eq_true rfl) (by omega) (by omega) (hop _ _ (fun M2 hr => ?_))
  exact wa_icmp_eq (tgt := 876) dL_law_634 (by decide) (fun _ => hk M2 hr) (fun h => absurd rfl h)
theorem lc_stamps {G : mm_G} {d mc ms : Nat} {Q : Option Value → mm_M → Prop} {kc ks : Nat} {M : mm_M} {x y w0 s0 v0 bs L i : Nat} {xs : Nat → Int32} (hG0 : G.2.2.2.1 0 = .ref w0) (hR : Rel_ x y w0 s0 v0 bs L xs M) (hL : L ≤ 3072) (hi : i + 6 ≤ L) (hk : ∀ M2 : mm_M, Rel_ x y w0 s0 v0 bs L xs M2 → wa_ 0 G jL_law (d + 10) mc ms Q kc ks M2 876 (lvL bs x y i) []) : wa_ 0 G jL_law (d + 10) mc ms Q (kc + 171) (ks + 547) M 639 (lvL bs x y i) [] := by
  obtain ⟨rS, rX, P, T, td, N, tp, pa, ar, ta, la, tl, pp, tk, pq, rP, rT, rN, rB⟩ := hR
  have c : RW_ M x y w0 s0 v0 bs L xs P T td N tp pa ar ta la tl pp tk pq := ⟨rS, rX, rP, rT, rN, rB⟩
  have hm0 := RW_mid c
  refine wa_aload_n dL_law_639 rfl rfl ?_
  refine law_rd 1 (by decide) dL_law_640 dL_law_641 dL_law_642 dL_law_643 dL_law_644 hm0.2 hi hL rfl ?_
  refine law_rd 2 (by decide) dL_law_645 dL_law_646 dL_law_647 dL_law_648 dL_law_649 hm0.2 hi hL rfl ?_
  refine wa_callV (kc' := kc) (ks' := ks) (q := (RX10, TX10, 13)) (As := [.int (xs (i + 1)), .int (xs (i + 2))]) dL_law_650 lk_L_80 rfl rfl rS.2.1.1.1 rfl rfl (Nat.le_of_ble_eq_true rfl) (by omega) (by omega) (op_stamps hG0 c _ _ (fun rz M1 hm hop => ?_))
  refine wa_aload_n dL_law_653 rfl rfl ?_
  refine law_rd 1 (by decide) dL_law_654 dL_law_655 dL_law_656 dL_law_657 dL_law_658 hm.2 hi hL rfl ?_
  refine law_rd 2 (by decide) dL_law_659 dL_law_660 dL_law_661 dL_law_662 dL_law_663 hm.2 hi hL rfl ?_
  refine wa_callV (kc' := kc) (ks' := ks) (q := (RX12, TX12, 50)) (As := [.int (xs (i + 1)), .int (xs (i + 2))]) dL_law_664 lk_L_83 rfl rfl hm.1 rfl rfl (Nat.le_of_ble_eq_true rfl) (by omega) (by omega) (hop _ _ (fun M2 hr => ?_))
  exact wa_icmp_eq (tgt := 876) dL_law_667 (by decide) (fun _ => hk M2 hr) (fun h => absurd rfl h)
theorem lc_about {G : mm_G} {d mc ms : Nat} {Q : Option Value → mm_M → Prop} {kc ks : Nat} {M : mm_M} {x y w0 s0 v0 bs L i : Nat} {xs : Nat → Int32} (hG0 : G.2.2.2.1 0 = .ref w0) (hR : Rel_ x y w0 s0 v0 bs L xs M) (hL : L ≤ 3072) (hi : i + 6 ≤ L) (hk : ∀ M2 : mm_M, Rel_ x y w0 s0 v0 bs L xs M2 → wa_ 0 G jL_law (d + 10) mc ms Q kc ks M2 876 (lvL bs x y i) []) : wa_ 0 G jL_law (d + 10) mc ms Q (kc + 171) (ks + 547) M 672 (lvL bs x y i) [] := by
  obtain ⟨rS, rX, P, T, td, N, tp, pa, ar, ta, la, tl, pp, tk, pq, rP, rT, rN, rB⟩ := hR
  have c : RW_ M x y w0 s0 v0 bs L xs P T td N tp pa ar ta la tl pp tk pq := ⟨rS, rX, rP, rT, rN, rB⟩
  have hm0 := RW_mid c
  refine wa_aload_n dL_law_672 rfl rfl ?_
  refine law_rd 1 (by decide) dL_law_673 dL_law_674 dL_law_675 dL_law_676 dL_law_677 hm0.2 hi hL rfl ?_
  refine law_rd 2 (by decide) dL_law_678 dL_law_679 dL_law_680 dL_law_681 dL_law_682 hm0.2 hi hL rfl ?_
  refine wa_callV (kc' := kc) (ks' := ks) (q := (RX10, TX10, 13)) (As := [.int (xs (i + 1)), .int (xs (i + 2))]) dL_law_683 lk_L_84 rfl rfl rS.2.1.1.1 rfl rfl (Nat.le_of_ble_eq_true rfl) (by omega) (by omega) (op_about hG0 c _ _ (fun rz M1 hm hop => ?_))
  refine wa_aload_n dL_law_686 rfl rfl ?_
  refine law_rd 1 (by decide) dL_law_687 dL_law_688 dL_law_689 dL_law_690 dL_law_691 hm.2 hi hL rfl ?_
  refine law_rd 2 (by decide) dL_law_692 dL_law_693 dL_law_694 dL_law_695 dL_law_696 hm.2 hi hL rfl ?_
  refine wa_callV (kc' := kc) (ks' := ks) (q := (RX12, TX12, 50)) (As := [.int (xs (i + 1)), .int (xs (i + 2))]) dL_law_697 lk_L_87 rfl rfl hm.1 rfl rfl (Nat.le_of_ble_eq_true rfl) (by omega) (by omega) (hop _ _ (fun M2 hr => ?_))
  exact wa_icmp_eq (tgt := 876) dL_law_700 (by decide) (fun _ => hk M2 hr) (fun h => absurd rfl h)
theorem lc_known {G : mm_G} {d mc ms : Nat} {Q : Option Value → mm_M → Prop} {kc ks : Nat} {M : mm_M} {x y w0 s0 v0 bs L i : Nat} {xs : Nat → Int32} (hR : Rel_ x y w0 s0 v0 bs L xs M) (hL : L ≤ 3072) (hi : i + 6 ≤ L) (hk : ∀ M2 : mm_M, Rel_ x y w0 s0 v0 bs L xs M2 → wa_ 0 G jL_law (d + 10) mc ms Q kc ks M2 876 (lvL bs x y i) []) : wa_ 0 G jL_law (d + 10) mc ms Q (kc + 171) (ks + 547) M 705 (lvL bs x y i) [] := by
  obtain ⟨rS, rX, P, T, td, N, tp, pa, ar, ta, la, tl, pp, tk, pq, rP, rT, rN, rB⟩ := hR
  have c : RW_ M x y w0 s0 v0 bs L xs P T td N tp pa ar ta la tl pp tk pq := ⟨rS, rX, rP, rT, rN, rB⟩
  have hm0 := RW_mid c
  refine wa_aload_n dL_law_705 rfl rfl ?_
  refine law_rd 1 (by decide) dL_law_706 dL_law_707 dL_law_708 dL_law_709 dL_law_710 hm0.2 hi hL rfl ?_
  refine law_rd 2 (by decide) dL_law_711 dL_law_712 dL_law_713 dL_law_714 dL_law_715 hm0.2 hi hL rfl ?_
  refine wa_callV (kc' := kc) (ks' := ks) (q := (RX10, TX10, 13)) (As := [.int (xs (i + 1)), .int (xs (i + 2))]) dL_law_716 lk_L_88 rfl rfl rS.2.1.1.1 rfl rfl (Nat.le_of_ble_eq_true rfl) (by omega) (by omega) (op_known c _ _ (fun rz M1 hm hop => ?_))
  refine wa_aload_n dL_law_719 rfl rfl ?_
  refine law_rd 1 (by decide) dL_law_720 dL_law_721 dL_law_722 dL_law_723 dL_law_724 hm.2 hi hL rfl ?_
  refine law_rd 2 (by decide) dL_law_725 dL_law_726 dL_law_727 dL_law_728 dL_law_729 hm.2 hi hL rfl ?_
  refine wa_callV (kc' := kc) (ks' := ks) (q := (RX12, TX12, 50)) (As := [.int (xs (i + 1)), .int (xs (i + 2))]) dL_law_730 lk_L_91 rfl rfl hm.1 rfl rfl (Nat.le_of_ble_eq_true rfl) (by omega) (by omega) (hop _ _ (fun M2 hr => ?_))
  exact wa_icmp_eq (tgt := 876) dL_law_733 (by decide) (fun _ => hk M2 hr) (fun h => absurd rfl h)
theorem lc_sum {G : mm_G} {d mc ms : Nat} {Q : Option Value → mm_M → Prop} {kc ks : Nat} {M : mm_M} {x y w0 s0 v0 bs L i : Nat} {xs : Nat → Int32} (hR : Rel_ x y w0 s0 v0 bs L xs M) (hL : L ≤ 3072) (hi : i + 6 ≤ L) (hk : ∀ M2 : mm_M, Rel_ x y w0 s0 v0 bs L xs M2 → wa_ 0 G jL_law (d + 10) mc ms Q kc ks M2 876 (lvL bs x y i) []) : wa_ 0 G jL_law (d + 10) mc ms Q (kc + 171) (ks + 547) M 738 (lvL bs x y i) [] := by
  obtain ⟨rS, rX, P, T, td, N, tp, pa, ar, ta, la, tl, pp, tk, pq, rP, rT, rN, rB⟩ := hR
  have c : RW_ M x y w0 s0 v0 bs L xs P T td N tp pa ar ta la tl pp tk pq := ⟨rS, rX, rP, rT, rN, rB⟩
  have hm0 := RW_mid c
  refine wa_aload_n dL_law_738 rfl rfl ?_
  refine law_rd 1 (by decide) dL_law_739 dL_law_740 dL_law_741 dL_law_742 dL_law_743 hm0.2 hi hL rfl ?_
  refine law_rd 2 (by decide) dL_law_744 dL_law_745 dL_law_746 dL_law_747 dL_law_748 hm0.2 hi hL rfl ?_
  refine wa_callV (kc' := kc) (ks' := ks) (q := (RX10, TX10, 13)) (As := [.int (xs (i + 1)), .int (xs (i + 2))]) dL_law_749 lk_L_92 rfl rfl rS.2.1.1.1 rfl rfl (Nat.le_of_ble_eq_true rfl) (by omega) (by omega) (op_sum c _ _ (fun rz M1 hm hop => ?_))
  refine wa_aload_n dL_law_752 rfl rfl ?_
  refine law_rd 1 (by decide) dL_law_753 dL_law_754 dL_law_755 dL_law_756 dL_law_757 hm.2 hi hL rfl ?_
  refine law_rd 2 (by decide) dL_law_758 dL_law_759 dL_law_760 dL_law_761 dL_law_762 hm.2 hi hL rfl ?_
  refine wa_callV (kc' := kc) (ks' := ks) (q := (RX12, TX12, 50)) (As := [.int (xs (i + 1)), .int (xs (i + 2))]) dL_law_763 lk_L_95 rfl rfl hm.1 rfl rfl (Nat.le_of_ble_eq_true rfl) (by omega) (by omega) (hop _ _ (fun M2 hr => ?_))
  exact wa_icmp_eq (tgt := 876) dL_law_766 (by decide) (fun _ => hk M2 hr) (fun h => absurd rfl h)
theorem lc_homes {G : mm_G} {d mc ms : Nat} {Q : Option Value → mm_M → Prop} {kc ks : Nat} {M : mm_M} {x y w0 s0 v0 bs L i : Nat} {xs : Nat → Int32} (hR : Rel_ x y w0 s0 v0 bs L xs M) (hL : L ≤ 3072) (hi : i + 6 ≤ L) (hk : ∀ M2 : mm_M, Rel_ x y w0 s0 v0 bs L xs M2 → wa_ 0 G jL_law (d + 10) mc ms Q kc ks M2 876 (lvL bs x y i) []) : wa_ 0 G jL_law (d + 10) mc ms Q (kc + 171) (ks + 547) M 771 (lvL bs x y i) [] := by
  obtain ⟨rS, rX, P, T, td, N, tp, pa, ar, ta, la, tl, pp, tk, pq, rP, rT, rN, rB⟩ := hR
  have c : RW_ M x y w0 s0 v0 bs L xs P T td N tp pa ar ta la tl pp tk pq := ⟨rS, rX, rP, rT, rN, rB⟩
  have hm0 := RW_mid c
  refine wa_aload_n dL_law_771 rfl rfl ?_
  refine law_rd 1 (by decide) dL_law_772 dL_law_773 dL_law_774 dL_law_775 dL_law_776 hm0.2 hi hL rfl ?_
  refine wa_callV (kc' := kc) (ks' := ks) (q := (RX10, TX10, 13)) (As := [.int (xs (i + 1))]) dL_law_777 lk_L_96 rfl rfl rS.2.1.1.1 rfl rfl (Nat.le_of_ble_eq_true rfl) (by omega) (by omega) (op_homes c _ (fun rz M1 hm hop => ?_))
  refine wa_aload_n dL_law_780 rfl rfl ?_
  refine law_rd 1 (by decide) dL_law_781 dL_law_782 dL_law_783 dL_law_784 dL_law_785 hm.2 hi hL rfl ?_
  refine wa_callV (kc' := kc) (ks' := ks) (q := (RX12, TX12, 50)) (As := [.int (xs (i + 1))]) dL_law_786 lk_L_99 rfl rfl hm.1 rfl rfl (Nat.le_of_ble_eq_true rfl) (by omega) (by omega) (hop _ _ (fun M2 hr => ?_))
  exact wa_icmp_eq (tgt := 876) dL_law_789 (by decide) (fun _ => hk M2 hr) (fun h => absurd rfl h)
theorem lc_difference {G : mm_G} {d mc ms : Nat} {Q : Option Value → mm_M → Prop} {kc ks : Nat} {M : mm_M} {x y w0 s0 v0 bs L i : Nat} {xs : Nat → Int32} (hR : Rel_ x y w0 s0 v0 bs L xs M) (hL : L ≤ 3072) (hi : i + 6 ≤ L) (hk : ∀ M2 : mm_M, Rel_ x y w0 s0 v0 bs L xs M2 → wa_ 0 G jL_law (d + 10) mc ms Q kc ks M2 876 (lvL bs x y i) []) : wa_ 0 G jL_law (d + 10) mc ms Q (kc + 171) (ks + 547) M 794 (lvL bs x y i) [] := by
  obtain ⟨rS, rX, P, T, td, N, tp, pa, ar, ta, la, tl, pp, tk, pq, rP, rT, rN, rB⟩ := hR
  have c : RW_ M x y w0 s0 v0 bs L xs P T td N tp pa ar ta la tl pp tk pq := ⟨rS, rX, rP, rT, rN, rB⟩
  have hm0 := RW_mid c
  refine wa_aload_n dL_law_794 rfl rfl ?_
  refine law_rd 1 (by decide) dL_law_795 dL_law_796 dL_law_797 dL_law_798 dL_law_799 hm0.2 hi hL rfl ?_
  refine wa_callV (kc' := kc) (ks' := ks) (q := (RX10, TX10, 13)) (As := [.int (xs (i + 1))]) dL_law_800 lk_L_100 rfl rfl rS.2.1.1.1 rfl rfl (Nat.le_of_ble_eq_true rfl) (by omega) (by omega) (op_difference c _ (fun rz M1 hm hop => ?_))
  refine wa_aload_n dL_law_803 rfl rfl ?_
  refine law_rd 1 (by decide) dL_law_804 dL_law_805 dL_law_806 dL_law_807 dL_law_808 hm.2 hi hL rfl ?_
  refine wa_callV (kc' := kc) (ks' := ks) (q := (RX12, TX12, 50)) (As := [.int (xs (i + 1))]) dL_law_809 lk_L_103 rfl rfl hm.1 rfl rfl (Nat.le_of_ble_eq_true rfl) (by omega) (by omega) (hop _ _ (fun M2 hr => ?_))
  exact wa_icmp_eq (tgt := 876) dL_law_812 (by decide) (fun _ => hk M2 hr) (fun h => absurd rfl h)
theorem lc_unlike {G : mm_G} {d mc ms : Nat} {Q : Option Value → mm_M → Prop} {kc ks : Nat} {M : mm_M} {x y w0 s0 v0 bs L i : Nat} {xs : Nat → Int32} (hR : Rel_ x y w0 s0 v0 bs L xs M) (hL : L ≤ 3072) (hi : i + 6 ≤ L) (hk : ∀ M2 : mm_M, Rel_ x y w0 s0 v0 bs L xs M2 → wa_ 0 G jL_law (d + 10) mc ms Q kc ks M2 876 (lvL bs x y i) []) : wa_ 0 G jL_law (d + 10) mc ms Q (kc + 171) (ks + 547) M 817 (lvL bs x y i) [] := by
  obtain ⟨rS, rX, P, T, td, N, tp, pa, ar, ta, la, tl, pp, tk, pq, rP, rT, rN, rB⟩ := hR
  have c : RW_ M x y w0 s0 v0 bs L xs P T td N tp pa ar ta la tl pp tk pq := ⟨rS, rX, rP, rT, rN, rB⟩
  have hm0 := RW_mid c
  refine wa_aload_n dL_law_817 rfl rfl ?_
  refine law_rd 1 (by decide) dL_law_818 dL_law_819 dL_law_820 dL_law_821 dL_law_822 hm0.2 hi hL rfl ?_
  refine wa_callV (kc' := kc) (ks' := ks) (q := (RX10, TX10, 13)) (As := [.int (xs (i + 1))]) dL_law_823 lk_L_104 rfl rfl rS.2.1.1.1 rfl rfl (Nat.le_of_ble_eq_true rfl) (by omega) (by omega) (op_unlike c _ (fun rz M1 hm hop => ?_))
  refine wa_aload_n dL_law_826 rfl rfl ?_
  refine law_rd 1 (by decide) dL_law_827 dL_law_828 dL_law_829 dL_law_830 dL_law_831 hm.2 hi hL rfl ?_
  refine wa_callV (kc' := kc) (ks' := ks) (q := (RX12, TX12, 50)) (As := [.int (xs (i + 1))]) dL_law_832 lk_L_107 rfl rfl hm.1 rfl rfl (Nat.le_of_ble_eq_true rfl) (by omega) (by omega) (hop _ _ (fun M2 hr => ?_))
  exact wa_icmp_eq (tgt := 876) dL_law_835 (by decide) (fun _ => hk M2 hr) (fun h => absurd rfl h)
theorem lc_count {G : mm_G} {d mc ms : Nat} {Q : Option Value → mm_M → Prop} {kc ks : Nat} {M : mm_M} {x y w0 s0 v0 bs L i : Nat} {xs : Nat → Int32} (hR : Rel_ x y w0 s0 v0 bs L xs M) (hL : L ≤ 3072) (hi : i + 6 ≤ L) (hk : ∀ M2 : mm_M, Rel_ x y w0 s0 v0 bs L xs M2 → wa_ 0 G jL_law (d + 10) mc ms Q kc ks M2 876 (lvL bs x y i) []) : wa_ 0 G jL_law (d + 10) mc ms Q (kc + 171) (ks + 547) M 840 (lvL bs x y i) [] := by
  obtain ⟨rS, rX, P, T, td, N, tp, pa, ar, ta, la, tl, pp, tk, pq, rP, rT, rN, rB⟩ := hR
  have c : RW_ M x y w0 s0 v0 bs L xs P T td N tp pa ar ta la tl pp tk pq := ⟨rS, rX, rP, rT, rN, rB⟩
  have hm0 := RW_mid c
  refine wa_aload_n dL_law_840 rfl rfl ?_
  refine law_rd 1 (by decide) dL_law_841 dL_law_842 dL_law_843 dL_law_844 dL_law_845 hm0.2 hi hL rfl ?_
  refine wa_callV (kc' := kc) (ks' := ks) (q := (RX10, TX10, 13)) (As := [.int (xs (i + 1))]) dL_law_846 lk_L_108 rfl rfl rS.2.1.1.1 rfl rfl (Nat.le_of_ble_eq_true rfl) (by omega) (by omega) (op_count c _ (fun rz M1 hm hop => ?_))
  refine wa_aload_n dL_law_849 rfl rfl ?_
  refine law_rd 1 (by decide) dL_law_850 dL_law_851 dL_law_852 dL_law_853 dL_law_854 hm.2 hi hL rfl ?_
  refine wa_callV (kc' := kc) (ks' := ks) (q := (RX12, TX12, 50)) (As := [.int (xs (i + 1))]) dL_law_855 lk_L_111 rfl rfl hm.1 rfl rfl (Nat.le_of_ble_eq_true rfl) (by omega) (by omega) (hop _ _ (fun M2 hr => ?_))
  exact wa_icmp_eq (tgt := 876) dL_law_858 (by decide) (fun _ => hk M2 hr) (fun h => absurd rfl h)
theorem lc_trouble {G : mm_G} {d mc ms : Nat} {Q : Option Value → mm_M → Prop} {kc ks : Nat} {M : mm_M} {x y w0 s0 v0 bs L i : Nat} {xs : Nat → Int32} (hR : Rel_ x y w0 s0 v0 bs L xs M) (hL : L ≤ 3072) (hi : i + 6 ≤ L) (hk : ∀ M2 : mm_M, Rel_ x y w0 s0 v0 bs L xs M2 → wa_ 0 G jL_law (d + 10) mc ms Q kc ks M2 876 (lvL bs x y i) []) : wa_ 0 G jL_law (d + 10) mc ms Q (kc + 171) (ks + 547) M 863 (lvL bs x y i) [] := by
  obtain ⟨rS, rX, P, T, td, N, tp, pa, ar, ta, la, tl, pp, tk, pq, rP, rT, rN, rB⟩ := hR
  have c : RW_ M x y w0 s0 v0 bs L xs P T td N tp pa ar ta la tl pp tk pq := ⟨rS, rX, rP, rT, rN, rB⟩
  have hm0 := RW_mid c
  refine wa_aload_n dL_law_863 rfl rfl ?_
  refine wa_callV (kc' := kc) (ks' := ks) (q := (RX10, TX10, 13)) (As := []) dL_law_864 lk_L_112 rfl rfl rS.2.1.1.1 rfl rfl (Nat.le_of_ble_eq_true rfl) (by omega) (by omega) (op_trouble c (fun rz M1 hm hop => ?_))
  refine wa_aload_n dL_law_867 rfl rfl ?_
  refine wa_callV (kc' := kc) (ks' := ks) (q := (RX12, TX12, 50)) (As := []) dL_law_868 lk_L_115 rfl rfl hm.1 rfl rfl (Nat.le_of_ble_eq_true rfl) (by omega) (by omega) (hop _ _ (fun M2 hr => ?_))
  exact wa_icmp_eq (tgt := 876) dL_law_871 (by decide) (fun _ => hk M2 hr) (fun h => absurd rfl h)
