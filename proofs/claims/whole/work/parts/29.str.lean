/-! the texts: their rows, and what String does with them -/
def mm_ch (k i : Nat) : Int32 := (mm_tx.getD k []).getD i 0
def mm_ln (k : Nat) : Nat := mm_tl.getD k 0
theorem mm_ch_c : ∀ k, k < 9 → ∀ i, i < 7 → ((mm_ch k i &&& 255).toUInt32 % 65536).toInt32 = mm_ch k i := by decide +kernel
theorem mm_ch_n : ∀ k, k < 9 → ∀ i, i < 7 → narrow .char (.int (mm_ch k i)) = .int (mm_ch k i) := by decide +kernel
theorem mm_ln_le : ∀ k, k < 9 → mm_ln k ≤ 7 := by decide +kernel
theorem mm_ln_s : ∀ k, k < 9 → Int32.ofNat (mm_ln k) >>> ((0 : Int32) &&& 31) = nI (mm_ln k) := by decide +kernel
theorem mm_ch_b : ∀ b, b < 256 → ∀ j, j < 7 → (mm_ch 8 j = (nI b).toInt8.toInt32 ↔ mm_ch 8 j = nI b) := by decide +kernel
section STRROWS
variable {fl : Nat} {G : mm_G} {J : mm_J} {d mc ms kc ks : Nat} {Q : Option Value → mm_M → Prop} {M : mm_M} {pc : Nat} {lv : List (Option Value)} {st : List Value}
theorem wa_getSV {k : Nat} (hJ : J.1.cls = RJ0) (hd : decode J.2.1 pc = .ok (.getfield 9, 3)) (hk : k < 9) (kk : wa_ fl G J d mc ms Q kc ks M (pc + 3) lv (.ref (G.2.2.2.2.2 k) :: st)) : wa_ fl G J d mc ms Q kc ks M pc lv (.ref (G.2.2.2.2.1 k) :: st) := by
  intro p l e R s m args below meth c H locs cells slots ls C hok hS hc hs hl
  exact vk_getf C.1.1 C.1.2.1 ((C.2.2.2.2.2.1.2.1 k hk).2.2.1) hS C.1.2.2.2.1 (by rw [hJ]; exact C.1.2.2.2.2 _ wz_J0_9) (fun _ h => h) hd (kk p l e R s m args below meth c H locs cells slots ls C hok hS hc hs hl)
theorem wa_getSC {k : Nat} (hJ : J.1.cls = RJ0) (hd : decode J.2.1 pc = .ok (.getfield 15, 3)) (hk : k < 9) (kk : wa_ fl G J d mc ms Q kc ks M (pc + 3) lv (.int 0 :: st)) : wa_ fl G J d mc ms Q kc ks M pc lv (.ref (G.2.2.2.2.1 k) :: st) := by
  intro p l e R s m args below meth c H locs cells slots ls C hok hS hc hs hl
  exact vk_getf C.1.1 C.1.2.1 ((C.2.2.2.2.2.1.2.1 k hk).2.1) hS C.1.2.2.2.1 (by rw [hJ]; exact C.1.2.2.2.2 _ wz_J0_15) (fun _ h => h) hd (kk p l e R s m args below meth c H locs cells slots ls C hok hS hc hs hl)
theorem wa_alenS {k : Nat} (hd : decode J.2.1 pc = .ok (.arraylength, 1)) (hk : k < 9) (kk : wa_ fl G J d mc ms Q kc ks M (pc + 1) lv (.int (Int32.ofNat (mm_ln k)) :: st)) : wa_ fl G J d mc ms Q kc ks M pc lv (.ref (G.2.2.2.2.2 k) :: st) := by
  intro p l e R s m args below meth c H locs cells slots ls C hok hS hc hs hl
  obtain ⟨cell, h1, h2, -, -, h5, -⟩ := ((C.2.2.2.2.2.1.2.1 k hk).2.2.2).kept hS.2.1
  exact W.alen (n := Int32.ofNat (mm_ln k)) C.1.1 C.1.2.1 h1 h2 h5 rfl rfl hd (kk p l e R s m args below meth c H locs cells slots ls C hok hS hc hs hl)
theorem wa_baldS {k j : Nat} (hd : decode J.2.1 pc = .ok (.baload, 1)) (hk : k < 9) (hj : j < mm_ln k) (kk : wa_ fl G J d mc ms Q kc ks M (pc + 1) lv (.int (mm_ch k j) :: st)) : wa_ fl G J d mc ms Q kc ks M pc lv (.int (nI j) :: .ref (G.2.2.2.2.2 k) :: st) := by
  intro p l e R s m args below meth c H locs cells slots ls C hok hS hc hs hl
  have h7 := mm_ln_le k hk
  have ej : (nI j).toNatClampNeg = j := nI_clamp (by omega)
  have hin : vp_in (nI j) (mm_ln k) := by
    rintro (h | h)
    · exact absurd h (nI_pos (by omega))
    · rw [ej] at h; omega
  exact va_tb C.1.1 C.1.2.1 ((C.2.2.2.2.2.1.2.1 k hk).2.2.2) hS hin (by rw [ej]; rfl) hd (kk p l e R s m args below meth c H locs cells slots ls C hok hS hc hs hl)
theorem wa_callVS {J2 : mm_J} {d2 mc2 ms2 i n k : Nat} {As rest st0 : List Value} {kc' ks' : Nat} (hd : decode J.2.1 pc = .ok (.invokevirtual i, 3)) (hL : lk_V J.1.cls i J2 n) (hn : As.length = n) (hst : st0 = As.reverse ++ .ref (G.2.2.2.2.1 k) :: rest) (hk : k < 9) (hcls : J2.1.cls = "java/lang/String") (hcat : (rest.map fun v => v.category).sum ≤ 8) (h1 : mc2 + kc' ≤ kc) (h2 : ms2 + ks' ≤ ks)
    (hM : ma_ G J2 d2 mc2 ms2 (.ref (G.2.2.2.2.1 k) :: As) M (fun o M' => wa_ fl G J (d2 + 1) mc ms Q kc' ks' M' (pc + 3) lv (mm_res o rest))) : wa_ fl G J (d2 + 1) mc ms Q kc ks M pc lv st0 := by
  intro p l e R s m args below meth c H locs cells slots ls C hok hS hc hs' hl
  obtain ⟨⟨w1, w2, w3, w4, w5⟩, w6, w7⟩ := hL
  have hR := C.2.2.2.2.2.2.2
  have hts := C.1.2.2.2.2
  obtain ⟨cell, g1, g2, g3⟩ := vk_recv C.2.2.2.2.2.1.2 hk hS
  have hcb : CallB R s args J.1.cls i J2.1 J2.2.1 J2.2.2.1 J2.2.2.2 (mm_ws J2) (mm_rm d2 mc2 ms2) mc2 ms2 n := callB_of (Ts := gt_ws) n hts (mm_good w2) rfl rfl rfl (hts _ w3) (hts _ w1) w4 ⟨by show d2 + 1 ≤ _; omega, by show 8 + (J2.2.2.1 + 11) + 80 * d2 ≤ _; omega⟩
  refine mm_call (va_runV (C := J2.1.cls) (As := As) (rest := rest) (b := G.2.2.2.2.1 k) C.1 (hM l) ⟨hcb, hts _ w6, hts _ w7⟩ ⟨mm_blind G M _, ⟨cell, g1, g2, by rw [hcls]; exact g3⟩, mm_enter C hok hS (.ref (G.2.2.2.2.1 k) :: As)⟩ rfl hn hl.1 hst (mm_cat hcat) hd ⟨by omega, by omega⟩) hS ?_
  intro o M' H1 locs1 hQ hok1 hS1
  exact hQ p l e R s m args below meth c H1 locs1 _ _ ls C hok1 hS1 (by omega) (by omega) hl
end STRROWS

theorem k_coder {G : mm_G} {d : Nat} {Q : Option Value → mm_M → Prop} {M : mm_M} (k : Nat) (hcs : G.2.2.2.1 3 = .int 1) (hk : k < 9) (hQ : Q (some (.int 0)) M) : ma_ G jJ0_coder_7d493 d 0 0 [.ref (G.2.2.2.2.1 k)] M Q := by
  refine ma_ofF [some (.ref (G.2.2.2.2.1 k))] (by decide +kernel) rfl (Nat.le_of_ble_eq_true rfl) ?_
  refine wa_gets (k := 3) dJ0_coder_7d493_0 rfl wz_J0_38 hcs ?_
  refine wa_if_eq (tgt := 13) dJ0_coder_7d493_3 (by decide) (fun h9 => absurd h9 (by decide)) (fun _ => ?_)
  refine wa_aload_n dJ0_coder_7d493_6 rfl rfl ?_
  refine wa_getSC rfl dJ0_coder_7d493_7 hk ?_
  refine wa_goto (tgt := 14) dJ0_coder_7d493_10 (by decide) ?_
  exact wa_zret dJ0_coder_7d493_14 rfl rfl (hQ)

theorem k_isL1 {G : mm_G} {d : Nat} {Q : Option Value → mm_M → Prop} {M : mm_M} (k : Nat) (hcs : G.2.2.2.1 3 = .int 1) (hk : k < 9) (hQ : Q (some (.int 1)) M) : ma_ G jJ0_isLatin1_aae02 d 0 0 [.ref (G.2.2.2.2.1 k)] M Q := by
  refine ma_ofF [some (.ref (G.2.2.2.2.1 k))] (by decide +kernel) rfl (Nat.le_of_ble_eq_true rfl) ?_
  refine wa_gets (k := 3) dJ0_isLatin1_aae02_0 rfl wz_J0_38 hcs ?_
  refine wa_if_eq (tgt := 17) dJ0_isLatin1_aae02_3 (by decide) (fun h9 => absurd h9 (by decide)) (fun _ => ?_)
  refine wa_aload_n dJ0_isLatin1_aae02_6 rfl rfl ?_
  refine wa_getSC rfl dJ0_isLatin1_aae02_7 hk ?_
  refine wa_if_ne (tgt := 17) dJ0_isLatin1_aae02_10 (by decide) (fun h9 => absurd h9 (by decide)) (fun _ => ?_)
  refine wa_iconst (v := 1) dJ0_isLatin1_aae02_13 (by decide) ?_
  refine wa_goto (tgt := 18) dJ0_isLatin1_aae02_14 (by decide) ?_
  exact wa_zret dJ0_isLatin1_aae02_18 rfl rfl (hQ)

theorem k_len {G : mm_G} {d : Nat} {Q : Option Value → mm_M → Prop} {M : mm_M} (k : Nat) (hcs : G.2.2.2.1 3 = .int 1) (hk : k < 9) (hQ : Q (some (.int (nI (mm_ln k)))) M) : ma_ G jJ0_length_8abf5 (d + 1) 0 0 [.ref (G.2.2.2.2.1 k)] M Q := by
  refine ma_ofF [some (.ref (G.2.2.2.2.1 k))] (by decide +kernel) rfl (Nat.le_of_ble_eq_true rfl) ?_
  refine wa_aload_n dJ0_length_8abf5_0 rfl rfl ?_
  refine wa_getSV rfl dJ0_length_8abf5_1 hk ?_
  refine wa_alenS dJ0_length_8abf5_4 hk ?_
  refine wa_aload_n dJ0_length_8abf5_5 rfl rfl ?_
  refine wa_callVS (As := []) dJ0_length_8abf5_6 lk_J0_335 rfl rfl hk rfl (Nat.le_of_ble_eq_true rfl) (Nat.le_of_eq (Nat.zero_add _)) (Nat.le_of_eq (Nat.zero_add _)) (k_coder k hcs hk ?_)
  refine wa_ishr dJ0_length_8abf5_9 ?_
  exact wa_iret dJ0_length_8abf5_10 rfl (by rw [mm_ln_s k hk]; exact hQ)

theorem dJ3_checkIndex_8e157_0 : decode cJ3_checkIndex_8e157 0 = .ok (.iload_n 0, 1) := by decide +kernel
theorem dJ3_checkIndex_8e157_1 : decode cJ3_checkIndex_8e157 1 = .ok (.ifCond .lt 8, 3) := by decide +kernel
theorem dJ3_checkIndex_8e157_4 : decode cJ3_checkIndex_8e157 4 = .ok (.iload_n 0, 1) := by decide +kernel
theorem dJ3_checkIndex_8e157_5 : decode cJ3_checkIndex_8e157 5 = .ok (.iload_n 1, 1) := by decide +kernel
theorem dJ3_checkIndex_8e157_6 : decode cJ3_checkIndex_8e157 6 = .ok (.if_icmp .lt 10, 3) := by decide +kernel
theorem dJ3_checkIndex_8e157_9 : decode cJ3_checkIndex_8e157 9 = .ok (.aload_n 2, 1) := by decide +kernel
theorem dJ3_checkIndex_8e157_10 : decode cJ3_checkIndex_8e157 10 = .ok (.iload_n 0, 1) := by decide +kernel
theorem dJ3_checkIndex_8e157_11 : decode cJ3_checkIndex_8e157 11 = .ok (.iload_n 1, 1) := by decide +kernel
theorem dJ3_checkIndex_8e157_12 : decode cJ3_checkIndex_8e157 12 = .ok (.invokestatic 95, 3) := by decide +kernel
theorem dJ3_checkIndex_8e157_15 : decode cJ3_checkIndex_8e157 15 = .ok (.athrow, 1) := by decide +kernel
theorem dJ3_checkIndex_8e157_16 : decode cJ3_checkIndex_8e157 16 = .ok (.iload_n 0, 1) := by decide +kernel
theorem dJ3_checkIndex_8e157_17 : decode cJ3_checkIndex_8e157 17 = .ok (.ireturn, 1) := by decide +kernel

/-- a static of which only is known that it holds a reference or null: 0 stands for null -/
def va_rn (f : Nat) : Value := match f with
  | 0 => .null
  | n + 1 => .ref n
def rn_o (f : Nat) : Option Nat := match f with
  | 0 => none
  | n + 1 => some n
theorem k_pci {G : mm_G} {d : Nat} {Q : Option Value → mm_M → Prop} {M : mm_M} (i n f : Nat) (hi : i < n) (hn : n ≤ 1000) (hQ : Q (some (.int (nI i))) M) : ma_ G jJ3_checkIndex_8e157 d 0 0 [.int (nI i), .int (nI n), va_rn f] M Q := by
  have key : ∀ v : Value, mm_pl [some (.int (nI i)), some (.int (nI n)), some v] = lv_args 0 [.int (nI i), .int (nI n), v] → (lg_sl [.int (nI i), .int (nI n), v]).length ≤ jJ3_checkIndex_8e157.2.2.1 → ma_ G jJ3_checkIndex_8e157 d 0 0 [.int (nI i), .int (nI n), v] M Q := by
    intro v e1 e2
    refine ma_ofF [some (.int (nI i)), some (.int (nI n)), some v] (by decide +kernel) e1 e2 ?_
    refine wa_iload_n dJ3_checkIndex_8e157_0 rfl ?_
    refine wa_if_lt (tgt := 9) dJ3_checkIndex_8e157_1 (by decide) (fun hT1 => absurd hT1 (nI_pos (by omega))) (fun hF1 => ?_)
    refine wa_iload_n dJ3_checkIndex_8e157_4 rfl ?_
    refine wa_iload_n dJ3_checkIndex_8e157_5 rfl ?_
    refine wa_icmp_lt (tgt := 16) dJ3_checkIndex_8e157_6 (by decide) (fun hT6 => ?_) (fun hF6 => absurd hF6 (fun h => h ((nI_ltI (by omega) (by omega)).mpr hi)))
    refine wa_iload_n dJ3_checkIndex_8e157_16 rfl ?_
    exact wa_iret dJ3_checkIndex_8e157_17 rfl (hQ)
  cases f with
  | zero => exact key .null rfl (Nat.le_of_ble_eq_true rfl)
  | succ f => exact key (.ref f) rfl (Nat.le_of_ble_eq_true rfl)

theorem k_sci {G : mm_G} {d : Nat} {Q : Option Value → mm_M → Prop} {M : mm_M} (i n f : Nat) (hsf : G.2.2.2.1 6 = va_rn f) (hi : i < n) (hn : n ≤ 1000) (hQ : Q none M) : ma_ G jJ0_checkIndex_df160 (d + 1) 0 0 [.int (nI i), .int (nI n)] M Q := by
  refine ma_ofF [some (.int (nI i)), some (.int (nI n))] (by decide +kernel) rfl (Nat.le_of_ble_eq_true rfl) ?_
  refine wa_iload_n dJ0_checkIndex_df160_0 rfl ?_
  refine wa_iload_n dJ0_checkIndex_df160_1 rfl ?_
  refine wa_gets (k := 6) dJ0_checkIndex_df160_2 rfl wz_J0_1053 hsf ?_
  refine wa_callS (As := [.int (nI i), .int (nI n), va_rn f]) dJ0_checkIndex_df160_5 lk_J0_1059 rfl rfl (Nat.le_of_ble_eq_true rfl) (Nat.le_of_eq (Nat.zero_add _)) (Nat.le_of_eq (Nat.zero_add _)) (k_pci i n f hi hn ?_)
  refine wa_pop dJ0_checkIndex_df160_8 rfl ?_
  exact wa_vret dJ0_checkIndex_df160_9 rfl (hQ)

theorem k_lch {G : mm_G} {d : Nat} {Q : Option Value → mm_M → Prop} {M : mm_M} (k i f : Nat) (hk : k < 9) (hsf : G.2.2.2.1 6 = va_rn f) (hi : i < mm_ln k) (hQ : Q (some (.int (mm_ch k i))) M) : ma_ G jJ1_charAt_3b067 (d + 2) 0 0 [.ref (G.2.2.2.2.2 k), .int (nI i)] M Q := by
  refine ma_ofF [some (.ref (G.2.2.2.2.2 k)), some (.int (nI i))] (by decide +kernel) rfl (Nat.le_of_ble_eq_true rfl) ?_
  have h7 := mm_ln_le k hk
  refine wa_iload_n dJ1_charAt_3b067_0 rfl ?_
  refine wa_aload_n dJ1_charAt_3b067_1 rfl rfl ?_
  refine wa_alenS dJ1_charAt_3b067_2 hk ?_
  show wa_ _ _ _ _ _ _ _ _ _ _ _ _ (.int (nI (mm_ln k)) :: _)
  refine wa_callS (As := [.int (nI i), .int (nI (mm_ln k))]) dJ1_charAt_3b067_3 lk_J1_9 rfl rfl (Nat.le_of_ble_eq_true rfl) (Nat.le_of_eq (Nat.zero_add _)) (Nat.le_of_eq (Nat.zero_add _)) (k_sci i (mm_ln k) f hsf hi (by omega) ?_)
  refine wa_aload_n dJ1_charAt_3b067_6 rfl rfl ?_
  refine wa_iload_n dJ1_charAt_3b067_7 rfl ?_
  refine wa_baldS dJ1_charAt_3b067_8 hk hi ?_
  refine wa_sipush (v := 255) dJ1_charAt_3b067_9 (by decide) ?_
  refine wa_iand dJ1_charAt_3b067_12 ?_
  refine wa_i2c dJ1_charAt_3b067_13 ?_
  rw [mm_ch_c k hk i (by omega)]
  exact wa_zret dJ1_charAt_3b067_14 rfl (mm_ch_n k hk i (by omega)) (hQ)

theorem k_chr {G : mm_G} {d : Nat} {Q : Option Value → mm_M → Prop} {M : mm_M} (k i f : Nat) (hcs : G.2.2.2.1 3 = .int 1) (hk : k < 9) (hsf : G.2.2.2.1 6 = va_rn f) (hi : i < mm_ln k) (hQ : Q (some (.int (mm_ch k i))) M) : ma_ G jJ0_charAt_5068e (d + 3) 0 0 [.ref (G.2.2.2.2.1 k), .int (nI i)] M Q := by
  refine ma_ofF [some (.ref (G.2.2.2.2.1 k)), some (.int (nI i))] (by decide +kernel) rfl (Nat.le_of_ble_eq_true rfl) ?_
  have h7 := mm_ln_le k hk
  refine wa_aload_n dJ0_charAt_5068e_0 rfl rfl ?_
  refine wa_callVS (As := []) dJ0_charAt_5068e_1 lk_J0_492 rfl rfl hk rfl (Nat.le_of_ble_eq_true rfl) (Nat.le_of_eq (Nat.zero_add _)) (Nat.le_of_eq (Nat.zero_add _)) (k_isL1 k hcs hk ?_)
  refine wa_if_eq (tgt := 16) dJ0_charAt_5068e_4 (by decide) (fun h9 => absurd h9 (by decide)) (fun _ => ?_)
  refine wa_aload_n dJ0_charAt_5068e_7 rfl rfl ?_
  refine wa_getSV rfl dJ0_charAt_5068e_8 hk ?_
  refine wa_iload_n dJ0_charAt_5068e_11 rfl ?_
  refine wa_callS (As := [.ref (G.2.2.2.2.2 k), .int (nI i)]) dJ0_charAt_5068e_12 lk_J0_495 rfl rfl (Nat.le_of_ble_eq_true rfl) (Nat.le_of_eq (Nat.zero_add _)) (Nat.le_of_eq (Nat.zero_add _)) (k_lch k i f hk hsf hi ?_)
  exact wa_zret dJ0_charAt_5068e_15 rfl (mm_ch_n k hk i (by omega)) (hQ)

theorem k_ioc {G : mm_G} {d : Nat} {Q : Option Value → mm_M → Prop} {M : mm_M} (b : Nat) (hb : b < 256) (h1 : ∀ j : Nat, j < 7 → mm_ch 8 j = nI b → Q (some (.int (nI j))) M) (h0 : (∀ j : Nat, j < 7 → ¬ mm_ch 8 j = nI b) → Q (some (.int (-1))) M) : ma_ G jJ1_indexOfChar_4cfef d 0 0 [.ref (G.2.2.2.2.2 8), .int (nI b), .int 0, .int (nI 7)] M Q := by
  refine ma_ofF [some (.ref (G.2.2.2.2.2 8)), some (.int (nI b)), some (.int 0), some (.int (nI 7)), none, none] (by decide +kernel) rfl (Nat.le_of_ble_eq_true rfl) ?_
  have lp : ∀ (r i : Nat), 7 - i = r → i ≤ 7 → (∀ j : Nat, j < i → ¬ mm_ch 8 j = nI b) → wa_ 0 G jJ1_indexOfChar_4cfef d 0 0 Q 0 0 M 7 [some (.ref (G.2.2.2.2.2 8)), some (.int (nI b)), some (.int 0), some (.int (nI 7)), some (.int (nI b).toInt8.toInt32), some (.int (nI i))] [] := by
    intro r
    induction r with
    | zero =>
      intro i hr hi hj
      refine wa_iload dJ1_indexOfChar_4cfef_7 rfl ?_
      refine wa_iload_n dJ1_indexOfChar_4cfef_9 rfl ?_
      refine wa_icmp_ge (tgt := 31) dJ1_indexOfChar_4cfef_10 (by decide) (fun hT10 => ?_) (fun hF10 => absurd hF10 (fun h => h ((nI_leI (by omega) (by omega)).mpr (by omega))))
      refine wa_iconst (v := -1) dJ1_indexOfChar_4cfef_31 (by decide) ?_
      exact wa_iret dJ1_indexOfChar_4cfef_32 rfl (h0 (fun j h => hj j (by omega)))
    | succ r ih =>
      intro i hr hi hj
      refine wa_iload dJ1_indexOfChar_4cfef_7 rfl ?_
      refine wa_iload_n dJ1_indexOfChar_4cfef_9 rfl ?_
      refine wa_icmp_ge (tgt := 31) dJ1_indexOfChar_4cfef_10 (by decide) (fun hT10 => absurd hT10 (fun h => absurd ((nI_leI (by omega) (by omega)).mp h) (by omega))) (fun hF10 => ?_)
      refine wa_aload_n dJ1_indexOfChar_4cfef_13 rfl rfl ?_
      refine wa_iload dJ1_indexOfChar_4cfef_14 rfl ?_
      refine wa_baldS dJ1_indexOfChar_4cfef_16 (by decide) (show i < 7 by omega) ?_
      refine wa_iload dJ1_indexOfChar_4cfef_17 rfl ?_
      refine wa_icmp_ne (tgt := 25) dJ1_indexOfChar_4cfef_19 (by decide) (fun hT19 => ?_) (fun hF19 => ?_)
      · refine wa_iinc (v := nI (i + 1)) dJ1_indexOfChar_4cfef_25 rfl (ni_i1 i) (by decide) rfl rfl ?_
        refine wa_goto (tgt := 7) dJ1_indexOfChar_4cfef_28 (by decide) ?_
        exact ih (i + 1) (by omega) (by omega) (fun j h => by
          rcases Nat.lt_succ_iff_lt_or_eq.mp h with h | h
          · exact hj j h
          · subst h; exact fun q => hT19 ((mm_ch_b b hb j (by omega)).mpr q))
      · refine wa_iload dJ1_indexOfChar_4cfef_22 rfl ?_
        exact wa_iret dJ1_indexOfChar_4cfef_24 rfl (h1 i (by omega) ((mm_ch_b b hb i (by omega)).mp hF19))
  refine wa_iload_n dJ1_indexOfChar_4cfef_0 rfl ?_
  refine wa_i2b dJ1_indexOfChar_4cfef_1 ?_
  refine wa_istore dJ1_indexOfChar_4cfef_2 (by decide) rfl rfl ?_
  refine wa_iload_n dJ1_indexOfChar_4cfef_4 rfl ?_
  refine wa_istore dJ1_indexOfChar_4cfef_5 (by decide) rfl rfl ?_
  exact lp 7 0 (by omega) (by omega) (fun j h => absurd h (by omega))

theorem k_enc {G : mm_G} {d : Nat} {Q : Option Value → mm_M → Prop} {M : mm_M} (b : Nat) (hb : b < 256) (hQ : Q (some (.int 1)) M) : ma_ G jJ1_canEncode_9a6ad d 0 0 [.int (nI b)] M Q := by
  refine ma_ofF [some (.int (nI b))] (by decide +kernel) rfl (Nat.le_of_ble_eq_true rfl) ?_
  refine wa_iload_n dJ1_canEncode_9a6ad_0 rfl ?_
  refine wa_if_lt (tgt := 15) dJ1_canEncode_9a6ad_1 (by decide) (fun hT1 => absurd hT1 (nI_pos (by omega))) (fun hF1 => ?_)
  refine wa_iload_n dJ1_canEncode_9a6ad_4 rfl ?_
  refine wa_sipush (v := 255) dJ1_canEncode_9a6ad_5 (by decide) ?_
  refine wa_icmp_gt (tgt := 15) dJ1_canEncode_9a6ad_8 (by decide) (fun hT8 => absurd hT8 (fun h => absurd ((nI_ltI (a := 255) (b := b) (by omega) (by omega)).mp h) (by omega))) (fun hF8 => ?_)
  refine wa_iconst (v := 1) dJ1_canEncode_9a6ad_11 (by decide) ?_
  refine wa_goto (tgt := 16) dJ1_canEncode_9a6ad_12 (by decide) ?_
  exact wa_zret dJ1_canEncode_9a6ad_16 rfl rfl (hQ)

theorem k_iol {G : mm_G} {d : Nat} {Q : Option Value → mm_M → Prop} {M : mm_M} (b : Nat) (hb : b < 256) (h1 : ∀ j : Nat, j < 7 → mm_ch 8 j = nI b → Q (some (.int (nI j))) M) (h0 : (∀ j : Nat, j < 7 → ¬ mm_ch 8 j = nI b) → Q (some (.int (-1))) M) : ma_ G jJ1_indexOf_4cfef (d + 1) 0 0 [.ref (G.2.2.2.2.2 8), .int (nI b), .int 0, .int (nI 7)] M Q := by
  refine ma_ofF [some (.ref (G.2.2.2.2.2 8)), some (.int (nI b)), some (.int 0), some (.int (nI 7))] (by decide +kernel) rfl (Nat.le_of_ble_eq_true rfl) ?_
  refine wa_iload_n dJ1_indexOf_4cfef_0 rfl ?_
  refine wa_callS (As := [.int (nI b)]) dJ1_indexOf_4cfef_1 lk_J1_88 rfl rfl (Nat.le_of_ble_eq_true rfl) (Nat.le_of_eq (Nat.zero_add _)) (Nat.le_of_eq (Nat.zero_add _)) (k_enc b hb ?_)
  refine wa_if_ne (tgt := 9) dJ1_indexOf_4cfef_4 (by decide) (fun _ => ?_) (fun h9 => absurd h9 (by decide))
  refine wa_iload_n dJ1_indexOf_4cfef_9 rfl ?_
  refine wa_iconst (v := 0) dJ1_indexOf_4cfef_10 (by decide) ?_
  refine wa_mmax dJ1_indexOf_4cfef_11 lk_J1_92 (Nat.le_of_ble_eq_true rfl) ?_
  show wa_ _ _ _ _ _ _ _ _ _ _ _ _ (.int 0 :: _)
  refine wa_istore_n dJ1_indexOf_4cfef_14 (by decide) rfl rfl ?_
  refine wa_iload_n dJ1_indexOf_4cfef_15 rfl ?_
  refine wa_aload_n dJ1_indexOf_4cfef_16 rfl rfl ?_
  refine wa_alenS dJ1_indexOf_4cfef_17 (by decide) ?_
  refine wa_mmin dJ1_indexOf_4cfef_18 lk_J1_38 (Nat.le_of_ble_eq_true rfl) ?_
  show wa_ _ _ _ _ _ _ _ _ _ _ _ _ (.int (nI 7) :: _)
  refine wa_istore_n dJ1_indexOf_4cfef_21 (by decide) rfl rfl ?_
  refine wa_iload_n dJ1_indexOf_4cfef_22 rfl ?_
  refine wa_iload_n dJ1_indexOf_4cfef_23 rfl ?_
  refine wa_icmp_lt (tgt := 29) dJ1_indexOf_4cfef_24 (by decide) (fun _ => ?_) (fun h9 => absurd h9 (by decide))
  refine wa_aload_n dJ1_indexOf_4cfef_29 rfl rfl ?_
  refine wa_iload_n dJ1_indexOf_4cfef_30 rfl ?_
  refine wa_iload_n dJ1_indexOf_4cfef_31 rfl ?_
  refine wa_iload_n dJ1_indexOf_4cfef_32 rfl ?_
  refine wa_callS (As := [.ref (G.2.2.2.2.2 8), .int (nI b), .int 0, .int (nI 7)]) dJ1_indexOf_4cfef_33 lk_J1_95 rfl rfl (Nat.le_of_ble_eq_true rfl) (Nat.le_of_eq (Nat.zero_add _)) (Nat.le_of_eq (Nat.zero_add _)) (k_ioc b hb (fun j hj hq => ?_) (fun hq => ?_))
  · exact wa_iret dJ1_indexOf_4cfef_36 rfl (by first | exact h1 j hj hq | exact h0 hq)
  · exact wa_iret dJ1_indexOf_4cfef_36 rfl (by first | exact h1 j hj hq | exact h0 hq)

theorem k_io2 {G : mm_G} {d : Nat} {Q : Option Value → mm_M → Prop} {M : mm_M} (b : Nat) (hcs : G.2.2.2.1 3 = .int 1) (hb : b < 256) (h1 : ∀ j : Nat, j < 7 → mm_ch 8 j = nI b → Q (some (.int (nI j))) M) (h0 : (∀ j : Nat, j < 7 → ¬ mm_ch 8 j = nI b) → Q (some (.int (-1))) M) : ma_ G jJ0_indexOf_7cf53 (d + 2) 0 0 [.ref (G.2.2.2.2.1 8), .int (nI b), .int 0] M Q := by
  refine ma_ofF [some (.ref (G.2.2.2.2.1 8)), some (.int (nI b)), some (.int 0)] (by decide +kernel) rfl (Nat.le_of_ble_eq_true rfl) ?_
  have hk : 8 < 9 := by decide
  refine wa_aload_n dJ0_indexOf_7cf53_0 rfl rfl ?_
  refine wa_callVS (As := []) dJ0_indexOf_7cf53_1 lk_J0_492 rfl rfl hk rfl (Nat.le_of_ble_eq_true rfl) (Nat.le_of_eq (Nat.zero_add _)) (Nat.le_of_eq (Nat.zero_add _)) (k_isL1 8 hcs hk ?_)
  refine wa_if_eq (tgt := 23) dJ0_indexOf_7cf53_4 (by decide) (fun h9 => absurd h9 (by decide)) (fun _ => ?_)
  refine wa_aload_n dJ0_indexOf_7cf53_7 rfl rfl ?_
  refine wa_getSV rfl dJ0_indexOf_7cf53_8 hk ?_
  refine wa_iload_n dJ0_indexOf_7cf53_11 rfl ?_
  refine wa_iload_n dJ0_indexOf_7cf53_12 rfl ?_
  refine wa_aload_n dJ0_indexOf_7cf53_13 rfl rfl ?_
  refine wa_callVS (As := []) dJ0_indexOf_7cf53_14 lk_J0_505 rfl rfl hk rfl (Nat.le_of_ble_eq_true rfl) (Nat.le_of_eq (Nat.zero_add _)) (Nat.le_of_eq (Nat.zero_add _)) (k_len 8 hcs hk ?_)
  refine wa_callS (As := [.ref (G.2.2.2.2.2 8), .int (nI b), .int 0, .int (nI 7)]) dJ0_indexOf_7cf53_17 lk_J0_637 rfl rfl (Nat.le_of_ble_eq_true rfl) (Nat.le_of_eq (Nat.zero_add _)) (Nat.le_of_eq (Nat.zero_add _)) (k_iol b hb (fun j hj hq => ?_) (fun hq => ?_))
  · refine wa_goto (tgt := 36) dJ0_indexOf_7cf53_20 (by decide) ?_
    exact wa_iret dJ0_indexOf_7cf53_36 rfl (by first | exact h1 j hj hq | exact h0 hq)
  · refine wa_goto (tgt := 36) dJ0_indexOf_7cf53_20 (by decide) ?_
    exact wa_iret dJ0_indexOf_7cf53_36 rfl (by first | exact h1 j hj hq | exact h0 hq)

theorem k_idx {G : mm_G} {d : Nat} {Q : Option Value → mm_M → Prop} {M : mm_M} (b : Nat) (hcs : G.2.2.2.1 3 = .int 1) (hb : b < 256) (h1 : ∀ j : Nat, j < 7 → mm_ch 8 j = nI b → Q (some (.int (nI j))) M) (h0 : (∀ j : Nat, j < 7 → ¬ mm_ch 8 j = nI b) → Q (some (.int (-1))) M) : ma_ G jJ0_indexOf_0f7a4 (d + 3) 0 0 [.ref (G.2.2.2.2.1 8), .int (nI b)] M Q := by
  refine ma_ofF [some (.ref (G.2.2.2.2.1 8)), some (.int (nI b))] (by decide +kernel) rfl (Nat.le_of_ble_eq_true rfl) ?_
  have hk : 8 < 9 := by decide
  refine wa_aload_n dJ0_indexOf_0f7a4_0 rfl rfl ?_
  refine wa_iload_n dJ0_indexOf_0f7a4_1 rfl ?_
  refine wa_iconst (v := 0) dJ0_indexOf_0f7a4_2 (by decide) ?_
  refine wa_callVS (k := 8) (As := [.int (nI b), .int 0]) dJ0_indexOf_0f7a4_3 lk_J0_633 rfl rfl hk rfl (Nat.le_of_ble_eq_true rfl) (Nat.le_of_eq (Nat.zero_add _)) (Nat.le_of_eq (Nat.zero_add _)) (k_io2 b hcs hb (fun j hj hq => ?_) (fun hq => ?_))
  · exact wa_iret dJ0_indexOf_0f7a4_6 rfl (by first | exact h1 j hj hq | exact h0 hq)
  · exact wa_iret dJ0_indexOf_0f7a4_6 rfl (by first | exact h1 j hj hq | exact h0 hq)
