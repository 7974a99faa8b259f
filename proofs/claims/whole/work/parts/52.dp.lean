/-! rows of kit/laws/BITS.to-paste: shifts and masks of longs -/
theorem wb_tb (n : Nat) : (lN n).toBitVec = BitVec.ofNat 64 n := rfl
theorem wb_inj {a b : Int64} (h : a.toBitVec = b.toBitVec) : a = b := Int64.toBitVec_inj.mp h
theorem wb_c : ∀ k, k < 64 → ((nI k).toInt64 &&& 63) = lN k := by decide +kernel
theorem wb_sm : ∀ k, k < 64 → (BitVec.ofNat 64 k).smod 64 = BitVec.ofNat 64 k := by decide +kernel
theorem wb_lt2 {a b : Nat} (h : a < b) : 2 ^ a < 2 ^ b := Nat.pow_lt_pow_right (by decide) h
theorem wb_shl (n : Nat) {k : Nat} (hk : k < 64) : lN n <<< ((nI k).toInt64 &&& 63) = lN (n * 2 ^ k) := by
  rw [wb_c k hk]
  apply wb_inj
  rw [Int64.toBitVec_shiftLeft, wb_tb, wb_tb, wb_tb, wb_sm k hk]
  apply BitVec.eq_of_toNat_eq
  rw [BitVec.shiftLeft_eq', BitVec.toNat_shiftLeft, BitVec.toNat_ofNat, BitVec.toNat_ofNat, BitVec.toNat_ofNat, Nat.mod_eq_of_lt (show k < 2 ^ 64 by omega), Nat.shiftLeft_eq, Nat.mul_mod, Nat.mod_mod, ← Nat.mul_mod]
theorem wb_and {a b : Nat} (ha : a < 2 ^ 64) (hb : b < 2 ^ 64) : lN a &&& lN b = lN (a &&& b) := by
  apply wb_inj
  rw [Int64.toBitVec_and, wb_tb, wb_tb, wb_tb]
  apply BitVec.eq_of_toNat_eq
  rw [BitVec.toNat_and, BitVec.toNat_ofNat, BitVec.toNat_ofNat, BitVec.toNat_ofNat, Nat.mod_eq_of_lt ha, Nat.mod_eq_of_lt hb, Nat.mod_eq_of_lt (Nat.and_lt_two_pow _ hb)]
theorem wb_mask {n k : Nat} (hn : n < 2 ^ 64) (hk : k < 64) : lN n &&& lN (2 ^ k - 1) = lN (n % 2 ^ k) := by
  rw [wb_and hn (by have := wb_lt2 hk; omega), Nat.and_two_pow_sub_one_eq_mod]
/-! own rows -/
theorem sb_shr {n k : Nat} (hn : n < 2 ^ 63) (hk : k < 64) : lN n >>> ((nI k).toInt64 &&& 63) = lN (n / 2 ^ k) := by
  rw [wb_c k hk]
  apply Int64.toInt_inj.mp
  have h2 : n / 2 ^ k ≤ n := Nat.div_le_self _ _
  have h3 : (lN n >>> lN k).toInt = (lN n).toInt >>> k := by
    show ((lN n).toBitVec.sshiftRight ((lN k).toBitVec.smod 64).toNat).toInt = _
    rw [wb_tb k, wb_sm k hk, BitVec.toNat_ofNat, Nat.mod_eq_of_lt (by omega), BitVec.toInt_sshiftRight]
    rfl
  rw [h3, pk_lT hn, pk_lT (by omega), Int.shiftRight_eq_div_pow]
  rfl
/-! the reference's table of least sums -/
def dp_on (w : Nat) : Nat := match w with | 0 => 1099511627776 | 1 => 1099511627775 | 2 => 1099511623680 | 3 => 1099507433472 | _ => 1097364144128
def dp_key (n : Nat → Nat) : Nat := n 0 * 1099511627776 + n 1 * 1099511627775 + n 2 * 1099511623680 + n 3 * 1099507433472 + n 4 * 1097364144128
def dp_X : Int64 := 9223372036854775807
def dp_S (st : Nat → Nat) (w c v : Nat) (n : Nat → Nat) : Prop := (∀ i, i < w → n i ≤ st i) ∧ n w ≤ c ∧ (∀ i, w < i → n i = 0) ∧ dot_ n = v
def dp_m (S : (Nat → Nat) → Prop) (x : Int64) : Prop := (x = dp_X ∧ ∀ n, ¬ S n) ∨ ∃ n, S n ∧ x = lN (dp_key n) ∧ ∀ n', S n' → dp_key n ≤ dp_key n'
theorem dp_kc (n : Nat → Nat) : dp_key n + enc_ n = cnt_ n * 1099511627776 := by
  unfold dp_key enc_ cnt_
  omega
theorem dp_kb {n : Nat → Nat} (h : dot_ n ≤ 5000) : dp_key n ≤ 5000 * 1099511627776 := by
  have h1 := dp_kc n
  unfold dot_ at h
  unfold cnt_ at h1
  omega
theorem dp_kX {k : Nat} (h : k < 2 ^ 62) : ¬ lN k = dp_X := fun e => by
  have h1 := (pk_lEQ (a := k) (b := 9223372036854775807) (by omega) (by decide)).mp e
  omega
theorem dp_ad {n : Nat → Nat} {w a : Nat} (hw : w ≤ 4) : dot_ (tu_ n w (n w + a)) = dot_ n + a * Wt w ∧ dp_key (tu_ n w (n w + a)) = dp_key n + a * dp_on w := by
  rcases (by omega : w = 0 ∨ w = 1 ∨ w = 2 ∨ w = 3 ∨ w = 4) with rfl | rfl | rfl | rfl | rfl <;> (refine ⟨?_, ?_⟩ <;> simp [dot_, dp_key, tu_, Wt, dp_on] <;> omega)
theorem dp_dw {n : Nat → Nat} {w : Nat} (hw : w ≤ 4) : n w * Wt w ≤ dot_ n := by
  rcases (by omega : w = 0 ∨ w = 1 ∨ w = 2 ∨ w = 3 ∨ w = 4) with rfl | rfl | rfl | rfl | rfl <;> (simp only [dot_, Wt]; omega)
theorem dp_ob (w : Nat) : dp_on w ≤ 1099511627776 := by
  match w with
  | 0 => decide
  | 1 => decide
  | 2 => decide
  | 3 => decide
  | n + 4 => exact (by decide : 1097364144128 ≤ 1099511627776)
theorem tu_w (n : Nat → Nat) (w t : Nat) : tu_ n w t w = t := if_pos rfl
theorem tu_o {n : Nat → Nat} {w t i : Nat} (h : i ≠ w) : tu_ n w t i = n i := if_neg h
/-- one more bundle of a stamps of worth w -/
theorem dp_split {st : Nat → Nat} {w c a v : Nat} {n : Nat → Nat} (hw : w ≤ 4) (ha : a ≤ c + 1) (hav : a * Wt w ≤ v) (h : dp_S st w (c + a) v n) : dp_S st w c v n ∨ ∃ m, dp_S st w c (v - a * Wt w) m ∧ dp_key n = dp_key m + a * dp_on w := by
  obtain ⟨h1, h2, h3, h4⟩ := h
  rcases Nat.lt_or_ge c (n w) with g | g
  · have e := dp_ad (n := tu_ n w (n w - a)) (w := w) (a := a) hw
    rw [tu_w, show n w - a + a = n w from by omega] at e
    have e2 : tu_ (tu_ n w (n w - a)) w (n w) = n := by
      funext i
      by_cases hi : i = w
      · rw [hi, tu_w]
      · rw [tu_o hi, tu_o hi]
    rw [e2] at e
    refine Or.inr ⟨tu_ n w (n w - a), ⟨fun i hi => ?_, ?_, fun i hi => ?_, by omega⟩, e.2⟩
    · rw [tu_o (by omega)]; exact h1 i hi
    · rw [tu_w]; omega
    · rw [tu_o (by omega)]; exact h3 i hi
  · exact Or.inl ⟨h1, g, h3, h4⟩
theorem dp_up {st : Nat → Nat} {w c a v : Nat} {m : Nat → Nat} (hw : w ≤ 4) (hav : a * Wt w ≤ v) (h : dp_S st w c (v - a * Wt w) m) : dp_S st w (c + a) v (tu_ m w (m w + a)) ∧ dp_key (tu_ m w (m w + a)) = dp_key m + a * dp_on w := by
  obtain ⟨h1, h2, h3, h4⟩ := h
  have e := dp_ad (n := m) (w := w) (a := a) hw
  refine ⟨⟨fun i hi => ?_, ?_, fun i hi => ?_, by omega⟩, e.2⟩
  · rw [tu_o (by omega)]; exact h1 i hi
  · rw [tu_w]; omega
  · rw [tu_o (by omega)]; exact h3 i hi
theorem dp_mono {st : Nat → Nat} {w c a v : Nat} {n : Nat → Nat} (h : dp_S st w c v n) : dp_S st w (c + a) v n := ⟨h.1, by have := h.2.1; omega, h.2.2⟩
theorem dp_step0 {st : Nat → Nat} {w c a v : Nat} {x : Int64} (hw : w ≤ 4) (ha : a ≤ c + 1) (hav : a * Wt w ≤ v) (hx : dp_m (dp_S st w c v) x) (hz : dp_m (dp_S st w c (v - a * Wt w)) dp_X) (hv : v ≤ 5000) : dp_m (dp_S st w (c + a) v) x := by
  have hz2 : ∀ m, ¬ dp_S st w c (v - a * Wt w) m := by
    rcases hz with ⟨-, h⟩ | ⟨n, h1, h2, -⟩
    · exact h
    · have := dp_kb (n := n) (by rw [h1.2.2.2]; omega)
      exact absurd h2.symm (dp_kX (by omega))
  rcases hx with ⟨e, h⟩ | ⟨n, h1, h2, h3⟩
  · refine Or.inl ⟨e, fun n hn => ?_⟩
    rcases dp_split hw ha hav hn with g | ⟨m, g, -⟩
    · exact h n g
    · exact hz2 m g
  · refine Or.inr ⟨n, dp_mono h1, h2, fun n' hn' => ?_⟩
    rcases dp_split hw ha hav hn' with g | ⟨m, g, -⟩
    · exact h3 n' g
    · exact absurd g (hz2 m)
theorem dp_step1 {st : Nat → Nat} {w c a v : Nat} {x z : Int64} (hw : w ≤ 4) (ha : a ≤ c + 1) (hav : a * Wt w ≤ v) (hx : dp_m (dp_S st w c v) x) (hz : dp_m (dp_S st w c (v - a * Wt w)) z) (hzX : ¬ z = dp_X) (hv : v ≤ 5000) : dp_m (dp_S st w (c + a) v) (if z + lN a * lN (dp_on w) < x then z + lN a * lN (dp_on w) else x) := by
  have wb := Wt_b w
  rcases hz with ⟨e, -⟩ | ⟨m, m1, m2, m3⟩
  · exact absurd e hzX
  obtain ⟨u1, u2⟩ := dp_up (a := a) hw hav m1
  have kb := dp_kb (n := tu_ m w (m w + a)) (by rw [u1.2.2.2]; exact hv)
  rw [m2, lN_mul, lN_add, ← u2]
  have least : ∀ n', dp_S st w (c + a) v n' → dp_S st w c v n' ∨ dp_key (tu_ m w (m w + a)) ≤ dp_key n' := by
    intro n' hn'
    rcases dp_split hw ha hav hn' with g | ⟨m', g, e⟩
    · exact Or.inl g
    · have := m3 m' g
      exact Or.inr (by omega)
  rcases hx with ⟨e, h⟩ | ⟨n, h1, h2, h3⟩
  · rw [e, if_pos (show lN _ < dp_X from (pk_lLT (b := 9223372036854775807) (by omega) (by decide)).mpr (by omega))]
    refine Or.inr ⟨_, u1, rfl, fun n' hn' => ?_⟩
    rcases least n' hn' with g | g
    · exact absurd g (h n')
    · exact g
  · have kn := dp_kb (n := n) (by rw [h1.2.2.2]; exact hv)
    rw [h2]
    by_cases hlt : dp_key (tu_ m w (m w + a)) < dp_key n
    · rw [if_pos ((pk_lLT (by omega) (by omega)).mpr hlt)]
      refine Or.inr ⟨_, u1, rfl, fun n' hn' => ?_⟩
      rcases least n' hn' with g | g
      · have := h3 n' g; omega
      · exact g
    · rw [if_neg (fun q => hlt ((pk_lLT (by omega) (by omega)).mp q))]
      refine Or.inr ⟨n, dp_mono h1, rfl, fun n' hn' => ?_⟩
      rcases least n' hn' with g | g
      · exact h3 n' g
      · omega
theorem dp_low {st : Nat → Nat} {w c a v : Nat} {x : Int64} (hw : w ≤ 4) (ha : a ≤ c + 1) (hav : v < a * Wt w) (hx : dp_m (dp_S st w c v) x) : dp_m (dp_S st w (c + a) v) x := by
  have e : dp_S st w (c + a) v = dp_S st w c v := by
    funext n
    refine propext ⟨fun h => ⟨h.1, ?_, h.2.2⟩, dp_mono⟩
    have h1 := dp_dw (n := n) hw
    rw [h.2.2.2] at h1
    have h2 : n w * Wt w < a * Wt w := by omega
    have h3 : n w < a := Nat.lt_of_mul_lt_mul_right h2
    omega
  rw [e]
  exact hx
theorem dp_next {st : Nat → Nat} {w v sum : Nat} {x : Int64} (hw : w ≤ 4) (hv : v ≤ sum) (hx : dp_m (dp_S st w (min (st w) (sum / Wt w)) v) x) : dp_m (dp_S st (w + 1) 0 v) x := by
  have wb := Wt_b w
  have e : dp_S st (w + 1) 0 v = dp_S st w (min (st w) (sum / Wt w)) v := by
    funext n
    refine propext ⟨fun h => ⟨fun i hi => h.1 i (by omega), ?_, fun i hi => ?_, h.2.2.2⟩, fun h => ⟨fun i hi => ?_, ?_, fun i hi => h.2.2.1 i (by omega), h.2.2.2⟩⟩
    · have h1 := dp_dw (n := n) hw
      rw [h.2.2.2] at h1
      exact Nat.le_min.mpr ⟨h.1 w (by omega), (Nat.le_div_iff_mul_le (by omega)).mpr (by omega)⟩
    · by_cases e : i = w + 1
      · have := h.2.1; rw [e]; omega
      · exact h.2.2.1 i (by omega)
    · by_cases e : i = w
      · rw [e]; exact Nat.le_trans h.2.1 (Nat.min_le_left _ _)
      · exact h.1 i (by omega)
    · have := h.2.2.1 (w + 1) (by omega); omega
  rw [e]
  exact hx
theorem dp_init {st : Nat → Nat} {v : Nat} {x : Int64} (h0 : v = 0 → x = 0) (h1 : 0 < v → x = dp_X) : dp_m (dp_S st 0 0 v) x := by
  rcases Nat.eq_zero_or_pos v with e | e
  · refine Or.inr ⟨fun _ => 0, ⟨fun i hi => absurd hi (by omega), Nat.le_refl _, fun _ _ => rfl, by rw [e]; rfl⟩, by rw [h0 e]; rfl, fun n' _ => by show dp_key (fun _ => 0) ≤ _; exact Nat.zero_le _⟩
  · refine Or.inl ⟨h1 e, fun n hn => ?_⟩
    have z : ∀ i, n i = 0 := fun i => by
      rcases Nat.eq_zero_or_pos i with q | q
      · have := hn.2.1; rw [q]; omega
      · exact hn.2.2.1 i q
    have := hn.2.2.2
    unfold dot_ at this
    rw [z 0, z 1, z 2, z 3, z 4] at this
    omega
theorem dp_end0 {st : Nat → Nat} {fee : Nat} (h : dp_m (dp_S st 5 0 fee) dp_X) (hf : fee ≤ 5000) : ∀ n, ¬ fz_ st fee n := by
  intro n hn
  have hz : dp_S st 5 0 fee (m5_ (n 0) (n 1) (n 2) (n 3) (n 4)) := by
    refine ⟨fun i hi => ?_, Nat.le_refl _, fun i hi => ?_, hn.2.2.2.2.2⟩
    · rcases (by omega : i = 0 ∨ i = 1 ∨ i = 2 ∨ i = 3 ∨ i = 4) with rfl | rfl | rfl | rfl | rfl
      · exact hn.1
      · exact hn.2.1
      · exact hn.2.2.1
      · exact hn.2.2.2.1
      · exact hn.2.2.2.2.1
    · obtain ⟨j, rfl⟩ : ∃ j, i = j + 5 := ⟨i - 5, by omega⟩
      rfl
  rcases h with ⟨-, h⟩ | ⟨m, h1, h2, -⟩
  · exact h _ hz
  · have := dp_kb (n := m) (by rw [h1.2.2.2]; exact hf)
    exact absurd h2.symm (dp_kX (by omega))
theorem dp_end1 {st : Nat → Nat} {fee : Nat} {x : Int64} (h : dp_m (dp_S st 5 0 fee) x) (hx : ¬ x = dp_X) (hf : fee ≤ 5000) : ∃ n, opt_ st fee n ∧ x = lN (dp_key n) := by
  rcases h with ⟨e, -⟩ | ⟨n, h1, h2, h3⟩
  · exact absurd e hx
  · refine ⟨n, ⟨⟨h1.1 0 (by decide), h1.1 1 (by decide), h1.1 2 (by decide), h1.1 3 (by decide), h1.1 4 (by decide), h1.2.2.2⟩, fun n' hn' => ?_⟩, h2⟩
    have hz : dp_S st 5 0 fee (m5_ (n' 0) (n' 1) (n' 2) (n' 3) (n' 4)) := by
      refine ⟨fun i hi => ?_, Nat.le_refl _, fun i hi => ?_, hn'.2.2.2.2.2⟩
      · rcases (by omega : i = 0 ∨ i = 1 ∨ i = 2 ∨ i = 3 ∨ i = 4) with rfl | rfl | rfl | rfl | rfl
        · exact hn'.1
        · exact hn'.2.1
        · exact hn'.2.2.1
        · exact hn'.2.2.2.1
        · exact hn'.2.2.2.2.1
      · obtain ⟨j, rfl⟩ : ∃ j, i = j + 5 := ⟨i - 5, by omega⟩
        rfl
    have h4 : dp_key n ≤ dp_key n' := h3 (m5_ (n' 0) (n' 1) (n' 2) (n' 3) (n' 4)) hz
    have e1 := dp_kc n
    have e2 := dp_kc n'
    have b1 : enc_ n < 1099511627776 := by
      have := h1.2.2.2
      unfold dot_ at this
      unfold enc_
      omega
    have b2 : enc_ n' < 1099511627776 := by
      have := hn'.2.2.2.2.2
      unfold dot_ at this
      unfold enc_
      omega
    rcases Nat.lt_or_ge (cnt_ n) (cnt_ n') with g | g
    · exact Or.inl g
    · have : cnt_ n = cnt_ n' := by omega
      exact Or.inr ⟨this, by omega⟩
/-- the number of stamps, and each of them, out of the key -/
theorem dp_dec {n : Nat → Nat} (h : dot_ n ≤ 5000) : (dp_key n + 1099511627775) / 1099511627776 = cnt_ n ∧ cnt_ n * 1099511627776 - dp_key n = enc_ n ∧ enc_ n % 4096 = n 1 ∧ enc_ n / 4096 % 1024 = n 2 ∧ enc_ n / 4194304 % 512 = n 3 ∧ enc_ n / 2147483648 = n 4 ∧ enc_ n < 2 ^ 62 ∧ cnt_ n ≤ 5000 := by
  have e1 := dp_kc n
  unfold dot_ at h
  have b1 : enc_ n < 1099511627776 := by
    unfold enc_
    omega
  refine ⟨by omega, by omega, ?_, ?_, ?_, ?_, by omega, ?_⟩
  · unfold enc_; omega
  · unfold enc_; omega
  · unfold enc_; omega
  · unfold enc_; omega
  · unfold cnt_; omega
/-- who is best is alone -/
theorem opt_un {st : Nat → Nat} {fee : Nat} {n m : Nat → Nat} (hf : fee ≤ 5000) (h1 : opt_ st fee n) (h2 : opt_ st fee m) : ∀ i, i < 5 → n i = m i := by
  have hd1 := h1.1.2.2.2.2.2
  have hd2 := h2.1.2.2.2.2.2
  have hc : cnt_ n = cnt_ m ∧ enc_ n = enc_ m := by
    rcases h1.2 m h2.1 with a | ⟨a1, a2⟩
    · rcases h2.2 n h1.1 with b | ⟨b1, -⟩ <;> omega
    · rcases h2.2 n h1.1 with b | ⟨-, b2⟩
      · omega
      · exact ⟨a1, by omega⟩
  have d1 := dp_dec (n := n) (by omega)
  have d2 := dp_dec (n := m) (by omega)
  rw [hc.2] at d1
  intro i hi
  rcases (by omega : i = 0 ∨ i = 1 ∨ i = 2 ∨ i = 3 ∨ i = 4) with rfl | rfl | rfl | rfl | rfl
  · have := hc.1
    unfold cnt_ at this
    omega
  · omega
  · omega
  · omega
  · omega
