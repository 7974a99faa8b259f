/-! the tape is fed -/
theorem td_I (M : mm_M) (e n : Nat) (v : Int32) (k a j : Nat) : mm_I (td_ M e n v k) a j = if a = e + 1 ∧ n ≤ j ∧ j < n + k then tb_ v (j - n) else if a = e ∧ j = 1 ∧ 0 < k then nI (n + k) else mm_I M a j := by
  induction k with
  | zero => rw [if_neg (by omega), if_neg (by omega)]; rfl
  | succ k ih =>
    show mm_I (mm_sI (mm_sI (td_ M e n v k) (e + 1) (n + k) (tb_ v k)) e 1 (nI (n + k + 1))) a j = _
    rw [mm_I_sI, mm_I_sI, ih]
    by_cases h1 : a = e ∧ j = 1
    · rw [if_pos h1, if_neg (by omega), if_pos ⟨h1.1, h1.2, by omega⟩]; rfl
    · rw [if_neg h1, if_neg (c := a = e ∧ j = 1 ∧ 0 < k + 1) (by omega), if_neg (c := a = e ∧ j = 1 ∧ 0 < k) (by omega)]
      by_cases h2 : a = e + 1 ∧ j = n + k
      · rw [if_pos h2, if_pos ⟨h2.1, by omega, by omega⟩, h2.2, show n + k - n = k from by omega]
      · rw [if_neg h2]
        by_cases h3 : a = e + 1 ∧ n ≤ j ∧ j < n + k
        · rw [if_pos h3, if_pos ⟨h3.1, h3.2.1, by omega⟩]
        · rw [if_neg h3, if_neg (by omega)]
theorem fd_I (M : mm_M) (y n : Nat) (v : Nat → Int32) (k a j : Nat) : mm_I (fd_ M y n v k) a j = if a = y + 2 ∧ n ≤ j ∧ j < n + k then fb_ (v (j - n)) (j - n) else if a = y ∧ j = 6 ∧ 0 < k then nI (n + k) else mm_I M a j := by
  induction k with
  | zero => rw [if_neg (by omega), if_neg (by omega)]; rfl
  | succ k ih =>
    show mm_I (mm_sI (mm_sI (fd_ M y n v k) (y + 2) (n + k) (fb_ (v k) k)) y 6 (nI (n + k + 1))) a j = _
    rw [mm_I_sI, mm_I_sI, ih]
    by_cases h1 : a = y ∧ j = 6
    · rw [if_pos h1, if_neg (by omega), if_pos ⟨h1.1, h1.2, by omega⟩]; rfl
    · rw [if_neg h1, if_neg (c := a = y ∧ j = 6 ∧ 0 < k + 1) (by omega), if_neg (c := a = y ∧ j = 6 ∧ 0 < k) (by omega)]
      by_cases h2 : a = y + 2 ∧ j = n + k
      · rw [if_pos h2, if_pos ⟨h2.1, by omega, by omega⟩, h2.2, show n + k - n = k from by omega]
      · rw [if_neg h2]
        by_cases h3 : a = y + 2 ∧ n ≤ j ∧ j < n + k
        · rw [if_pos h3, if_pos ⟨h3.1, h3.2.1, by omega⟩]
        · rw [if_neg h3, if_neg (by omega)]
theorem i32_cond (x : Int32) : x.toInt = (x.toBitVec.toNat : Int) ∨ x.toInt = (x.toBitVec.toNat : Int) - 4294967296 := by
  have h : x.toInt = x.toBitVec.toInt := rfl
  rw [h, BitVec.toInt_eq_toNat_cond]
  split
  · exact Or.inl rfl
  · exact Or.inr (by omega)
theorem lo8 (x : Int32) : x &&& 255 = nI ((x.toInt % 256).toNat) := by
  rw [pk_and x 8 (m := 255) rfl]
  congr 1
  rcases i32_cond x with h | h <;> (rw [h]; omega)
theorem lo8b (z : Int32) : z.toInt8.toInt32 &&& 255 = nI ((z.toInt % 256).toNat) := by
  rw [lo8, Int8.toInt_toInt32, Int32.toInt_toInt8, Int.bmod_def]
  congr 1
  split <;> omega
theorem tb_fb (v : Int32) (k : Nat) : tb_ v (k % 4) = fb_ v k &&& 255 := by
  unfold tb_ fb_
  rw [pk_vb, lo8b]
  have hk : k % 4 < 4 := Nat.mod_lt _ (by decide)
  generalize k % 4 = i at *
  rcases (by omega : i = 0 ∨ i = 1 ∨ i = 2 ∨ i = 3) with rfl | rfl | rfl | rfl
  · rw [pk_and _ 8 (m := 255) rfl, pk_ushr v (nI (24 - 8 * 0)) 24 rfl, pk_shr v ((24 - 8 * nI 0) &&& 31) 24 rfl, Int.shiftRight_eq_div_pow]
    congr 1
    rcases i32_cond v with h | h <;> (rw [h]; omega)
  · rw [pk_and _ 8 (m := 255) rfl, pk_ushr v (nI (24 - 8 * 1)) 16 rfl, pk_shr v ((24 - 8 * nI 1) &&& 31) 16 rfl, Int.shiftRight_eq_div_pow]
    congr 1
    rcases i32_cond v with h | h <;> (rw [h]; omega)
  · rw [pk_and _ 8 (m := 255) rfl, pk_ushr v (nI (24 - 8 * 2)) 8 rfl, pk_shr v ((24 - 8 * nI 2) &&& 31) 8 rfl, Int.shiftRight_eq_div_pow]
    congr 1
    rcases i32_cond v with h | h <;> (rw [h]; omega)
  · rw [pk_and _ 8 (m := 255) rfl, pk_ushr v (nI (24 - 8 * 3)) 0 rfl, pk_shr v ((24 - 8 * nI 3) &&& 31) 0 rfl, Int.shiftRight_eq_div_pow]
    congr 1
    rcases i32_cond v with h | h <;> (rw [h]; omega)
theorem tb_c (v : Int32) (k : Nat) : ∃ c, c < 256 ∧ tb_ v k = nI c := pk_andE _ 8 rfl
theorem RW_feed {M : mm_M} {x y w0 s0 v0 bs L P T td N tp : Nat} {xs : Nat → Int32} {pa : Nat → Nat} {ar : Nat → pr_T} {ta la : Nat → Nat} {tl : Nat → List ps_L} {pp tk pq : Nat → Nat} (c : RW_ M x y w0 s0 v0 bs L xs P T td N tp pa ar ta la tl pp tk pq) (a b e f g : Int32) (hn : tp + 20 ≤ 300) : RW_ (fd_ (mm_sI (td_ (td_ (td_ (td_ (td_ M (x + 4) (tp + 0) a 4) (x + 4) (tp + 4) b 4) (x + 4) (tp + 8) e 4) (x + 4) (tp + 12) f 4) (x + 4) (tp + 16) g 4) y 0 0) y tp (fv_ a b e f g) 20) x y w0 s0 v0 bs L xs P T td N (tp + 20) pa ar ta la tl pp tk pq := by
  have h7 := RW_T30 c
  have h8 := RW_P8 c
  have h9 := RW_N c
  have htd := RW_td c
  have hx := c.1.2.1
  have hy := c.1.2.2.1
  have hxy := c.1.1
  obtain ⟨W, hW⟩ : ∃ W : Nat → Nat → Prop, W = fun a j => wk_ x y a j ∨ a = x + 4 ∨ a = x + 5 ∨ (a = y ∧ j = 6) ∨ a = y + 2 := ⟨_, rfl⟩
  have hk : md_sk M (td_ (td_ (td_ (td_ (td_ M (x + 4) (tp + 0) a 4) (x + 4) (tp + 4) b 4) (x + 4) (tp + 8) e 4) (x + 4) (tp + 12) f 4) (x + 4) (tp + 16) g 4) := md_sk_tr (md_sk_tr (md_sk_tr (md_sk_tr (td_sk _ _ _ _ _) (td_sk _ _ _ _ _)) (td_sk _ _ _ _ _)) (td_sk _ _ _ _ _)) (td_sk _ _ _ _ _)
  have hC : ∀ z j, mm_I (td_ (td_ (td_ (td_ (td_ M (x + 4) (tp + 0) a 4) (x + 4) (tp + 4) b 4) (x + 4) (tp + 8) e 4) (x + 4) (tp + 12) f 4) (x + 4) (tp + 16) g 4) z j = if z = x + 5 ∧ tp ≤ j ∧ j < tp + 20 then tb_ (fv_ a b e f g (j - tp)) ((j - tp) % 4) else if z = x + 4 ∧ j = 1 then nI (tp + 20) else mm_I M z j := fun z j => by
    rw [td_I, td_I, td_I, td_I, td_I]
    by_cases h1 : z = x + 5
    · subst h1
      by_cases h2 : tp ≤ j ∧ j < tp + 20
      · rw [if_pos (c := x + 5 = x + 5 ∧ tp ≤ j ∧ j < tp + 20) ⟨rfl, h2⟩]
        unfold fv_
        rcases (by omega : j < tp + 4 ∨ (tp + 4 ≤ j ∧ j < tp + 8) ∨ (tp + 8 ≤ j ∧ j < tp + 12) ∨ (tp + 12 ≤ j ∧ j < tp + 16) ∨ tp + 16 ≤ j) with q | q | q | q | q
        · rw [if_neg (by omega), if_neg (by omega), if_neg (by omega), if_neg (by omega), if_neg (by omega), if_neg (by omega), if_neg (by omega), if_neg (by omega), if_pos (by omega), if_pos (by omega)]
          exact congrArg (tb_ a) (by omega)
        · rw [if_neg (by omega), if_neg (by omega), if_neg (by omega), if_neg (by omega), if_neg (by omega), if_neg (by omega), if_pos (by omega), if_neg (by omega), if_pos (by omega)]
          exact congrArg (tb_ b) (by omega)
        · rw [if_neg (by omega), if_neg (by omega), if_neg (by omega), if_neg (by omega), if_pos (by omega), if_neg (by omega), if_neg (by omega), if_pos (by omega)]
          exact congrArg (tb_ e) (by omega)
        · rw [if_neg (by omega), if_neg (by omega), if_pos (by omega), if_neg (by omega), if_neg (by omega), if_neg (by omega), if_pos (by omega)]
          exact congrArg (tb_ f) (by omega)
        · rw [if_pos (by omega), if_neg (by omega), if_neg (by omega), if_neg (by omega), if_neg (by omega)]
          exact congrArg (tb_ g) (by omega)
      · rw [if_neg (by omega), if_neg (by omega), if_neg (by omega), if_neg (by omega), if_neg (by omega), if_neg (by omega), if_neg (by omega), if_neg (by omega), if_neg (by omega), if_neg (by omega), if_neg (by omega), if_neg (by omega)]
    · rw [if_neg (by omega), if_neg (c := z = x + 5 ∧ tp ≤ j ∧ j < tp + 20) (by omega)]
      by_cases h2 : z = x + 4 ∧ j = 1
      · rw [if_pos (by omega), if_pos h2]
      · rw [if_neg (by omega), if_neg h2, if_neg (by omega), if_neg (by omega), if_neg (by omega), if_neg (by omega), if_neg (by omega), if_neg (by omega), if_neg (by omega), if_neg (by omega)]
  have hF : ∀ z j, mm_I (fd_ (mm_sI (td_ (td_ (td_ (td_ (td_ M (x + 4) (tp + 0) a 4) (x + 4) (tp + 4) b 4) (x + 4) (tp + 8) e 4) (x + 4) (tp + 12) f 4) (x + 4) (tp + 16) g 4) y 0 0) y tp (fv_ a b e f g) 20) z j = if z = y + 2 ∧ tp ≤ j ∧ j < tp + 20 then fb_ (fv_ a b e f g (j - tp)) (j - tp) else if z = y ∧ j = 6 then nI (tp + 20) else if z = y ∧ j = 0 then 0 else if z = x + 5 ∧ tp ≤ j ∧ j < tp + 20 then tb_ (fv_ a b e f g (j - tp)) ((j - tp) % 4) else if z = x + 4 ∧ j = 1 then nI (tp + 20) else mm_I M z j := fun z j => by
    rw [fd_I, mm_I_sI, hC]
    by_cases h1 : z = y + 2 ∧ tp ≤ j ∧ j < tp + 20
    · rw [if_pos h1, if_pos h1]
    · rw [if_neg h1, if_neg h1]
      by_cases h2 : z = y ∧ j = 6
      · rw [if_pos ⟨h2.1, h2.2, by decide⟩, if_pos h2]
      · rw [if_neg (fun q => h2 ⟨q.1, q.2.1⟩), if_neg h2]
  have hk2 : md_sk M (fd_ (mm_sI (td_ (td_ (td_ (td_ (td_ M (x + 4) (tp + 0) a 4) (x + 4) (tp + 4) b 4) (x + 4) (tp + 8) e 4) (x + 4) (tp + 12) f 4) (x + 4) (tp + 16) g 4) y 0 0) y tp (fv_ a b e f g) 20) := md_sk_tr (md_sk_sI hk y 0 0) (fd_sk _ _ _ _ _)
  have h11 : mm_R (fd_ (mm_sI (td_ (td_ (td_ (td_ (td_ M (x + 4) (tp + 0) a 4) (x + 4) (tp + 4) b 4) (x + 4) (tp + 8) e 4) (x + 4) (tp + 12) f 4) (x + 4) (tp + 16) g 4) y 0 0) y tp (fv_ a b e f g) 20) (x + 11) 0 = some (x + 12) := by
    rw [md_sk_R hk2]; exact hx.2.2.2.2.1
  have h : fr_ W (vk_ x y) M (fd_ (mm_sI (td_ (td_ (td_ (td_ (td_ M (x + 4) (tp + 0) a 4) (x + 4) (tp + 4) b 4) (x + 4) (tp + 8) e 4) (x + 4) (tp + 12) f 4) (x + 4) (tp + 16) g 4) y 0 0) y tp (fv_ a b e f g) 20) := fr_sk hk2 (fun z j hz => by
    subst hW
    unfold wk_ at hz
    rw [hF, if_neg (by omega), if_neg (by omega), if_neg (by omega), if_neg (by omega), if_neg (by omega)])
  clear hC
  generalize (fd_ (mm_sI (td_ (td_ (td_ (td_ (td_ M (x + 4) (tp + 0) a 4) (x + 4) (tp + 4) b 4) (x + 4) (tp + 8) e 4) (x + 4) (tp + 12) f 4) (x + 4) (tp + 16) g 4) y 0 0) y tp (fv_ a b e f g) 20) = M2 at *
  have hWok : wok_ M x y W := by
    subst hW
    rintro z j (q | q | q | q | q)
    · exact wk_ok M x y z j q
    all_goals exact Or.inl (by unfold rg_ok_; omega)
  have ey : ∀ j, j ≠ 0 → j ≠ 6 → mm_I M2 y j = mm_I M y j := fun j j1 j2 => by
    rw [hF, if_neg (by omega), if_neg (by omega), if_neg (by omega), if_neg (by omega), if_neg (by omega)]
  have ex : ∀ j, mm_I M2 x j = mm_I M x j := fun j => by
    rw [hF, if_neg (by omega), if_neg (by omega), if_neg (by omega), if_neg (by omega), if_neg (by omega)]
  have ex10 : ∀ j, mm_I M2 (x + 10) j = mm_I M (x + 10) j := fun j => by
    rw [hF, if_neg (by omega), if_neg (by omega), if_neg (by omega), if_neg (by omega), if_neg (by omega)]
  have hX : rX_ M2 x y := by
    unfold rX_
    rw [ey 1 (by decide) (by decide), ey 2 (by decide) (by decide), ey 3 (by decide) (by decide), ex, ex, ex10]
    exact c.2.1
  have hB : rB_ M2 x y (tp + 20) := by
    obtain ⟨b1, b2, b3, b4⟩ := c.2.2.2.2.2
    refine ⟨?_, ?_, hn, fun k hk => ?_⟩
    · rw [hF, if_neg (by omega), if_neg (by omega), if_neg (by omega), if_neg (by omega), if_pos ⟨rfl, rfl⟩]
    · rw [hF, if_neg (by omega), if_pos ⟨rfl, rfl⟩]
    · rw [hF (x + 5), hF (y + 2), if_neg (c := x + 5 = y + 2 ∧ tp ≤ k ∧ k < tp + 20) (by omega), if_neg (c := x + 5 = y ∧ k = 6) (by omega), if_neg (c := x + 5 = y ∧ k = 0) (by omega)]
      by_cases hk3 : tp ≤ k
      · rw [if_pos ⟨rfl, hk3, hk⟩, if_pos ⟨rfl, hk3, hk⟩]
        exact ⟨tb_fb _ _, tb_c _ _⟩
      · rw [if_neg (by omega), if_neg (by omega), if_neg (by omega), if_neg (by omega), if_neg (by omega), if_neg (by omega), if_neg (by omega)]
        exact b4 k (by omega)
  exact ⟨rS_fr h hWok (vk_ok x y) h11 c.1, hX, rP_fr h hx hy (vk_ok x y) (by unfold vk_; omega) (by subst hW; unfold wk_; omega) (fun k j h1 h2 => by subst hW; unfold wk_; omega) (fun q i j hq hi => by have ho := (RW_rp c hq).2.2.1; unfold ou_ rg_ok_ at ho; subst hW; unfold wk_; (rcases (by omega : i = 0 ∨ i = 1 ∨ i = 2 ∨ i = 3) with rfl | rfl | rfl | rfl) <;> omega) c.2.2.1, rT_fr h hx hy hWok (vk_ok x y) (by unfold vk_; omega) (by subst hW; unfold wk_; omega) (fun k j h1 h2 => by subst hW; unfold wk_; omega) c.2.2.2.1, rN_fr h hx hy hWok (vk_ok x y) (by unfold vk_; omega) (by subst hW; unfold wk_; omega) (fun k j h1 h2 => by subst hW; unfold wk_; omega) (fun i j hi => by have ht_ := (RW_n1 c hi).1.1; unfold ou_ rg_ok_ at ht_; subst hW; unfold wk_; omega) c.2.2.2.2.1, hB⟩

theorem op_feed {G : mm_G} {d : Nat} {Q : Option Value → mm_M → Prop} {M : mm_M} {x y w0 s0 v0 bs L P T td N tp : Nat} {xs : Nat → Int32} {pa : Nat → Nat} {ar : Nat → pr_T} {ta la : Nat → Nat} {tl : Nat → List ps_L} {pp tk pq : Nat → Nat}  (c : RW_ M x y w0 s0 v0 bs L xs P T td N tp pa ar ta la tl pp tk pq) (a : Int32) (b : Int32) (e : Int32) (f : Int32) (g : Int32) (hK : ∀ (rz : Int32) (M1 : mm_M), mid_ M1 y bs L xs → (∀ (d2 : Nat) (Q2 : Option Value → mm_M → Prop), (∀ M2 : mm_M, Rel_ x y w0 s0 v0 bs L xs M2 → Q2 (some (.int rz)) M2) → ma_ G jX12_feed d2 0 0 [.ref y, .int a, .int b, .int e, .int f, .int g] M1 Q2) → Q (some (.int rz)) M1) : ma_ G jX10_feed (d + 1) 0 0 [.ref x, .int a, .int b, .int e, .int f, .int g] M Q := by
  have h7 := RW_T30 c
  have h8 := RW_P8 c
  have h9 := RW_N c
  have htd := RW_td c
  have hx := c.1.2.1
  have hy := c.1.2.2.1
  have hxy := c.1.1
  have hB := c.2.2.2.2.2
  refine k_X10_feed a b e f g tp hx hB.1 hB.2.2.1 (fun h0 => hK _ _ (RW_mid c) (fun d2 Q2 h2 => k_X12_feed a b e f g rfl (RW_y0 c).1.2.2.1 tp (RW_y0 c).2.2.2.2.2.2.1 hB.2.2.1 (fun _ => h2 _ (RW_Rel (RW_y0 c))) (fun h9 => absurd h9 h0))) (fun h0 => ?_)
  have hk : md_sk M (td_ (td_ (td_ (td_ (td_ M (x + 4) (tp + 0) a 4) (x + 4) (tp + 4) b 4) (x + 4) (tp + 8) e 4) (x + 4) (tp + 12) f 4) (x + 4) (tp + 16) g 4) := md_sk_tr (md_sk_tr (md_sk_tr (md_sk_tr (td_sk _ _ _ _ _) (td_sk _ _ _ _ _)) (td_sk _ _ _ _ _)) (td_sk _ _ _ _ _)) (td_sk _ _ _ _ _)
  have hI : ∀ z j, z ≠ x + 4 → z ≠ x + 5 → mm_I (td_ (td_ (td_ (td_ (td_ M (x + 4) (tp + 0) a 4) (x + 4) (tp + 4) b 4) (x + 4) (tp + 8) e 4) (x + 4) (tp + 12) f 4) (x + 4) (tp + 16) g 4) z j = mm_I M z j := fun z j z1 z2 => by
    rw [td_I, td_I, td_I, td_I, td_I, if_neg (by omega), if_neg (by omega), if_neg (by omega), if_neg (by omega), if_neg (by omega), if_neg (by omega), if_neg (by omega), if_neg (by omega), if_neg (by omega), if_neg (by omega)]
  have hm : mid_ (td_ (td_ (td_ (td_ (td_ M (x + 4) (tp + 0) a 4) (x + 4) (tp + 4) b 4) (x + 4) (tp + 8) e 4) (x + 4) (tp + 12) f 4) (x + 4) (tp + 16) g 4) y bs L xs := mid_fr (W := fun z _ => z = x + 4 ∨ z = x + 5) (V := fun _ => False) c (fr_sk hk (fun z j hz => hI z j (by omega) (by omega))) (fun z j hz => Or.inl (by unfold rg_ok_; omega))
  have e6 : mm_I (mm_sI (td_ (td_ (td_ (td_ (td_ M (x + 4) (tp + 0) a 4) (x + 4) (tp + 4) b 4) (x + 4) (tp + 8) e 4) (x + 4) (tp + 12) f 4) (x + 4) (tp + 16) g 4) y 0 0) y 6 = nI tp := by
    rw [mI_ne _ _ _ _ _ (by decide), hI y 6 (by omega) (by omega)]; exact hB.2.1
  exact hK _ _ hm (fun d2 Q2 h2 => k_X12_feed a b e f g rfl (md_sk_mdl (md_sk_sI hk y 0 0) hy) tp e6 hB.2.2.1 (fun h9 => absurd h0 h9) (fun _ => h2 _ (RW_Rel (RW_feed c a b e f g h0))))
