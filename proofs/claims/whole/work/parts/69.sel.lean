/-! a paper is sealed: the reference, where the other has told the answer -/
theorem sl_ref {G : mm_G} {d2 : Nat} {Q2 : Option Value → mm_M → Prop} {W : Nat → Nat → Prop} {V : Nat → Prop} {M M1 M0 : mm_M} {x y w0 s0 v0 bs L P T td N tp : Nat} {xs : Nat → Int32} {pa : Nat → Nat} {ar : Nat → pr_T} {ta la : Nat → Nat} {tl : Nat → List ps_L} {pp tk pq : Nat → Nat} (hG2 : G.2.2.2.1 2 = .ref v0) (c : RW_ M x y w0 s0 v0 bs L xs P T td N tp pa ar ta la tl pp tk pq) (hM0 : M0 = mm_sI M1 y 0 0) (h : fr_ W V M M0) (hW : wok_ M x y W) (hV : vok_ x y V) (w1 : ∀ k j, 2 ≤ k → k ≤ 33 → ¬ W (y + k) j) (w0' : ∀ j, 14 ≤ j → ¬ W y j) {q t : Nat} (k v s : Int32) (hq : q < P) (a1 : 0 ≤ k) (a2 : k ≤ 9) (a3 : 0 ≤ v) (a4 : v ≤ 9999) (a5 : 1 ≤ s) (a6 : s ≤ 99) (ht : t < T) (hc1 : ∀ j, j ≤ t → cm_ (ar q).2.2.1 (ar q).2.2.2.1 (ar q).1 T td j ≤ td) (hc2 : t + 1 < T → td < cm_ (ar q).2.2.1 (ar q).2.2.2.1 (ar q).1 T td (t + 1))
    (hA : fq_ (-1) k v s (nI q) (mm_I M (pa q) 7) (tl t) = -1 → Q2 (some (.int (-1))) (mm_sI (mm_sI M0 y 1 5) y 2 (-1)))
    (hB : ∀ fee, fee ≤ 5000 → fq_ (-1) k v s (nI q) (mm_I M (pa q) 7) (tl t) = nI fee → ((∀ n, ¬ fz_ (ar q).2.2.2.2 fee n) → ∀ M' : mm_M, lsk_ M0 M' → Q2 (some (.int (-1))) (mm_sI (mm_sI M' y 1 6) y 2 (-1))) ∧
        ∀ n, opt_ (ar q).2.2.2.2 fee n → (N = 200 → ∀ M' : mm_M, chf_ M0 M' y → Q2 (some (.int (-1))) (mm_sI (mm_sI M' y 1 3) y 2 (-1))) ∧
          (N < 200 → ∀ (M' : mm_M), chf_ M0 M' y → (∀ i, i < 5 → mm_I M' (y + 34) i = nI (n i)) → Q2 (some (.int (nI N))) (rse_ M' y N q k v s fee t n))) : ma_ G jX12_seal (d2 + 3) 0 0 [.ref y, .int (nI q), .int k, .int v, .int s] M1 Q2 := by
  have h7 := RW_T30 c
  have h8 := RW_P8 c
  have h9 := RW_N c
  have htd := RW_td c
  have hx := c.1.2.1
  have hy := c.1.2.2.1
  have hxy := c.1.1
  have gy : ∀ k j, 2 ≤ k → k ≤ 33 → mm_I M0 (y + k) j = mm_I M (y + k) j := fun k j h1 h2 => fr_y h hy (by omega) (w1 k j h1 h2)
  have g0 : ∀ j, 14 ≤ j → mm_I M0 y j = mm_I M y j := fun j hj => (h _ _ hy.1).2.1 j (w0' j hj)
  have hv0 : wtb_ M0 v0 := by
    obtain ⟨z1, z2⟩ := c.1.2.2.2.2.2.1
    exact ⟨(h _ _ z1).1, fun i hi => by rw [(h _ _ z1).2.1 i (fun z => by cases wok_sh hx hy hW z z1)]; exact z2 i hi⟩
  have hcom : ∀ r j, md_com M0 y (30 * r + j) = md_com M y (30 * r + j) := fun r j => by
    unfold md_com
    rw [gy 20 _ (by decide) (by decide), gy 21 _ (by decide) (by decide), gy 23 _ (by decide) (by decide)]
  have e26 : mm_I M0 y 26 = nI P := (g0 26 (by decide)).trans (RW_26 c)
  have e27 : mm_I M0 y 27 = nI td := (g0 27 (by decide)).trans (RW_27 c)
  have e17 : mm_I M0 (y + 17) q = mm_I M (pa q) 7 := (gy 17 q (by decide) (by decide)).trans (RW_rp c hq).2.2.2.2.1.2.1
  have hcb : ∀ j, j < T → cm_ (ar q).2.2.1 (ar q).2.2.2.1 (ar q).1 T td j ≤ 1000000 := fun j hj => rp_cb (RW_rp c hq) htd hj
  refine k_X12_seal (nI q) k v s hM0 (fr_mdl h (vok_n hV hxy).2.2.2.2 hy) P T N e26 h8 ((g0 14 (by decide)).trans (RW_14 c)) h7 ((g0 38 (by decide)).trans (RW_38 c)) h9 tl (fun t ht => rTL_fr h hy (w1 4 t (by decide) (by decide)) (fun k j h1 h2 _ _ => w1 k j (by omega) (by omega)) (fun k j h1 h2 _ _ => w1 k j (by omega) (by omega)) (c.2.2.2.1.2.2.1 t ht)) c.2.2.2.1.2.1 (fun r => (ar r).2.2.2.2) (fun r hr i hi => by rw [gy 19 _ (by decide) (by decide)]; exact ((RW_rp c hr).2.2.2.2.2.2.2.2.1 i hi).2) c.2.2.1.2.2.2.2.2 v0 hG2 hv0 (fun r hr => ?_) (fun h0 => ?_) (fun r e hr h0 => absurd ⟨a1, a2, a3, a4, a5, a6⟩ h0) (fun r e hr _ _ _ _ _ _ h0 => ?_) (fun r t2 e hr _ _ _ _ _ _ ht2 b1 b2 => ?_)
  · rw [gy 17 r (by decide) (by decide), (RW_rp c hr).2.2.2.2.1.2.1]
    exact nb_w (RW_rp c hr).2.2.2.2.1.2.2 (Nat.le_refl _) (by omega)
  · exact absurd h0 (by rw [e26]; exact ix_no rfl hq (by omega))
  · obtain rfl : r = q := ix_eq rfl e hq hr (by omega)
    exfalso
    have h1 := h0 (by omega)
    rw [e27, hcom, rp_com (RW_rp c hq) (by omega)] at h1
    have h2 := ni_lt h1 (by omega) (by have := hcb 0 (by omega); omega)
    have h3 := hc1 0 (Nat.zero_le _)
    omega
  · obtain rfl : r = q := ix_eq rfl e hq hr (by omega)
    have hle : ∀ j, j < T → (md_com M0 y (30 * r + j) ≤ mm_I M0 y 27 ↔ cm_ (ar r).2.2.1 (ar r).2.2.2.1 (ar r).1 T td j ≤ td) := fun j hj => by
      rw [e27, hcom, rp_com (RW_rp c hq) hj]
      have := hcb j hj
      exact nI_leI (by omega) (by omega)
    have : t2 = t := by
      rcases Nat.lt_trichotomy t2 t with g | g | g
      · exact absurd ((hle (t2 + 1) (by omega)).mpr (hc1 (t2 + 1) (by omega))) (Int32.not_le.mpr (b2 (by omega)))
      · exact g
      · have g1 := (hle (t + 1) (by omega)).mp (b1 (t + 1) (by omega))
        have g2 := hc2 (by omega)
        omega
    subst this
    rw [e17]
    exact ⟨hA, hB⟩
theorem rn1_fr2 {W : Nat → Nat → Prop} {V : Nat → Prop} {M M' : mm_M} {x y P td i a k p : Nat} {pa : Nat → Nat} (h : fr_ W V M M') (hx : dsk_ M x) (hy : mdl_ M y) (hW : wok_ M x y W) (ha : mm_sh M a = some (.inl 2)) (hk : mm_sh M k = some (.inr (0, 5))) (e1 : ∀ k, 24 ≤ k → k ≤ 31 → ¬ W (y + k) i) (e3 : ∀ w, w < 5 → ¬ W (y + 32) (5 * i + w)) (e2 : ∀ j, ¬ W k j) (c : rn1_ M x y P td i a k p pa) : rn1_ M' x y P td i a k p pa := by
  obtain ⟨c1, c2, c3, c4, c5⟩ := c
  have f : ∀ j, mm_I M' a j = mm_I M a j := fun j => (h _ _ ha).2.1 j (fun q => by cases wok_sh hx hy hW q ha)
  have f2 : ∀ j, mm_I M' k j = mm_I M k j := fun j => (h _ _ hk).2.1 j (e2 j)
  have g : ∀ k, 24 ≤ k → k ≤ 31 → mm_I M' (y + k) i = mm_I M (y + k) i := fun k h1 h2 => fr_y h hy (by omega) (e1 k h1 h2)
  refine ⟨c1, ?_, ?_, ?_, fun w hw => ?_⟩
  · rw [f]; exact c2
  · rw [f, f, f, f]; exact c3
  · rw [g 24 (by decide) (by decide), g 25 (by decide) (by decide), g 26 (by decide) (by decide), g 27 (by decide) (by decide), g 28 (by decide) (by decide), g 29 (by decide) (by decide), g 30 (by decide) (by decide), g 31 (by decide) (by decide), f, f, f, f, f, f, f, f]
    exact c4
  · rw [fr_y h hy (by decide) (e3 w hw), f2]; exact c5 w hw
theorem sea1_sk (M : mm_M) (y N q : Nat) (k v s : Int32) (fee t : Nat) : md_sk M (sea1_ M y N q k v s fee t) := ⟨rfl, rfl⟩
/-- what the reference has written -/
theorem rse_I (M : mm_M) (y N q : Nat) (k v s : Int32) (fee t : Nat) (n : Nat → Nat) (z j : Nat) : mm_I (rse_ M y N q k v s fee t n) z j = if z = y ∧ j = 2 then -1 else if z = y ∧ j = 1 then 0 else if z = y + 19 ∧ 5 * q ≤ j ∧ j < 5 * q + 5 then mm_I M (y + 19) j - nI (n (j - 5 * q)) else if z = y + 32 ∧ 5 * N ≤ j ∧ j < 5 * N + 5 then nI (n (j - 5 * N)) else if z = y + 16 ∧ j = q then mm_I M (y + 16) q + nI fee else if z = y + 17 ∧ j = q then mm_I M (y + 17) q + 1 else if z = y + 31 ∧ j = N then mm_I M (y + 17) q else if z = y + 30 ∧ j = N then nI t else if z = y + 29 ∧ j = N then nI fee else if z = y + 28 ∧ j = N then mm_I M y 27 else if z = y + 27 ∧ j = N then s else if z = y + 26 ∧ j = N then v else if z = y + 25 ∧ j = N then k else if z = y + 24 ∧ j = N then nI q else if z = y ∧ j = 38 then nI (N + 1) else mm_I M z j := by
  unfold rse_
  rw [mm_I_sI, mm_I_sI, sea5_I]
  have : mm_I (sea1_ M y N q k v s fee t) (y + 19) j = mm_I M (y + 19) j := by
    rw [sea1_I]
    (repeat (first | rw [if_neg (by omega)] | rw [if_pos (by omega)]))
  rw [this, sea1_I]
section RSE
variable (M : mm_M) (y N q : Nat) (k v s : Int32) (fee t : Nat) (n : Nat → Nat)
theorem rse_1 : mm_I (rse_ M y N q k v s fee t n) y 1 = 0 ∧ mm_I (rse_ M y N q k v s fee t n) y 2 = -1 ∧ mm_I (rse_ M y N q k v s fee t n) y 3 = mm_I M y 3 ∧ mm_I (rse_ M y N q k v s fee t n) y 38 = nI (N + 1) := by
  refine ⟨?_, ?_, ?_, ?_⟩ <;> (rw [rse_I]; (repeat (first | rw [if_neg (by omega)] | rw [if_pos (by omega)])))
theorem rse_16 : mm_I (rse_ M y N q k v s fee t n) (y + 16) q = mm_I M (y + 16) q + nI fee ∧ mm_I (rse_ M y N q k v s fee t n) (y + 17) q = mm_I M (y + 17) q + 1 := by
  refine ⟨?_, ?_⟩ <;> (rw [rse_I]; (repeat (first | rw [if_neg (by omega)] | rw [if_pos (by omega)])))
theorem rse_24 : mm_I (rse_ M y N q k v s fee t n) (y + 24) N = nI q ∧ mm_I (rse_ M y N q k v s fee t n) (y + 25) N = k ∧ mm_I (rse_ M y N q k v s fee t n) (y + 26) N = v ∧ mm_I (rse_ M y N q k v s fee t n) (y + 27) N = s ∧ mm_I (rse_ M y N q k v s fee t n) (y + 28) N = mm_I M y 27 ∧ mm_I (rse_ M y N q k v s fee t n) (y + 29) N = nI fee ∧ mm_I (rse_ M y N q k v s fee t n) (y + 30) N = nI t ∧ mm_I (rse_ M y N q k v s fee t n) (y + 31) N = mm_I M (y + 17) q := by
  refine ⟨?_, ?_, ?_, ?_, ?_, ?_, ?_, ?_⟩ <;> (rw [rse_I]; (repeat (first | rw [if_neg (by omega)] | rw [if_pos (by omega)])))
theorem rse_19 (i : Nat) (hi : i < 5) : mm_I (rse_ M y N q k v s fee t n) (y + 19) (5 * q + i) = mm_I M (y + 19) (5 * q + i) - nI (n i) ∧ mm_I (rse_ M y N q k v s fee t n) (y + 32) (5 * N + i) = nI (n i) := by
  refine ⟨?_, ?_⟩
  · rw [rse_I]
    (repeat (first | rw [if_neg (by omega)] | rw [if_pos (by omega)]))
    rw [show 5 * q + i - 5 * q = i from by omega]
  · rw [rse_I]
    (repeat (first | rw [if_neg (by omega)] | rw [if_pos (by omega)]))
    rw [show 5 * N + i - 5 * N = i from by omega]
theorem rse_o (z j : Nat) (h1 : ¬ (z = y ∧ (j = 1 ∨ j = 2 ∨ j = 38))) (h2 : ¬ ((z = y + 16 ∨ z = y + 17) ∧ j = q)) (h3 : ¬ (z = y + 19 ∧ 5 * q ≤ j ∧ j < 5 * q + 5)) (h4 : ¬ (y + 24 ≤ z ∧ z ≤ y + 31 ∧ j = N)) (h5 : ¬ (z = y + 32 ∧ 5 * N ≤ j)) : mm_I (rse_ M y N q k v s fee t n) z j = mm_I M z j := by
  rw [rse_I, if_neg (by omega), if_neg (by omega), if_neg (by omega), if_neg (by omega), if_neg (by omega), if_neg (by omega), if_neg (by omega), if_neg (by omega), if_neg (by omega), if_neg (by omega), if_neg (by omega), if_neg (by omega), if_neg (by omega), if_neg (by omega), if_neg (by omega)]
theorem rse_sk : md_sk M (rse_ M y N q k v s fee t n) := md_sk_sI (md_sk_sI (md_sk_tr (sea1_sk M y N q k v s fee t) (sea5_sk _ _ _ _ _ _)) y 1 0) y 2 (-1)
end RSE

theorem RW_seal {M M' M3 : mm_M} {x y w0 s0 v0 bs L P T td N tp : Nat} {xs : Nat → Int32} {pa : Nat → Nat} {ar : Nat → pr_T} {ta la : Nat → Nat} {tl : Nat → List ps_L} {pp tk pq : Nat → Nat} (c : RW_ M x y w0 s0 v0 bs L xs P T td N tp pa ar ta la tl pp tk pq) {q t fee a kk : Nat} {k v s : Int32} {n : Nat → Nat} (hq : q < P) (hN : N < 200) (a1 : 0 ≤ k) (a2 : k ≤ 9) (a3 : 0 ≤ v) (a4 : v ≤ 9999) (a5 : 1 ≤ s) (a6 : s ≤ 99) (hn : ∀ i, i < 5 → n i ≤ (ar q).2.2.2.2 i) (hF : seal_F M M' x N (pa q) a kk k v s (nI q) (mm_I M (pa q) 7) fee t n (ar q).2.2.2.2) (hC : chf_ (mm_sI M' y 0 0) M3 y) : RW_ (rse_ M3 y N q k v s fee t n) x y w0 s0 v0 bs L xs P T td (N + 1) tp pa (fun r => if r = q then ((ar q).1, (ar q).2.1, (ar q).2.2.1, (ar q).2.2.2.1, (fun i => (ar q).2.2.2.2 i - n i)) else ar r) ta la tl (fun i => if i = N then a else pp i) (fun i => if i = N then kk else tk i) (fun i => if i = N then q else pq i) := by
  have h7 := RW_T30 c
  have h8 := RW_P8 c
  have h9 := RW_N c
  have htd := RW_td c
  have hx := c.1.2.1
  have hy := c.1.2.2.1
  have hxy := c.1.1
  obtain ⟨F1, F2, F3, F4, F5, F6, F7, F8, F9, F10, F11, F12, F13, F14, F15, F16, F17, F18, F19, F20⟩ := hF
  obtain ⟨c1, c2, c3, c4, c5, c6, c7, c8, c9, c10⟩ := RW_rp c hq
  have op : pa q + 3 < x ∨ (x + 12 < pa q ∧ pa q + 3 < y) ∨ y + 34 < pa q := by
    have o0 := c3.1
    have o1 := c3.2.1
    have o2 := c3.2.2.1
    have o3 := c3.2.2.2
    unfold ou_ rg_ok_ at o0 o1 o2 o3
    omega
  obtain ⟨W, hW⟩ : ∃ W : Nat → Nat → Prop, W = fun z j => wk_ x y z j ∨ (z = x ∧ j = 9) ∨ z = pa q ∨ z = pa q + 1 ∨ (z = y ∧ j = 38) ∨ ((z = y + 16 ∨ z = y + 17) ∧ j = q) ∨ (z = y + 19 ∧ 5 * q ≤ j ∧ j < 5 * q + 5) ∨ (y + 24 ≤ z ∧ z ≤ y + 31 ∧ j = N) ∨ (z = y + 32 ∧ 5 * N ≤ j) := ⟨_, rfl⟩
  obtain ⟨V, hV⟩ : ∃ V : Nat → Prop, V = fun z => vk_ x y z ∨ z = x + 3 := ⟨_, rfl⟩
  have oa : ou_ x y a := ou_fresh hx hy F5
  have ok : ou_ x y kk := ou_fresh hx hy F6
  have e3 : ∀ z j, z ≠ y + 34 → ¬ (z = y ∧ j = 0) → mm_I M3 z j = mm_I M' z j := fun z j h1 h2 => by
    rw [hC.2.2 z j h1, mm_I_sI, if_neg h2]
  have hk9 : md_sk M3 (rse_ M3 y N q k v s fee t n) := rse_sk _ _ _ _ _ _ _ _ _ _
  have hsh : ∀ z u, mm_sh M' z = some u → mm_sh (rse_ M3 y N q k v s fee t n) z = some u := fun z u hz => by
    rw [md_sk_sh hk9, ← hz]; exact congrFun hC.1 z
  have hR : ∀ z, mm_R (rse_ M3 y N q k v s fee t n) z = mm_R M' z := fun z => by
    rw [md_sk_R hk9]
    show M3.2.2.2.1 z = M'.2.2.2.1 z
    rw [hC.2.1]; rfl
  have hc : fr_ W V M M' := fr_mono (fr_nwx (E := fun j => j = 9 ∨ j = 11) F1 (fun j hj => F20 j (by omega) (by omega))) (fun z j hz => by
    subst hW
    rcases hz with ⟨e1, e2 | e2⟩ | ⟨e1, e2 | e2 | e2 | e2 | e2⟩
    · exact (Or.inr (Or.inl ⟨e1, e2⟩))
    · exact Or.inl (Or.inl ⟨e1, Or.inl e2⟩)
    · exact absurd e2 e1
    · exact Or.inl (Or.inr (Or.inl (by omega)))
    · exact Or.inl (Or.inr (Or.inl (by omega)))
    · exact (Or.inr (Or.inr (Or.inl e2)))
    · exact (Or.inr (Or.inr (Or.inr (Or.inl e2))))) (fun z hz => by
    subst hV
    rcases hz with e | e
    · exact Or.inl (Or.inl e)
    · exact Or.inr e)
  have h3 : fr_ W V M' M3 := by
    refine fr_tr (B := mm_sI M' y 0 0) (fr_I (fr_rf _ _ M') (by subst hW; exact Or.inl (Or.inr (Or.inr (Or.inl ⟨rfl, Or.inl (by omega)⟩))))) (fr_pf hC.1 hC.2.1 (fun z j hz => hC.2.2 z j (fun e => hz (by subst hW; exact Or.inl (Or.inr (Or.inr (Or.inr (Or.inr e))))))))
  have h : fr_ W V M (rse_ M3 y N q k v s fee t n) := fr_tr hc (fr_tr h3 (fr_sk hk9 (fun z j hz => by
    subst hW
    refine rse_o _ _ _ _ _ _ _ _ _ _ z j (fun e => ?_) (fun e => hz (Or.inr (Or.inr (Or.inr (Or.inr (Or.inr (Or.inl e))))))) (fun e => hz (Or.inr (Or.inr (Or.inr (Or.inr (Or.inr (Or.inr (Or.inl e)))))))) (fun e => hz (Or.inr (Or.inr (Or.inr (Or.inr (Or.inr (Or.inr (Or.inr (Or.inl e))))))))) (fun e => hz (Or.inr (Or.inr (Or.inr (Or.inr (Or.inr (Or.inr (Or.inr (Or.inr e)))))))))
    rcases e with ⟨e1, e2 | e2 | e2⟩
    · exact hz (Or.inl (Or.inr (Or.inr (Or.inl ⟨e1, Or.inl (by omega)⟩))))
    · exact hz (Or.inl (Or.inr (Or.inr (Or.inl ⟨e1, Or.inl (by omega)⟩))))
    · exact hz (Or.inr (Or.inr (Or.inr (Or.inr (Or.inl ⟨e1, e2⟩))))))))
  obtain ⟨r1, r2, r3, r38⟩ := rse_1 M3 y N q k v s fee t n
  obtain ⟨r16, r17⟩ := rse_16 M3 y N q k v s fee t n
  obtain ⟨r24, r25, r26, r27, r28, r29, r30, r31⟩ := rse_24 M3 y N q k v s fee t n
  have r19 := rse_19 M3 y N q k v s fee t n
  have ro := rse_o M3 y N q k v s fee t n
  generalize (rse_ M3 y N q k v s fee t n) = M2 at *
  have hWok : wok_ M x y W := by
    subst hW
    rintro z j (e | e | e | e | e | e | e | e | e)
    · exact wk_ok M x y z j e
    · exact Or.inl (by unfold rg_ok_; omega)
    · rw [e]; exact Or.inr (Or.inl c2.1)
    · rw [e]; exact Or.inr (Or.inr (Or.inl c2.2.2.1))
    all_goals exact Or.inl (by unfold rg_ok_; omega)
  have hVok : vok_ x y V := by
    subst hV
    rintro z (e | e)
    · exact vk_ok x y z e
    · exact Or.inr (Or.inr (Or.inl e))
  -- what lies aside of the reference is as the other left it
  have eo : ∀ z j, ¬ (y ≤ z ∧ z ≤ y + 34) → mm_I M2 z j = mm_I M' z j := fun z j hz => by
    rw [ro z j (by omega) (by omega) (by omega) (by omega) (by omega)]
    exact e3 z j (by omega) (by omega)
  have ey' : ∀ z j, z ≤ 33 → mm_I M' (y + z) j = mm_I M (y + z) j := fun z j hz => fr_y (fr_nw F1) hy (by omega) (by show ¬ (y + z = x ∨ y + z = x + 11 ∨ y + z = x + 12 ∨ y + z = pa q ∨ y + z = pa q + 1); omega)
  have ey3 : ∀ z j, 1 ≤ z → z ≤ 33 → mm_I M3 (y + z) j = mm_I M (y + z) j := fun z j h1 h2 => by
    rw [e3 _ _ (by omega) (by omega)]; exact ey' z j h2
  have ey30 : ∀ j, 1 ≤ j → mm_I M3 y j = mm_I M y j := fun j hj => by
    rw [e3 _ _ (by omega) (by omega)]; exact ey' 0 j (by decide)
  have h11 : mm_R M2 (x + 11) 0 = some (x + 12) := by rw [hR]; exact F2
  have hX : rX_ M2 x y := by
    refine rX_of (w := 0) r1 (by rw [eo _ _ (by omega)]; exact F19) (by decide) r2 ?_
    rw [eo x 12 (by omega), F20 12 (by decide) (by decide), r3, ey30 3 (by decide)]
    exact c.2.1.2.1
  have hnew : rp1_ M2 x y T td (N + 1) q (pa q) ((ar q).1, (ar q).2.1, (ar q).2.2.1, (ar q).2.2.2.1, (fun i => (ar q).2.2.2.2 i - n i)) := by
    have f2 : ∀ j, mm_I M2 (pa q + 2) j = mm_I M (pa q + 2) j := fun j => (h _ _ c2.2.2.2.2.1).2.1 j (by subst hW; unfold wk_; omega)
    have f3 : ∀ j, mm_I M2 (pa q + 3) j = mm_I M (pa q + 3) j := fun j => (h _ _ c2.2.2.2.2.2.2).2.1 j (by subst hW; unfold wk_; omega)
    have f0 : ∀ j, mm_I M2 (pa q) j = mm_I M' (pa q) j := fun j => eo _ _ (by omega)
    have gy : ∀ k j, 14 ≤ k → k ≤ 23 → k ≠ 16 → k ≠ 17 → k ≠ 19 → mm_I M2 (y + k) j = mm_I M (y + k) j := fun k j h1 h2 h3 h4 h5 => fr_y h hy (by omega) (by subst hW; unfold wk_; omega)
    refine ⟨by rw [(h _ _ (dsk_s0 hx)).2.2 (by subst hV; unfold vk_; omega)]; exact c1, fr_prt h (by subst hV; unfold vk_; omega) c2, c3, ⟨?_, ?_, ?_⟩, ⟨?_, ?_, ?_⟩, fun u hu => ?_, fun u h1 h2 => ?_, ?_, fun i hi => ⟨?_, ?_⟩, c10⟩
    · rw [f0, F16 0 (by decide) (by decide)]; exact c4.1
    · rw [f0, F16 1 (by decide) (by decide)]; exact c4.2.1
    · rw [f0, F16 5 (by decide) (by decide)]; exact c4.2.2
    · rw [f0, F14, r16, ey3 16 q (by decide) (by decide), c5.1]
    · rw [f0, F15, r17, ey3 17 q (by decide) (by decide), c5.2.1]
    · rw [f0, F15]
      obtain ⟨z, z1, z2, e⟩ := c5.2.2
      exact ⟨z + 1, Nat.zero_le _, by omega, by rw [e, nI_1]⟩
    · rw [f2, f3]; exact c6 u hu
    · rw [f3]; exact c7 u h1 h2
    · obtain ⟨b1, b2, b3, b4⟩ := c8
      refine ⟨by rw [gy 14 q (by decide) (by decide) (by decide) (by decide) (by decide)]; exact b1, by rw [gy 15 q (by decide) (by decide) (by decide) (by decide) (by decide)]; exact b2, by rw [gy 18 q (by decide) (by decide) (by decide) (by decide) (by decide)]; exact b3, fun u hu => ?_⟩
      rw [gy 20 _ (by decide) (by decide) (by decide) (by decide) (by decide), gy 21 _ (by decide) (by decide) (by decide) (by decide) (by decide), gy 22 _ (by decide) (by decide) (by decide) (by decide) (by decide), gy 23 _ (by decide) (by decide) (by decide) (by decide) (by decide)]
      exact b4 u hu
    · rw [eo _ _ (by omega)]; exact F17 i hi
    · rw [(r19 i hi).1, ey3 19 _ (by decide) (by decide), (c9 i hi).2, pk_sub (hn i hi)]
  have hst : ∀ i, ((ar q).1, (ar q).2.1, (ar q).2.2.1, (ar q).2.2.2.1, (fun i => (ar q).2.2.2.2 i - n i)).2.2.2.2 i ≤ 10000 := fun i => by
    show (ar q).2.2.2.2 i - n i ≤ 10000
    have := c.2.2.1.2.2.2.2.2 q i
    omega
  have hP2 := rP_mod h hx hy hVok (by subst hV; unfold vk_; omega) (by subst hW; unfold wk_; omega) c.2.2.1 hq hst (Nat.le_succ N) (by omega) hnew (fun r i j hr hne hi => by have s0 := pa_sep c.2.2.1 hq hr hne hi (j := 0) (by decide); have s1 := pa_sep c.2.2.1 hq hr hne hi (j := 1) (by decide); have or_ : ou_ x y (pa r + i) := (by have or_ := (RW_rp c hr).2.2.1; (rcases (by omega : i = 0 ∨ i = 1 ∨ i = 2 ∨ i = 3) with rfl | rfl | rfl | rfl); exact or_.1; exact or_.2.1; exact or_.2.2.1; exact or_.2.2.2); clear op; unfold ou_ rg_ok_ at or_; subst hW; unfold wk_; omega) (fun r k hne h1 h2 => by subst hW; unfold wk_; omega) (fun r i hne hi => by subst hW; unfold wk_; omega) (fun r k t hne h1 h2 h3 => by subst hW; unfold wk_; omega)
  have hT2 := rT_fr h hx hy hWok hVok (by subst hV; unfold vk_; omega) (by subst hW; unfold wk_; omega) (fun k j h1 h2 => by subst hW; unfold wk_; omega) c.2.2.2.1
  have hB2 := rB_fr h hx hy (by subst hW; unfold wk_; omega) (fun j => by subst hW; unfold wk_; omega) c.2.2.2.2.2
  have hS2 := rS_fr h hWok hVok h11 c.1
  have hN2 : rN_ M2 x y P td (N + 1) pa (fun i => if i = N then a else pp i) (fun i => if i = N then kk else tk i) (fun i => if i = N then q else pq i) := by
    refine ⟨⟨by rw [eo _ _ (by omega)]; exact F18, by omega, fun i hi => ?_⟩, r38, fun i hi => ?_⟩
    · show mm_R M2 (x + 3) i = some (if i = N then a else pp i) ∧ mm_sh M2 (if i = N then a else pp i) = some (.inl 2) ∧ mm_R M2 (if i = N then a else pp i) 8 = some (if i = N then kk else tk i) ∧ mm_sh M2 (if i = N then kk else tk i) = some (.inr (0, 5))
      by_cases e : i = N
      · rw [if_pos e, if_pos e, hR, hR, e]
        exact ⟨F3, hsh _ _ F7.1, F11, hsh _ _ F12⟩
      · obtain ⟨d1, d2, d3, d4⟩ := (RW_dN c).2.2 i (by omega)
        rw [if_neg e, if_neg e, hR, F4 i e]
        refine ⟨d1, (h _ _ d2).1, ?_, (h _ _ d4).1⟩
        rw [(h _ _ d2).2.2 (fun z => by cases vok_sh hx hy hVok z d2)]; exact d3
    · show rn1_ M2 x y P td i (if i = N then a else pp i) (if i = N then kk else tk i) (if i = N then q else pq i) pa
      by_cases e : i = N
      · subst e
        rw [if_pos rfl, if_pos rfl, if_pos rfl]
        obtain ⟨g1, g2, g3, g4, g5, g6⟩ := F7
        have fa : ∀ j, mm_I M2 a j = mm_I M' a j := fun j => eo _ _ (by have q_ := oa; unfold ou_ rg_ok_ at q_; omega)
        refine ⟨⟨ok, fun r hr z => F6 _ (by rw [z]; exact (RW_rp c hr).2.1.2.2.1)⟩, ⟨by rw [fa]; exact g2, hq⟩, ⟨?_, ?_, ?_, ?_⟩, ⟨?_, ?_, ?_, ?_, ?_, ?_, ?_, ?_⟩, fun w hw => ?_⟩
        · rw [fa, g4]; exact nb_of 9999 rfl (by decide) (lo := 0) a3 (by decide) a4
        · rw [fa, g5]; exact nb_w (nb_of 99 rfl (by decide) (lo := 1) a5 (by decide) a6) (by decide) (by decide)
        · rw [fa, g6]; exact nb_w c5.2.2 (Nat.le_refl _) (by omega)
        · rw [fa, F8]; exact ⟨td, Nat.zero_le _, Nat.le_refl _, RW_10 c⟩
        · rw [fa, g2, r24]
        · rw [fa, g3, r25]
        · rw [fa, g4, r26]
        · rw [fa, g5, r27]
        · rw [fa, F8, RW_10 c, r28, ey30 27 (by decide)]; exact RW_27 c
        · rw [fa, F9, r29]
        · rw [fa, F10, r30]
        · rw [fa, g6, r31, ey3 17 q (by decide) (by decide)]; exact c5.2.1
        · rw [eo kk _ (by have q_ := ok; unfold ou_ rg_ok_ at q_; omega), F13 w hw]; exact (r19 w hw).2
      · rw [if_neg e, if_neg e, if_neg e]
        have hi2 : i < N := by omega
        obtain ⟨d1, d2, d3, d4⟩ := (RW_dN c).2.2 i hi2
        have ht_ := (RW_n1 c hi2).1
        have hk_ := ht_.1
        have hk2_ := ht_.2 q hq
        unfold ou_ rg_ok_ at hk_
        have hp0 : tk i ≠ pa q := fun e => by
          rw [e] at d4
          cases d4.symm.trans c2.1
        exact rn1_fr2 h hx hy hWok d2 d4 (fun k h1 h2 => by subst hW; unfold wk_; omega) (fun w hw => by subst hW; unfold wk_; omega) (fun j => by subst hW; unfold wk_; omega) (RW_n1 c hi2)
  exact ⟨hS2, hX, hP2, hT2, hN2, hB2⟩
