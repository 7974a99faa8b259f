section ROWS1
variable {fl : Nat} {G : mm_G} {J : mm_J} {d mc ms kc ks : Nat} {Q : Option Value → mm_M → Prop} {M : mm_M} {pc : Nat} {lv : List (Option Value)} {st : List Value}
theorem wa_iconst {n : Int} {v : Int32} (hd : decode J.2.1 pc = .ok (.iconst n, 1)) (hv : Int32.ofInt n = v) (kk : wa_ fl G J d mc ms Q kc ks M (pc + 1) lv (.int v :: st)) : wa_ fl G J d mc ms Q kc ks M pc lv st := by
  intro p l e R s m args below meth c H locs cells slots ls C hok hS hc hs hl
  exact lv_iconst C.1.1 C.1.2.1 hd hv (kk p l e R s m args below meth c H locs cells slots ls C hok hS hc hs hl)
theorem wa_bipush {n : Int} {v : Int32} (hd : decode J.2.1 pc = .ok (.bipush n, 2)) (hv : (Int8.ofInt n).toInt32 = v) (kk : wa_ fl G J d mc ms Q kc ks M (pc + 2) lv (.int v :: st)) : wa_ fl G J d mc ms Q kc ks M pc lv st := by
  intro p l e R s m args below meth c H locs cells slots ls C hok hS hc hs hl
  exact lv_bipush C.1.1 C.1.2.1 hd hv (kk p l e R s m args below meth c H locs cells slots ls C hok hS hc hs hl)
theorem wa_sipush {n : Int} {v : Int32} (hd : decode J.2.1 pc = .ok (.sipush n, 3)) (hv : (Int16.ofInt n).toInt32 = v) (kk : wa_ fl G J d mc ms Q kc ks M (pc + 3) lv (.int v :: st)) : wa_ fl G J d mc ms Q kc ks M pc lv st := by
  intro p l e R s m args below meth c H locs cells slots ls C hok hS hc hs hl
  exact lv_sipush C.1.1 C.1.2.1 hd hv (kk p l e R s m args below meth c H locs cells slots ls C hok hS hc hs hl)
theorem wa_lconst {n : Fin 2} {v : Int64} (hd : decode J.2.1 pc = .ok (.lconst n, 1)) (hv : Int64.ofNat (n : Nat) = v) (kk : wa_ fl G J d mc ms Q kc ks M (pc + 1) lv (.long v :: st)) : wa_ fl G J d mc ms Q kc ks M pc lv st := by
  intro p l e R s m args below meth c H locs cells slots ls C hok hS hc hs hl
  exact lv_lconst C.1.1 C.1.2.1 hd hv (kk p l e R s m args below meth c H locs cells slots ls C hok hS hc hs hl)
theorem wa_iload_n {k : Fin 4} {x : Int32} (hd : decode J.2.1 pc = .ok (.iload_n k, 1)) (hv : lv[(k : Nat)]? = some (some (.int x))) (kk : wa_ fl G J d mc ms Q kc ks M (pc + 1) lv (.int x :: st)) : wa_ fl G J d mc ms Q kc ks M pc lv st := by
  intro p l e R s m args below meth c H locs cells slots ls C hok hS hc hs hl
  exact lv_iload_n C.1.1 C.1.2.1 hd rfl (mm_lv_at hl hv) (kk p l e R s m args below meth c H locs cells slots ls C hok hS hc hs hl)
theorem wa_iload {i : Nat} {x : Int32} (hd : decode J.2.1 pc = .ok (.iload i, 2)) (hv : lv[i]? = some (some (.int x))) (kk : wa_ fl G J d mc ms Q kc ks M (pc + 2) lv (.int x :: st)) : wa_ fl G J d mc ms Q kc ks M pc lv st := by
  intro p l e R s m args below meth c H locs cells slots ls C hok hS hc hs hl
  exact lv_iload C.1.1 C.1.2.1 hd (mm_lv_at hl hv) (kk p l e R s m args below meth c H locs cells slots ls C hok hS hc hs hl)
theorem wa_lload_n {k : Fin 4} {x : Int64} (hd : decode J.2.1 pc = .ok (.lload_n k, 1)) (hv : lv[(k : Nat)]? = some (some (.long x))) (kk : wa_ fl G J d mc ms Q kc ks M (pc + 1) lv (.long x :: st)) : wa_ fl G J d mc ms Q kc ks M pc lv st := by
  intro p l e R s m args below meth c H locs cells slots ls C hok hS hc hs hl
  exact lv_lload_n C.1.1 C.1.2.1 hd rfl (mm_lv_at hl hv) (kk p l e R s m args below meth c H locs cells slots ls C hok hS hc hs hl)
theorem wa_lload {i : Nat} {x : Int64} (hd : decode J.2.1 pc = .ok (.lload i, 2)) (hv : lv[i]? = some (some (.long x))) (kk : wa_ fl G J d mc ms Q kc ks M (pc + 2) lv (.long x :: st)) : wa_ fl G J d mc ms Q kc ks M pc lv st := by
  intro p l e R s m args below meth c H locs cells slots ls C hok hS hc hs hl
  exact lv_lload C.1.1 C.1.2.1 hd (mm_lv_at hl hv) (kk p l e R s m args below meth c H locs cells slots ls C hok hS hc hs hl)
def mm_isr : Value → Bool
  | .ref _ => true
  | .null => true
  | _ => false
theorem wa_aload_n {k : Fin 4} {v : Value} (hd : decode J.2.1 pc = .ok (.aload_n k, 1)) (hv : lv[(k : Nat)]? = some (some v)) (hr : mm_isr v = true) (kk : wa_ fl G J d mc ms Q kc ks M (pc + 1) lv (v :: st)) : wa_ fl G J d mc ms Q kc ks M pc lv st := by
  intro p l e R s m args below meth c H locs cells slots ls C hok hS hc hs hl
  cases v with
  | ref x => exact lv_aload_n C.1.1 C.1.2.1 hd rfl (mm_lv_at hl hv) (kk p l e R s m args below meth c H locs cells slots ls C hok hS hc hs hl)
  | null => exact lv_aload_nN C.1.1 C.1.2.1 hd rfl (mm_lv_at hl hv) (kk p l e R s m args below meth c H locs cells slots ls C hok hS hc hs hl)
  | _ => cases hr
theorem wa_aload {i : Nat} {v : Value} (hd : decode J.2.1 pc = .ok (.aload i, 2)) (hv : lv[i]? = some (some v)) (hr : mm_isr v = true) (kk : wa_ fl G J d mc ms Q kc ks M (pc + 2) lv (v :: st)) : wa_ fl G J d mc ms Q kc ks M pc lv st := by
  intro p l e R s m args below meth c H locs cells slots ls C hok hS hc hs hl
  cases v with
  | ref x => exact lv_aload C.1.1 C.1.2.1 hd (mm_lv_at hl hv) (kk p l e R s m args below meth c H locs cells slots ls C hok hS hc hs hl)
  | null => exact lv_aloadN C.1.1 C.1.2.1 hd (mm_lv_at hl hv) (kk p l e R s m args below meth c H locs cells slots ls C hok hS hc hs hl)
  | _ => cases hr
theorem wa_istore_n {k : Fin 4} {x : Int32} {lv' : List (Option Value)} (hd : decode J.2.1 pc = .ok (.istore_n k, 1)) (hn : (k : Nat) < J.2.2.1) (hcat : mm_c1 lv (k : Nat) = true) (hlv : lv.set (k : Nat) (some (.int x)) = lv') (kk : wa_ fl G J d mc ms Q kc ks M (pc + 1) lv' st) : wa_ fl G J d mc ms Q kc ks M pc lv (.int x :: st) := by
  intro p l e R s m args below meth c H locs cells slots ls C hok hS hc hs hl
  exact lv_istore_n C.1.1 C.1.2.1 hd rfl hl hn rfl (fun ls' h' => kk p l e R s m args below meth c H locs cells slots ls' C hok hS hc hs (by subst hlv; exact mm_lv_set1 hcat h'))
theorem wa_istore {i : Nat} {x : Int32} {lv' : List (Option Value)} (hd : decode J.2.1 pc = .ok (.istore i, 2)) (hn : i < J.2.2.1) (hcat : mm_c1 lv i = true) (hlv : lv.set i (some (.int x)) = lv') (kk : wa_ fl G J d mc ms Q kc ks M (pc + 2) lv' st) : wa_ fl G J d mc ms Q kc ks M pc lv (.int x :: st) := by
  intro p l e R s m args below meth c H locs cells slots ls C hok hS hc hs hl
  exact lv_istore C.1.1 C.1.2.1 hd hl hn rfl (fun ls' h' => kk p l e R s m args below meth c H locs cells slots ls' C hok hS hc hs (by subst hlv; exact mm_lv_set1 hcat h'))
theorem wa_iinc {i : Nat} {n : Int} {x v : Int32} {lv' : List (Option Value)} (hd : decode J.2.1 pc = .ok (.iinc i n, 3)) (hx : lv[i]? = some (some (.int x))) (hv : x + Int32.ofInt n = v) (hn : i < J.2.2.1) (hcat : mm_c1 lv i = true) (hlv : lv.set i (some (.int v)) = lv') (kk : wa_ fl G J d mc ms Q kc ks M (pc + 3) lv' st) : wa_ fl G J d mc ms Q kc ks M pc lv st := by
  intro p l e R s m args below meth c H locs cells slots ls C hok hS hc hs hl
  obtain ⟨k, hk⟩ := List.getElem?_of_mem (mm_pl_mem.mpr hx : (i, Value.int x) ∈ mm_pl lv)
  exact lv_iinc C.1.1 C.1.2.1 hd hl hk hv hn rfl (fun ls' h' => kk p l e R s m args below meth c H locs cells slots ls' C hok hS hc hs (by subst hlv; exact mm_lv_set1 hcat h'))
theorem wa_lstore_n {k : Fin 4} {x : Int64} {lv' : List (Option Value)} (hd : decode J.2.1 pc = .ok (.lstore_n k, 1)) (hn : (k : Nat) + 1 < J.2.2.1) (hcat : mm_c1 lv (k : Nat) = true) (hlv : (lv.set (k : Nat) (some (.long x))).set ((k : Nat) + 1) none = lv') (kk : wa_ fl G J d mc ms Q kc ks M (pc + 1) lv' st) : wa_ fl G J d mc ms Q kc ks M pc lv (.long x :: st) := by
  intro p l e R s m args below meth c H locs cells slots ls C hok hS hc hs hl
  exact lv_lstore_n C.1.1 C.1.2.1 hd rfl hl hn rfl (fun ls' h' => kk p l e R s m args below meth c H locs cells slots ls' C hok hS hc hs (by subst hlv; exact mm_lv_set2 hcat h'))
theorem wa_lstore {i : Nat} {x : Int64} {lv' : List (Option Value)} (hd : decode J.2.1 pc = .ok (.lstore i, 2)) (hn : i + 1 < J.2.2.1) (hcat : mm_c1 lv i = true) (hlv : (lv.set i (some (.long x))).set (i + 1) none = lv') (kk : wa_ fl G J d mc ms Q kc ks M (pc + 2) lv' st) : wa_ fl G J d mc ms Q kc ks M pc lv (.long x :: st) := by
  intro p l e R s m args below meth c H locs cells slots ls C hok hS hc hs hl
  exact lv_lstore C.1.1 C.1.2.1 hd hl hn rfl (fun ls' h' => kk p l e R s m args below meth c H locs cells slots ls' C hok hS hc hs (by subst hlv; exact mm_lv_set2 hcat h'))
theorem wa_astore_n {k : Fin 4} {lv' : List (Option Value)} {v : Value} (hd : decode J.2.1 pc = .ok (.astore_n k, 1)) (hn : (k : Nat) < J.2.2.1) (hcat : mm_c1 lv (k : Nat) = true) (hlv : lv.set (k : Nat) (some (v)) = lv') (hr : mm_isr v = true) (kk : wa_ fl G J d mc ms Q kc ks M (pc + 1) lv' st) : wa_ fl G J d mc ms Q kc ks M pc lv (v :: st) := by
  intro p l e R s m args below meth c H locs cells slots ls C hok hS hc hs hl
  cases v with
  | ref x => exact lv_astore_n C.1.1 C.1.2.1 hd rfl hl hn rfl (fun ls' h' => kk p l e R s m args below meth c H locs cells slots ls' C hok hS hc hs (by subst hlv; exact mm_lv_set1 hcat h'))
  | null => exact lv_astore_nN C.1.1 C.1.2.1 hd rfl hl hn rfl (fun ls' h' => kk p l e R s m args below meth c H locs cells slots ls' C hok hS hc hs (by subst hlv; exact mm_lv_set1 hcat h'))
  | _ => cases hr
theorem wa_astore {i : Nat} {lv' : List (Option Value)} {v : Value} (hd : decode J.2.1 pc = .ok (.astore i, 2)) (hn : i < J.2.2.1) (hcat : mm_c1 lv i = true) (hlv : lv.set i (some (v)) = lv') (hr : mm_isr v = true) (kk : wa_ fl G J d mc ms Q kc ks M (pc + 2) lv' st) : wa_ fl G J d mc ms Q kc ks M pc lv (v :: st) := by
  intro p l e R s m args below meth c H locs cells slots ls C hok hS hc hs hl
  cases v with
  | ref x => exact lv_astore C.1.1 C.1.2.1 hd hl hn rfl (fun ls' h' => kk p l e R s m args below meth c H locs cells slots ls' C hok hS hc hs (by subst hlv; exact mm_lv_set1 hcat h'))
  | null => exact lv_astoreN C.1.1 C.1.2.1 hd hl hn rfl (fun ls' h' => kk p l e R s m args below meth c H locs cells slots ls' C hok hS hc hs (by subst hlv; exact mm_lv_set1 hcat h'))
  | _ => cases hr
theorem wa_iadd {x y : Int32} (hd : decode J.2.1 pc = .ok (.iadd, 1))  (kk : wa_ fl G J d mc ms Q kc ks M (pc + 1) lv (.int (x + y) :: st)) : wa_ fl G J d mc ms Q kc ks M pc lv (.int y :: .int x :: st) := by
  intro p l e R s m args below meth c H locs cells slots ls C hok hS hc hs hl
  exact lv_iadd C.1.1 C.1.2.1 hd (kk p l e R s m args below meth c H locs cells slots ls C hok hS hc hs hl)
theorem wa_isub {x y : Int32} (hd : decode J.2.1 pc = .ok (.isub, 1))  (kk : wa_ fl G J d mc ms Q kc ks M (pc + 1) lv (.int (x - y) :: st)) : wa_ fl G J d mc ms Q kc ks M pc lv (.int y :: .int x :: st) := by
  intro p l e R s m args below meth c H locs cells slots ls C hok hS hc hs hl
  exact lv_isub C.1.1 C.1.2.1 hd (kk p l e R s m args below meth c H locs cells slots ls C hok hS hc hs hl)
theorem wa_imul {x y : Int32} (hd : decode J.2.1 pc = .ok (.imul, 1))  (kk : wa_ fl G J d mc ms Q kc ks M (pc + 1) lv (.int (x * y) :: st)) : wa_ fl G J d mc ms Q kc ks M pc lv (.int y :: .int x :: st) := by
  intro p l e R s m args below meth c H locs cells slots ls C hok hS hc hs hl
  exact lv_imul C.1.1 C.1.2.1 hd (kk p l e R s m args below meth c H locs cells slots ls C hok hS hc hs hl)
theorem wa_iand {x y : Int32} (hd : decode J.2.1 pc = .ok (.iand, 1))  (kk : wa_ fl G J d mc ms Q kc ks M (pc + 1) lv (.int (x &&& y) :: st)) : wa_ fl G J d mc ms Q kc ks M pc lv (.int y :: .int x :: st) := by
  intro p l e R s m args below meth c H locs cells slots ls C hok hS hc hs hl
  exact lv_iand C.1.1 C.1.2.1 hd (kk p l e R s m args below meth c H locs cells slots ls C hok hS hc hs hl)
theorem wa_ishl {x y : Int32} (hd : decode J.2.1 pc = .ok (.ishl, 1))  (kk : wa_ fl G J d mc ms Q kc ks M (pc + 1) lv (.int (x <<< (y &&& 31)) :: st)) : wa_ fl G J d mc ms Q kc ks M pc lv (.int y :: .int x :: st) := by
  intro p l e R s m args below meth c H locs cells slots ls C hok hS hc hs hl
  exact lv_ishl C.1.1 C.1.2.1 hd (kk p l e R s m args below meth c H locs cells slots ls C hok hS hc hs hl)
theorem wa_ishr {x y : Int32} (hd : decode J.2.1 pc = .ok (.ishr, 1))  (kk : wa_ fl G J d mc ms Q kc ks M (pc + 1) lv (.int (x >>> (y &&& 31)) :: st)) : wa_ fl G J d mc ms Q kc ks M pc lv (.int y :: .int x :: st) := by
  intro p l e R s m args below meth c H locs cells slots ls C hok hS hc hs hl
  exact lv_ishr C.1.1 C.1.2.1 hd (kk p l e R s m args below meth c H locs cells slots ls C hok hS hc hs hl)
theorem wa_idiv {x y : Int32} (hd : decode J.2.1 pc = .ok (.idiv, 1)) (hne : ¬ y = 0) (kk : wa_ fl G J d mc ms Q kc ks M (pc + 1) lv (.int (x / y) :: st)) : wa_ fl G J d mc ms Q kc ks M pc lv (.int y :: .int x :: st) := by
  intro p l e R s m args below meth c H locs cells slots ls C hok hS hc hs hl
  exact lv_idiv C.1.1 C.1.2.1 hd hne (kk p l e R s m args below meth c H locs cells slots ls C hok hS hc hs hl)
theorem wa_irem {x y : Int32} (hd : decode J.2.1 pc = .ok (.irem, 1)) (hne : ¬ y = 0) (kk : wa_ fl G J d mc ms Q kc ks M (pc + 1) lv (.int (x - x / y * y) :: st)) : wa_ fl G J d mc ms Q kc ks M pc lv (.int y :: .int x :: st) := by
  intro p l e R s m args below meth c H locs cells slots ls C hok hS hc hs hl
  exact lv_irem C.1.1 C.1.2.1 hd hne (kk p l e R s m args below meth c H locs cells slots ls C hok hS hc hs hl)
theorem wa_iushr {x y : Int32} (hd : decode J.2.1 pc = .ok (.iushr, 1))  (kk : wa_ fl G J d mc ms Q kc ks M (pc + 1) lv (.int ((x.toUInt32 >>> (y.toUInt32 &&& Int32.toUInt32 31)).toInt32) :: st)) : wa_ fl G J d mc ms Q kc ks M pc lv (.int y :: .int x :: st) := by
  intro p l e R s m args below meth c H locs cells slots ls C hok hS hc hs hl
  exact lv_iushr C.1.1 C.1.2.1 hd rfl (kk p l e R s m args below meth c H locs cells slots ls C hok hS hc hs hl)
theorem wa_ineg {x : Int32} (hd : decode J.2.1 pc = .ok (.ineg, 1))  (kk : wa_ fl G J d mc ms Q kc ks M (pc + 1) lv (.int (-x) :: st)) : wa_ fl G J d mc ms Q kc ks M pc lv (.int x :: st) := by
  intro p l e R s m args below meth c H locs cells slots ls C hok hS hc hs hl
  exact lv_ineg C.1.1 C.1.2.1 hd (kk p l e R s m args below meth c H locs cells slots ls C hok hS hc hs hl)
theorem wa_i2l {x : Int32} (hd : decode J.2.1 pc = .ok (.i2l, 1))  (kk : wa_ fl G J d mc ms Q kc ks M (pc + 1) lv (.long x.toInt64 :: st)) : wa_ fl G J d mc ms Q kc ks M pc lv (.int x :: st) := by
  intro p l e R s m args below meth c H locs cells slots ls C hok hS hc hs hl
  exact lv_i2l C.1.1 C.1.2.1 hd rfl (kk p l e R s m args below meth c H locs cells slots ls C hok hS hc hs hl)
theorem wa_l2i {x : Int64} (hd : decode J.2.1 pc = .ok (.l2i, 1))  (kk : wa_ fl G J d mc ms Q kc ks M (pc + 1) lv (.int x.toInt32 :: st)) : wa_ fl G J d mc ms Q kc ks M pc lv (.long x :: st) := by
  intro p l e R s m args below meth c H locs cells slots ls C hok hS hc hs hl
  exact lv_l2i C.1.1 C.1.2.1 hd rfl (kk p l e R s m args below meth c H locs cells slots ls C hok hS hc hs hl)
theorem wa_i2b {x : Int32} (hd : decode J.2.1 pc = .ok (.i2b, 1))  (kk : wa_ fl G J d mc ms Q kc ks M (pc + 1) lv (.int x.toInt8.toInt32 :: st)) : wa_ fl G J d mc ms Q kc ks M pc lv (.int x :: st) := by
  intro p l e R s m args below meth c H locs cells slots ls C hok hS hc hs hl
  exact lv_i2b C.1.1 C.1.2.1 hd rfl (kk p l e R s m args below meth c H locs cells slots ls C hok hS hc hs hl)
theorem wa_i2c {x : Int32} (hd : decode J.2.1 pc = .ok (.i2c, 1))  (kk : wa_ fl G J d mc ms Q kc ks M (pc + 1) lv (.int (x.toUInt32 % 65536).toInt32 :: st)) : wa_ fl G J d mc ms Q kc ks M pc lv (.int x :: st) := by
  intro p l e R s m args below meth c H locs cells slots ls C hok hS hc hs hl
  exact lv_i2c C.1.1 C.1.2.1 hd rfl (kk p l e R s m args below meth c H locs cells slots ls C hok hS hc hs hl)
theorem wa_ladd {x y : Int64} (hd : decode J.2.1 pc = .ok (.ladd, 1))  (kk : wa_ fl G J d mc ms Q kc ks M (pc + 1) lv (.long (x + y) :: st)) : wa_ fl G J d mc ms Q kc ks M pc lv (.long y :: .long x :: st) := by
  intro p l e R s m args below meth c H locs cells slots ls C hok hS hc hs hl
  exact lv_ladd C.1.1 C.1.2.1 hd (kk p l e R s m args below meth c H locs cells slots ls C hok hS hc hs hl)
theorem wa_lsub {x y : Int64} (hd : decode J.2.1 pc = .ok (.lsub, 1))  (kk : wa_ fl G J d mc ms Q kc ks M (pc + 1) lv (.long (x - y) :: st)) : wa_ fl G J d mc ms Q kc ks M pc lv (.long y :: .long x :: st) := by
  intro p l e R s m args below meth c H locs cells slots ls C hok hS hc hs hl
  exact lv_lsub C.1.1 C.1.2.1 hd (kk p l e R s m args below meth c H locs cells slots ls C hok hS hc hs hl)
theorem wa_lmul {x y : Int64} (hd : decode J.2.1 pc = .ok (.lmul, 1))  (kk : wa_ fl G J d mc ms Q kc ks M (pc + 1) lv (.long (x * y) :: st)) : wa_ fl G J d mc ms Q kc ks M pc lv (.long y :: .long x :: st) := by
  intro p l e R s m args below meth c H locs cells slots ls C hok hS hc hs hl
  exact lv_lmul C.1.1 C.1.2.1 hd (kk p l e R s m args below meth c H locs cells slots ls C hok hS hc hs hl)
theorem wa_land {x y : Int64} (hd : decode J.2.1 pc = .ok (.land, 1))  (kk : wa_ fl G J d mc ms Q kc ks M (pc + 1) lv (.long (x &&& y) :: st)) : wa_ fl G J d mc ms Q kc ks M pc lv (.long y :: .long x :: st) := by
  intro p l e R s m args below meth c H locs cells slots ls C hok hS hc hs hl
  exact lv_land C.1.1 C.1.2.1 hd (kk p l e R s m args below meth c H locs cells slots ls C hok hS hc hs hl)
theorem wa_lshl {x : Int64} {y : Int32} (hd : decode J.2.1 pc = .ok (.lshl, 1))  (kk : wa_ fl G J d mc ms Q kc ks M (pc + 1) lv (.long (x <<< (y.toInt64 &&& 63)) :: st)) : wa_ fl G J d mc ms Q kc ks M pc lv (.int y :: .long x :: st) := by
  intro p l e R s m args below meth c H locs cells slots ls C hok hS hc hs hl
  exact lv_lshl C.1.1 C.1.2.1 hd rfl (kk p l e R s m args below meth c H locs cells slots ls C hok hS hc hs hl)
theorem wa_lshr {x : Int64} {y : Int32} (hd : decode J.2.1 pc = .ok (.lshr, 1))  (kk : wa_ fl G J d mc ms Q kc ks M (pc + 1) lv (.long (x >>> (y.toInt64 &&& 63)) :: st)) : wa_ fl G J d mc ms Q kc ks M pc lv (.int y :: .long x :: st) := by
  intro p l e R s m args below meth c H locs cells slots ls C hok hS hc hs hl
  exact lv_lshr C.1.1 C.1.2.1 hd rfl (kk p l e R s m args below meth c H locs cells slots ls C hok hS hc hs hl)
theorem wa_lcmp {x y : Int64} (hd : decode J.2.1 pc = .ok (.lcmp, 1))  (kk : wa_ fl G J d mc ms Q kc ks M (pc + 1) lv (.int (lg_cmp x y) :: st)) : wa_ fl G J d mc ms Q kc ks M pc lv (.long y :: .long x :: st) := by
  intro p l e R s m args below meth c H locs cells slots ls C hok hS hc hs hl
  exact W.lcmp C.1.1 C.1.2.1 hd (kk p l e R s m args below meth c H locs cells slots ls C hok hS hc hs hl)
theorem wa_dup {v : Value} (hd : decode J.2.1 pc = .ok (.dup, 1)) (hv : v.category = 1) (kk : wa_ fl G J d mc ms Q kc ks M (pc + 1) lv (v :: v :: st)) : wa_ fl G J d mc ms Q kc ks M pc lv (v :: st) := by
  intro p l e R s m args below meth c H locs cells slots ls C hok hS hc hs hl
  exact lv_dup C.1.1 C.1.2.1 hd hv (kk p l e R s m args below meth c H locs cells slots ls C hok hS hc hs hl)
theorem wa_pop {v : Value} (hd : decode J.2.1 pc = .ok (.pop, 1)) (hv : v.category = 1) (kk : wa_ fl G J d mc ms Q kc ks M (pc + 1) lv st) : wa_ fl G J d mc ms Q kc ks M pc lv (v :: st) := by
  intro p l e R s m args below meth c H locs cells slots ls C hok hS hc hs hl
  exact lv_pop C.1.1 C.1.2.1 hd hv (kk p l e R s m args below meth c H locs cells slots ls C hok hS hc hs hl)
theorem wa_dup2 {v w : Value} (hd : decode J.2.1 pc = .ok (.dup2, 1)) (hv : v.category = 1) (hw : w.category = 1) (kk : wa_ fl G J d mc ms Q kc ks M (pc + 1) lv (v :: w :: v :: w :: st)) : wa_ fl G J d mc ms Q kc ks M pc lv (v :: w :: st) := by
  intro p l e R s m args below meth c H locs cells slots ls C hok hS hc hs hl
  exact lv_dup2_11 C.1.1 C.1.2.1 hd hv hw (kk p l e R s m args below meth c H locs cells slots ls C hok hS hc hs hl)
theorem wa_null  (hd : decode J.2.1 pc = .ok (.aconst_null, 1))  (kk : wa_ fl G J d mc ms Q kc ks M (pc + 1) lv (.null :: st)) : wa_ fl G J d mc ms Q kc ks M pc lv st := by
  intro p l e R s m args below meth c H locs cells slots ls C hok hS hc hs hl
  exact lv_null C.1.1 C.1.2.1 hd (kk p l e R s m args below meth c H locs cells slots ls C hok hS hc hs hl)
theorem wa_ldc {i : Nat} {v : Int32} (hd : decode J.2.1 pc = .ok (.ldc i, 2)) (hw : Cond.constant J.1.cls i v ∈ gt_ws) (kk : wa_ fl G J d mc ms Q kc ks M (pc + 2) lv (.int v :: st)) : wa_ fl G J d mc ms Q kc ks M pc lv st := by
  intro p l e R s m args below meth c H locs cells slots ls C hok hS hc hs hl
  exact lv_ldc C.1.1 C.1.2.1 C.1.2.2.2.1 (C.1.2.2.2.2 _ hw) hd (kk p l e R s m args below meth c H locs cells slots ls C hok hS hc hs hl)
theorem wa_ldc2 {i : Nat} {v : Int64} (hd : decode J.2.1 pc = .ok (.ldc2_w i, 3)) (hw : Cond.constantLong J.1.cls i v ∈ gt_ws) (kk : wa_ fl G J d mc ms Q kc ks M (pc + 3) lv (.long v :: st)) : wa_ fl G J d mc ms Q kc ks M pc lv st := by
  intro p l e R s m args below meth c H locs cells slots ls C hok hS hc hs hl
  exact lv_ldc2 C.1.1 C.1.2.1 C.1.2.2.2.1 (C.1.2.2.2.2 _ hw) hd (kk p l e R s m args below meth c H locs cells slots ls C hok hS hc hs hl)
theorem wa_ldcS {i k : Nat} {tx : String} (hd : decode J.2.1 pc = .ok (.ldc i, 2)) (hw : (J.1.cls, i, tx, k) ∈ mm_tr) (kk : wa_ fl G J d mc ms Q kc ks M (pc + 2) lv (.ref (G.2.2.2.2.1 k) :: st)) : wa_ fl G J d mc ms Q kc ks M pc lv st := by
  intro p l e R s m args below meth c H locs cells slots ls C hok hS hc hs hl
  exact va_ldcS C.1.1 C.1.2.1 C.1.2.2.2.1 (C.2.2.2.2.1.2.2 _ hw) hd (kk p l e R s m args below meth c H locs cells slots ls C hok hS hc hs hl)
theorem wa_if_eq {x : Int32} {off : Int} {tgt : Nat} (hd : decode J.2.1 pc = .ok (.ifCond .eq off, 3)) (ht : (pc : Int) + off = (tgt : Int)) (kt : x = 0 → wa_ fl G J d mc ms Q kc ks M tgt lv st) (kf : ¬ x = 0 → wa_ fl G J d mc ms Q kc ks M (pc + 3) lv st) : wa_ fl G J d mc ms Q kc ks M pc lv (.int x :: st) := by
  intro p l e R s m args below meth c H locs cells slots ls C hok hS hc hs hl
  exact lv_if_eq C.1.1 C.1.2.1 hd ht (fun q => kt q p l e R s m args below meth c H locs cells slots ls C hok hS hc hs hl) (fun q => kf q p l e R s m args below meth c H locs cells slots ls C hok hS hc hs hl)
theorem wa_icmp_eq {x y : Int32} {off : Int} {tgt : Nat} (hd : decode J.2.1 pc = .ok (.if_icmp .eq off, 3)) (ht : (pc : Int) + off = (tgt : Int)) (kt : x = y → wa_ fl G J d mc ms Q kc ks M tgt lv st) (kf : ¬ x = y → wa_ fl G J d mc ms Q kc ks M (pc + 3) lv st) : wa_ fl G J d mc ms Q kc ks M pc lv (.int y :: .int x :: st) := by
  intro p l e R s m args below meth c H locs cells slots ls C hok hS hc hs hl
  exact lv_icmp_eq C.1.1 C.1.2.1 hd ht (fun q => kt q p l e R s m args below meth c H locs cells slots ls C hok hS hc hs hl) (fun q => kf q p l e R s m args below meth c H locs cells slots ls C hok hS hc hs hl)
theorem wa_if_ne {x : Int32} {off : Int} {tgt : Nat} (hd : decode J.2.1 pc = .ok (.ifCond .ne off, 3)) (ht : (pc : Int) + off = (tgt : Int)) (kt : (¬ x = 0) → wa_ fl G J d mc ms Q kc ks M tgt lv st) (kf : x = 0 → wa_ fl G J d mc ms Q kc ks M (pc + 3) lv st) : wa_ fl G J d mc ms Q kc ks M pc lv (.int x :: st) := by
  intro p l e R s m args below meth c H locs cells slots ls C hok hS hc hs hl
  exact lv_if_ne C.1.1 C.1.2.1 hd ht (fun q => kt q p l e R s m args below meth c H locs cells slots ls C hok hS hc hs hl) (fun q => kf q p l e R s m args below meth c H locs cells slots ls C hok hS hc hs hl)
theorem wa_icmp_ne {x y : Int32} {off : Int} {tgt : Nat} (hd : decode J.2.1 pc = .ok (.if_icmp .ne off, 3)) (ht : (pc : Int) + off = (tgt : Int)) (kt : (¬ x = y) → wa_ fl G J d mc ms Q kc ks M tgt lv st) (kf : x = y → wa_ fl G J d mc ms Q kc ks M (pc + 3) lv st) : wa_ fl G J d mc ms Q kc ks M pc lv (.int y :: .int x :: st) := by
  intro p l e R s m args below meth c H locs cells slots ls C hok hS hc hs hl
  exact lv_icmp_ne C.1.1 C.1.2.1 hd ht (fun q => kt q p l e R s m args below meth c H locs cells slots ls C hok hS hc hs hl) (fun q => kf q p l e R s m args below meth c H locs cells slots ls C hok hS hc hs hl)
theorem wa_if_lt {x : Int32} {off : Int} {tgt : Nat} (hd : decode J.2.1 pc = .ok (.ifCond .lt off, 3)) (ht : (pc : Int) + off = (tgt : Int)) (kt : x < 0 → wa_ fl G J d mc ms Q kc ks M tgt lv st) (kf : ¬ x < 0 → wa_ fl G J d mc ms Q kc ks M (pc + 3) lv st) : wa_ fl G J d mc ms Q kc ks M pc lv (.int x :: st) := by
  intro p l e R s m args below meth c H locs cells slots ls C hok hS hc hs hl
  exact lv_if_lt C.1.1 C.1.2.1 hd ht (fun q => kt q p l e R s m args below meth c H locs cells slots ls C hok hS hc hs hl) (fun q => kf q p l e R s m args below meth c H locs cells slots ls C hok hS hc hs hl)
theorem wa_icmp_lt {x y : Int32} {off : Int} {tgt : Nat} (hd : decode J.2.1 pc = .ok (.if_icmp .lt off, 3)) (ht : (pc : Int) + off = (tgt : Int)) (kt : x < y → wa_ fl G J d mc ms Q kc ks M tgt lv st) (kf : ¬ x < y → wa_ fl G J d mc ms Q kc ks M (pc + 3) lv st) : wa_ fl G J d mc ms Q kc ks M pc lv (.int y :: .int x :: st) := by
  intro p l e R s m args below meth c H locs cells slots ls C hok hS hc hs hl
  exact lv_icmp_lt C.1.1 C.1.2.1 hd ht (fun q => kt q p l e R s m args below meth c H locs cells slots ls C hok hS hc hs hl) (fun q => kf q p l e R s m args below meth c H locs cells slots ls C hok hS hc hs hl)
theorem wa_if_ge {x : Int32} {off : Int} {tgt : Nat} (hd : decode J.2.1 pc = .ok (.ifCond .ge off, 3)) (ht : (pc : Int) + off = (tgt : Int)) (kt : 0 ≤ x → wa_ fl G J d mc ms Q kc ks M tgt lv st) (kf : ¬ 0 ≤ x → wa_ fl G J d mc ms Q kc ks M (pc + 3) lv st) : wa_ fl G J d mc ms Q kc ks M pc lv (.int x :: st) := by
  intro p l e R s m args below meth c H locs cells slots ls C hok hS hc hs hl
  exact lv_if_ge C.1.1 C.1.2.1 hd ht (fun q => kt q p l e R s m args below meth c H locs cells slots ls C hok hS hc hs hl) (fun q => kf q p l e R s m args below meth c H locs cells slots ls C hok hS hc hs hl)
theorem wa_icmp_ge {x y : Int32} {off : Int} {tgt : Nat} (hd : decode J.2.1 pc = .ok (.if_icmp .ge off, 3)) (ht : (pc : Int) + off = (tgt : Int)) (kt : y ≤ x → wa_ fl G J d mc ms Q kc ks M tgt lv st) (kf : ¬ y ≤ x → wa_ fl G J d mc ms Q kc ks M (pc + 3) lv st) : wa_ fl G J d mc ms Q kc ks M pc lv (.int y :: .int x :: st) := by
  intro p l e R s m args below meth c H locs cells slots ls C hok hS hc hs hl
  exact lv_icmp_ge C.1.1 C.1.2.1 hd ht (fun q => kt q p l e R s m args below meth c H locs cells slots ls C hok hS hc hs hl) (fun q => kf q p l e R s m args below meth c H locs cells slots ls C hok hS hc hs hl)
theorem wa_if_gt {x : Int32} {off : Int} {tgt : Nat} (hd : decode J.2.1 pc = .ok (.ifCond .gt off, 3)) (ht : (pc : Int) + off = (tgt : Int)) (kt : 0 < x → wa_ fl G J d mc ms Q kc ks M tgt lv st) (kf : ¬ 0 < x → wa_ fl G J d mc ms Q kc ks M (pc + 3) lv st) : wa_ fl G J d mc ms Q kc ks M pc lv (.int x :: st) := by
  intro p l e R s m args below meth c H locs cells slots ls C hok hS hc hs hl
  exact lv_if_gt C.1.1 C.1.2.1 hd ht (fun q => kt q p l e R s m args below meth c H locs cells slots ls C hok hS hc hs hl) (fun q => kf q p l e R s m args below meth c H locs cells slots ls C hok hS hc hs hl)
theorem wa_icmp_gt {x y : Int32} {off : Int} {tgt : Nat} (hd : decode J.2.1 pc = .ok (.if_icmp .gt off, 3)) (ht : (pc : Int) + off = (tgt : Int)) (kt : y < x → wa_ fl G J d mc ms Q kc ks M tgt lv st) (kf : ¬ y < x → wa_ fl G J d mc ms Q kc ks M (pc + 3) lv st) : wa_ fl G J d mc ms Q kc ks M pc lv (.int y :: .int x :: st) := by
  intro p l e R s m args below meth c H locs cells slots ls C hok hS hc hs hl
  exact lv_icmp_gt C.1.1 C.1.2.1 hd ht (fun q => kt q p l e R s m args below meth c H locs cells slots ls C hok hS hc hs hl) (fun q => kf q p l e R s m args below meth c H locs cells slots ls C hok hS hc hs hl)
theorem wa_if_le {x : Int32} {off : Int} {tgt : Nat} (hd : decode J.2.1 pc = .ok (.ifCond .le off, 3)) (ht : (pc : Int) + off = (tgt : Int)) (kt : x ≤ 0 → wa_ fl G J d mc ms Q kc ks M tgt lv st) (kf : ¬ x ≤ 0 → wa_ fl G J d mc ms Q kc ks M (pc + 3) lv st) : wa_ fl G J d mc ms Q kc ks M pc lv (.int x :: st) := by
  intro p l e R s m args below meth c H locs cells slots ls C hok hS hc hs hl
  exact lv_if_le C.1.1 C.1.2.1 hd ht (fun q => kt q p l e R s m args below meth c H locs cells slots ls C hok hS hc hs hl) (fun q => kf q p l e R s m args below meth c H locs cells slots ls C hok hS hc hs hl)
theorem wa_icmp_le {x y : Int32} {off : Int} {tgt : Nat} (hd : decode J.2.1 pc = .ok (.if_icmp .le off, 3)) (ht : (pc : Int) + off = (tgt : Int)) (kt : x ≤ y → wa_ fl G J d mc ms Q kc ks M tgt lv st) (kf : ¬ x ≤ y → wa_ fl G J d mc ms Q kc ks M (pc + 3) lv st) : wa_ fl G J d mc ms Q kc ks M pc lv (.int y :: .int x :: st) := by
  intro p l e R s m args below meth c H locs cells slots ls C hok hS hc hs hl
  exact lv_icmp_le C.1.1 C.1.2.1 hd ht (fun q => kt q p l e R s m args below meth c H locs cells slots ls C hok hS hc hs hl) (fun q => kf q p l e R s m args below meth c H locs cells slots ls C hok hS hc hs hl)
theorem wa_goto {off : Int} {tgt : Nat} (hd : decode J.2.1 pc = .ok (.goto off, 3)) (ht : (pc : Int) + off = (tgt : Int)) (kk : wa_ fl G J d mc ms Q kc ks M tgt lv st) : wa_ fl G J d mc ms Q kc ks M pc lv st := by
  intro p l e R s m args below meth c H locs cells slots ls C hok hS hc hs hl
  exact lv_goto C.1.1 C.1.2.1 hd ht (kk p l e R s m args below meth c H locs cells slots ls C hok hS hc hs hl)
theorem wa_ifnullR {x : Nat} {off : Int} (hd : decode J.2.1 pc = .ok (.ifnull off, 3)) (kk : wa_ fl G J d mc ms Q kc ks M (pc + 3) lv st) : wa_ fl G J d mc ms Q kc ks M pc lv (.ref x :: st) := by
  intro p l e R s m args below meth c H locs cells slots ls C hok hS hc hs hl
  exact lv_ifnull C.1.1 C.1.2.1 hd (kk p l e R s m args below meth c H locs cells slots ls C hok hS hc hs hl)
theorem wa_ifnullN {off : Int} {tgt : Nat} (hd : decode J.2.1 pc = .ok (.ifnull off, 3)) (ht : (pc : Int) + off = (tgt : Int)) (kk : wa_ fl G J d mc ms Q kc ks M tgt lv st) : wa_ fl G J d mc ms Q kc ks M pc lv (.null :: st) := by
  intro p l e R s m args below meth c H locs cells slots ls C hok hS hc hs hl
  exact lv_ifnullN C.1.1 C.1.2.1 hd ht (kk p l e R s m args below meth c H locs cells slots ls C hok hS hc hs hl)
theorem wa_ifnonnullR {x : Nat} {off : Int} {tgt : Nat} (hd : decode J.2.1 pc = .ok (.ifnonnull off, 3)) (ht : (pc : Int) + off = (tgt : Int)) (kk : wa_ fl G J d mc ms Q kc ks M tgt lv st) : wa_ fl G J d mc ms Q kc ks M pc lv (.ref x :: st) := by
  intro p l e R s m args below meth c H locs cells slots ls C hok hS hc hs hl
  exact lv_ifnonnull C.1.1 C.1.2.1 hd ht (kk p l e R s m args below meth c H locs cells slots ls C hok hS hc hs hl)
theorem wa_ifnonnullN {off : Int} (hd : decode J.2.1 pc = .ok (.ifnonnull off, 3)) (kk : wa_ fl G J d mc ms Q kc ks M (pc + 3) lv st) : wa_ fl G J d mc ms Q kc ks M pc lv (.null :: st) := by
  intro p l e R s m args below meth c H locs cells slots ls C hok hS hc hs hl
  exact lv_ifnonnullN C.1.1 C.1.2.1 hd (kk p l e R s m args below meth c H locs cells slots ls C hok hS hc hs hl)
theorem wa_tableOut {dflt lo hi : Int} {offs : Array Int} {len : Nat} {x : Int32} {tgt : Nat} (hd : decode J.2.1 pc = .ok (.tableswitch dflt lo hi offs, len)) (h : x.toInt < lo ∨ hi < x.toInt) (ht : (pc : Int) + dflt = (tgt : Int)) (kk : wa_ fl G J d mc ms Q kc ks M tgt lv st) : wa_ fl G J d mc ms Q kc ks M pc lv (.int x :: st) := by
  intro p l e R s m args below meth c H locs cells slots ls C hok hS hc hs hl
  exact lv_tableOut C.1.1 C.1.2.1 hd h ht (kk p l e R s m args below meth c H locs cells slots ls C hok hS hc hs hl)
theorem wa_tableIn {dflt lo hi : Int} {offs : Array Int} {len : Nat} {x : Int32} {off : Int} {tgt : Nat} (hd : decode J.2.1 pc = .ok (.tableswitch dflt lo hi offs, len)) (h1 : ¬ x.toInt < lo) (h2 : ¬ hi < x.toInt) (ho : offs[(x.toInt - lo).toNat]? = some off) (ht : (pc : Int) + off = (tgt : Int)) (kk : wa_ fl G J d mc ms Q kc ks M tgt lv st) : wa_ fl G J d mc ms Q kc ks M pc lv (.int x :: st) := by
  intro p l e R s m args below meth c H locs cells slots ls C hok hS hc hs hl
  exact lv_tableIn C.1.1 C.1.2.1 hd h1 h2 ho ht (kk p l e R s m args below meth c H locs cells slots ls C hok hS hc hs hl)
theorem wa_lv {lv' : List (Option Value)} (hs' : ∀ (i : Nat) (v : Value), lv'[i]? = some (some v) → lv[i]? = some (some v)) (kk : wa_ fl G J d mc ms Q kc ks M pc lv' st) : wa_ fl G J d mc ms Q kc ks M pc lv st := by
  intro p l e R s m args below meth c H locs cells slots ls C hok hS hc hs hl
  exact kk p l e R s m args below meth c H locs cells slots ls C hok hS hc hs (mm_lv_weak hl hs')
theorem wa_kc {kc' ks' : Nat} (h1 : kc' ≤ kc) (h2 : ks' ≤ ks) (kk : wa_ fl G J d mc ms Q kc' ks' M pc lv st) : wa_ fl G J d mc ms Q kc ks M pc lv st := by
  intro p l e R s m args below meth c H locs cells slots ls C hok hS hc hs hl
  exact kk p l e R s m args below meth c H locs cells slots ls C hok hS (Nat.le_trans (Nat.add_le_add_left h1 _) hc) (Nat.le_trans (Nat.add_le_add_left h2 _) hs) hl
theorem wa_topi {x : Int32} (kk : ∀ y : Int32, y = x → wa_ fl G J d mc ms Q kc ks M pc lv (.int y :: st)) : wa_ fl G J d mc ms Q kc ks M pc lv (.int x :: st) := kk x rfl
theorem wa_lt {a : Nat} {t : mm_S} (ha : mm_sh M a = some t) (kk : a < mm_z M → wa_ fl G J d mc ms Q kc ks M pc lv st) : wa_ fl G J d mc ms Q kc ks M pc lv st := by
  intro p l e R s m args below meth c H locs cells slots ls C hok hS hc hs hl
  exact kk (mm_ok_lt hok ha) p l e R s m args below meth c H locs cells slots ls C hok hS hc hs hl
theorem wa_iret {v : Int32} (hd : decode J.2.1 pc = .ok (.ireturn, 1)) (hr : J.2.2.2 = some .int) (hQ : Q (some (.int v)) M) : wa_ 0 G J d mc ms Q kc ks M pc lv [(.int v)] := by
  intro p l e R s m args below meth c H locs cells slots ls C hok hS hc hs hl
  refine W.widen (k := mc) (n := ms) (by omega) (by omega) ?_
  exact W.iret (v := v) C.1.1 C.1.2.1 (C.2.1.trans hr) (fun t ht hW => ⟨⟨_, M, rfl, hQ, by rw [ht]; exact mm_ok_moved hW.alike hok⟩, hS.F ht⟩) hS.2.2 hd C.2.2.1
theorem wa_zret {v : Int32} {ty : FieldType} (hd : decode J.2.1 pc = .ok (.ireturn, 1)) (hr : J.2.2.2 = some ty) (hn : narrow ty (.int v) = .int v) (hQ : Q (some (.int v)) M) : wa_ 0 G J d mc ms Q kc ks M pc lv [(.int v)] := by
  intro p l e R s m args below meth c H locs cells slots ls C hok hS hc hs hl
  refine W.widen (k := mc) (n := ms) (by omega) (by omega) ?_
  exact W.zret (v := v) C.1.1 C.1.2.1 (C.2.1.trans hr) hn (fun t ht hW => ⟨⟨_, M, rfl, hQ, by rw [ht]; exact mm_ok_moved hW.alike hok⟩, hS.F ht⟩) hS.2.2 hd C.2.2.1
theorem wa_lret {v : Int64} (hd : decode J.2.1 pc = .ok (.lreturn, 1)) (hr : J.2.2.2 = some .long) (hQ : Q (some (.long v)) M) : wa_ 0 G J d mc ms Q kc ks M pc lv [(.long v)] := by
  intro p l e R s m args below meth c H locs cells slots ls C hok hS hc hs hl
  refine W.widen (k := mc) (n := ms) (by omega) (by omega) ?_
  exact W.lret (v := v) C.1.1 C.1.2.1 (C.2.1.trans hr) (fun t ht hW => ⟨⟨_, M, rfl, hQ, by rw [ht]; exact mm_ok_moved hW.alike hok⟩, hS.F ht⟩) hS.2.2 hd C.2.2.1
theorem wa_vret  (hd : decode J.2.1 pc = .ok (.return_, 1)) (hr : J.2.2.2 = none) (hQ : Q none M) : wa_ 0 G J d mc ms Q kc ks M pc lv [] := by
  intro p l e R s m args below meth c H locs cells slots ls C hok hS hc hs hl
  refine W.widen (k := mc) (n := ms) (by omega) (by omega) ?_
  exact W.vret C.1.1 C.1.2.1 (C.2.1.trans hr) (fun t ht hW => ⟨⟨_, M, rfl, hQ, by rw [ht]; exact mm_ok_moved hW.alike hok⟩, hS.F ht⟩) hS.2.2 hd C.2.2.1
theorem wa_aret {v : Value} {ty : FieldType} (hd : decode J.2.1 pc = .ok (.areturn, 1)) (hr : J.2.2.2 = some ty) (hty : (∃ n, ty = .object n) ∨ ∃ t, ty = .array t) (hv : mm_isr v = true) (hQ : Q (some v) M) : wa_ 0 G J d mc ms Q kc ks M pc lv [v] := by
  intro p l e R s m args below meth c H locs cells slots ls C hok hS hc hs hl
  refine W.widen (k := mc) (n := ms) (by omega) (by omega) ?_
  exact W.aret (v := v) C.1.1 C.1.2.1 (C.2.1.trans hr) hty (by cases v with
    | ref x => exact Or.inr ⟨x, rfl⟩
    | null => exact Or.inl rfl
    | _ => cases hv) (fun t ht hW => ⟨⟨_, M, rfl, hQ, by rw [ht]; exact mm_ok_moved hW.alike hok⟩, hS.F ht⟩) hS.2.2 hd C.2.2.1
end ROWS1
