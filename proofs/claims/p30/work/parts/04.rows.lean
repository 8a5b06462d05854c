section RW
variable {g : Gh} {M : Md} {mc ms cu su n pc : Nat} {L : List (Option Vv)} {st : List Vv} {rp : RPt} {hp : HPt} {P : Pst}
theorem r_iconst {i : Int} {v : Int32} (hd : decode (mC M) pc = .ok (.iconst i, 1)) (hv : Int32.ofInt i = v) (k : V g M mc ms cu su n (pc + 1) L (vI v :: st) rp hp P) : V g M mc ms cu su n pc L (st) rp hp P := by
  intro p l e R s m args below meth c Q C RT H locs LS hH hS hl
  exact lv_iconst C.1 C.2.1 hd hv (k p l e R s m args below meth c Q C RT H locs LS hH hS hl)
theorem r_bipush {i : Int} {v : Int32} (hd : decode (mC M) pc = .ok (.bipush i, 2)) (hv : (Int8.ofInt i).toInt32 = v) (k : V g M mc ms cu su n (pc + 2) L (vI v :: st) rp hp P) : V g M mc ms cu su n pc L (st) rp hp P := by
  intro p l e R s m args below meth c Q C RT H locs LS hH hS hl
  exact lv_bipush C.1 C.2.1 hd hv (k p l e R s m args below meth c Q C RT H locs LS hH hS hl)
theorem r_sipush {i : Int} {v : Int32} (hd : decode (mC M) pc = .ok (.sipush i, 3)) (hv : (Int16.ofInt i).toInt32 = v) (k : V g M mc ms cu su n (pc + 3) L (vI v :: st) rp hp P) : V g M mc ms cu su n pc L (st) rp hp P := by
  intro p l e R s m args below meth c Q C RT H locs LS hH hS hl
  exact lv_sipush C.1 C.2.1 hd hv (k p l e R s m args below meth c Q C RT H locs LS hH hS hl)
theorem r_lconst {i : Fin 2} {v : Int64} (hd : decode (mC M) pc = .ok (.lconst i, 1)) (hv : Int64.ofNat (i : Nat) = v) (k : V g M mc ms cu su n (pc + 1) L (vJ v :: st) rp hp P) : V g M mc ms cu su n pc L (st) rp hp P := by
  intro p l e R s m args below meth c Q C RT H locs LS hH hS hl
  exact lv_lconst C.1 C.2.1 hd hv (k p l e R s m args below meth c Q C RT H locs LS hH hS hl)
theorem r_ldc {i : Nat} {v : Int32} (hd : decode (mC M) pc = .ok (.ldc i, 2)) (hw : Jvm.Cond.constant (mK M) i v ∈ lw_good) (k : V g M mc ms cu su n (pc + 2) L (vI v :: st) rp hp P) : V g M mc ms cu su n pc L (st) rp hp P := by
  intro p l e R s m args below meth c Q C RT H locs LS hH hS hl
  exact lv_ldc C.1 C.2.1 C.2.2.2.2.1 (C.2.2.2.2.2.1 _ hw) hd (k p l e R s m args below meth c Q C RT H locs LS hH hS hl)
theorem r_ldc2 {i : Nat} {v : Int64} (hd : decode (mC M) pc = .ok (.ldc2_w i, 3)) (hw : Jvm.Cond.constantLong (mK M) i v ∈ lw_good) (k : V g M mc ms cu su n (pc + 3) L (vJ v :: st) rp hp P) : V g M mc ms cu su n pc L (st) rp hp P := by
  intro p l e R s m args below meth c Q C RT H locs LS hH hS hl
  exact lv_ldc2 C.1 C.2.1 C.2.2.2.2.1 (C.2.2.2.2.2.1 _ hw) hd (k p l e R s m args below meth c Q C RT H locs LS hH hS hl)
theorem r_iload_n {j : Fin 4} {i : Nat} {x : Int32} (hd : decode (mC M) pc = .ok (.iload_n j, 1)) (hi : (j : Nat) = i) (hv : L[i]? = some (some (vI x))) (k : V g M mc ms cu su n (pc + 1) L (vI x :: st) rp hp P) : V g M mc ms cu su n pc L (st) rp hp P := by
  intro p l e R s m args below meth c Q C RT H locs LS hH hS hl
  exact lv_iload_n C.1 C.2.1 hd hi (cvL_at hl hv) (k p l e R s m args below meth c Q C RT H locs LS hH hS hl)
theorem r_iload {i : Nat} {x : Int32} (hd : decode (mC M) pc = .ok (.iload i, 2)) (hv : L[i]? = some (some (vI x))) (k : V g M mc ms cu su n (pc + 2) L (vI x :: st) rp hp P) : V g M mc ms cu su n pc L (st) rp hp P := by
  intro p l e R s m args below meth c Q C RT H locs LS hH hS hl
  exact lv_iload C.1 C.2.1 hd (cvL_at hl hv) (k p l e R s m args below meth c Q C RT H locs LS hH hS hl)
theorem r_aload_n {j : Fin 4} {i : Nat} {x : A4} (hd : decode (mC M) pc = .ok (.aload_n j, 1)) (hi : (j : Nat) = i) (hv : L[i]? = some (some (vR x))) (k : V g M mc ms cu su n (pc + 1) L (vR x :: st) rp hp P) : V g M mc ms cu su n pc L (st) rp hp P := by
  intro p l e R s m args below meth c Q C RT H locs LS hH hS hl
  exact lv_aload_n C.1 C.2.1 hd hi (cvL_at hl hv) (k p l e R s m args below meth c Q C RT H locs LS hH hS hl)
theorem r_aload {i : Nat} {x : A4} (hd : decode (mC M) pc = .ok (.aload i, 2)) (hv : L[i]? = some (some (vR x))) (k : V g M mc ms cu su n (pc + 2) L (vR x :: st) rp hp P) : V g M mc ms cu su n pc L (st) rp hp P := by
  intro p l e R s m args below meth c Q C RT H locs LS hH hS hl
  exact lv_aload C.1 C.2.1 hd (cvL_at hl hv) (k p l e R s m args below meth c Q C RT H locs LS hH hS hl)
theorem r_lload_n {j : Fin 4} {i : Nat} {x : Int64} (hd : decode (mC M) pc = .ok (.lload_n j, 1)) (hi : (j : Nat) = i) (hv : L[i]? = some (some (vJ x))) (k : V g M mc ms cu su n (pc + 1) L (vJ x :: st) rp hp P) : V g M mc ms cu su n pc L (st) rp hp P := by
  intro p l e R s m args below meth c Q C RT H locs LS hH hS hl
  exact lv_lload_n C.1 C.2.1 hd hi (cvL_at hl hv) (k p l e R s m args below meth c Q C RT H locs LS hH hS hl)
theorem r_istore_n {j : Fin 4} {i : Nat} {x : Int32} {L2 : List (Option Vv)} (hd : decode (mC M) pc = .ok (.istore_n j, 1)) (hi : (j : Nat) = i) (hn : i < mL M) (hln : lnl L i = true) (hL : L.set i (some (vI x)) = L2) (k : V g M mc ms cu su n (pc + 1) L2 st rp hp P) : V g M mc ms cu su n pc L (vI x :: st) rp hp P := by
  subst hL
  intro p l e R s m args below meth c Q C RT H locs LS hH hS hl
  exact lv_istore_n C.1 C.2.1 hd hi hl hn rfl (fun LS' hl' => k p l e R s m args below meth c Q C RT H locs LS' hH hS (cvL_set (v := vI x) hln hl'))
theorem r_istore {i : Nat} {x : Int32} {L2 : List (Option Vv)} (hd : decode (mC M) pc = .ok (.istore i, 2)) (hn : i < mL M) (hln : lnl L i = true) (hL : L.set i (some (vI x)) = L2) (k : V g M mc ms cu su n (pc + 2) L2 st rp hp P) : V g M mc ms cu su n pc L (vI x :: st) rp hp P := by
  subst hL
  intro p l e R s m args below meth c Q C RT H locs LS hH hS hl
  exact lv_istore C.1 C.2.1 hd hl hn rfl (fun LS' hl' => k p l e R s m args below meth c Q C RT H locs LS' hH hS (cvL_set (v := vI x) hln hl'))
theorem r_astore_n {j : Fin 4} {i : Nat} {x : A4} {L2 : List (Option Vv)} (hd : decode (mC M) pc = .ok (.astore_n j, 1)) (hi : (j : Nat) = i) (hn : i < mL M) (hln : lnl L i = true) (hL : L.set i (some (vR x)) = L2) (k : V g M mc ms cu su n (pc + 1) L2 st rp hp P) : V g M mc ms cu su n pc L (vR x :: st) rp hp P := by
  subst hL
  intro p l e R s m args below meth c Q C RT H locs LS hH hS hl
  exact lv_astore_n C.1 C.2.1 hd hi hl hn rfl (fun LS' hl' => k p l e R s m args below meth c Q C RT H locs LS' hH hS (cvL_set (v := vR x) hln hl'))
theorem r_astore {i : Nat} {x : A4} {L2 : List (Option Vv)} (hd : decode (mC M) pc = .ok (.astore i, 2)) (hn : i < mL M) (hln : lnl L i = true) (hL : L.set i (some (vR x)) = L2) (k : V g M mc ms cu su n (pc + 2) L2 st rp hp P) : V g M mc ms cu su n pc L (vR x :: st) rp hp P := by
  subst hL
  intro p l e R s m args below meth c Q C RT H locs LS hH hS hl
  exact lv_astore C.1 C.2.1 hd hl hn rfl (fun LS' hl' => k p l e R s m args below meth c Q C RT H locs LS' hH hS (cvL_set (v := vR x) hln hl'))
theorem r_iinc {i : Nat} {j : Int} {x v : Int32} {L2 : List (Option Vv)} (hd : decode (mC M) pc = .ok (.iinc i j, 3)) (hx : L[i]? = some (some (vI x))) (hv : x + Int32.ofInt j = v) (hn : i < mL M) (hln : lnl L i = true) (hL : L.set i (some (vI v)) = L2) (k : V g M mc ms cu su n (pc + 3) L2 st rp hp P) : V g M mc ms cu su n pc L st rp hp P := by
  subst hL
  intro p l e R s m args below meth c Q C RT H locs LS hH hS hl
  obtain ⟨q, hq⟩ := List.getElem?_of_mem (cvL_mem (g := g) (L := L) (q := (i, .int x)) |>.mpr ⟨vI x, hx, rfl⟩)
  exact lv_iinc C.1 C.2.1 hd hl hq hv hn rfl (fun LS' hl' => k p l e R s m args below meth c Q C RT H locs LS' hH hS (cvL_set (v := vI v) hln hl'))
theorem r_iadd {x y : Int32} (hd : decode (mC M) pc = .ok (.iadd, 1)) (k : V g M mc ms cu su n (pc + 1) L (vI (x + y) :: st) rp hp P) : V g M mc ms cu su n pc L (vI y :: vI x :: st) rp hp P := by
  intro p l e R s m args below meth c Q C RT H locs LS hH hS hl
  exact lv_iadd C.1 C.2.1 hd (k p l e R s m args below meth c Q C RT H locs LS hH hS hl)
theorem r_isub {x y : Int32} (hd : decode (mC M) pc = .ok (.isub, 1)) (k : V g M mc ms cu su n (pc + 1) L (vI (x - y) :: st) rp hp P) : V g M mc ms cu su n pc L (vI y :: vI x :: st) rp hp P := by
  intro p l e R s m args below meth c Q C RT H locs LS hH hS hl
  exact lv_isub C.1 C.2.1 hd (k p l e R s m args below meth c Q C RT H locs LS hH hS hl)
theorem r_imul {x y : Int32} (hd : decode (mC M) pc = .ok (.imul, 1)) (k : V g M mc ms cu su n (pc + 1) L (vI (x * y) :: st) rp hp P) : V g M mc ms cu su n pc L (vI y :: vI x :: st) rp hp P := by
  intro p l e R s m args below meth c Q C RT H locs LS hH hS hl
  exact lv_imul C.1 C.2.1 hd (k p l e R s m args below meth c Q C RT H locs LS hH hS hl)
theorem r_iand {x y : Int32} (hd : decode (mC M) pc = .ok (.iand, 1)) (k : V g M mc ms cu su n (pc + 1) L (vI (x &&& y) :: st) rp hp P) : V g M mc ms cu su n pc L (vI y :: vI x :: st) rp hp P := by
  intro p l e R s m args below meth c Q C RT H locs LS hH hS hl
  exact lv_iand C.1 C.2.1 hd (k p l e R s m args below meth c Q C RT H locs LS hH hS hl)
theorem r_ior {x y : Int32} (hd : decode (mC M) pc = .ok (.ior, 1)) (k : V g M mc ms cu su n (pc + 1) L (vI (x ||| y) :: st) rp hp P) : V g M mc ms cu su n pc L (vI y :: vI x :: st) rp hp P := by
  intro p l e R s m args below meth c Q C RT H locs LS hH hS hl
  exact lv_ior C.1 C.2.1 hd (k p l e R s m args below meth c Q C RT H locs LS hH hS hl)
def jrem (x y : Int32) : Int32 := x - x / y * y
theorem r_irem {x y : Int32} (hd : decode (mC M) pc = .ok (.irem, 1)) (hne : ¬ y = 0) (k : V g M mc ms cu su n (pc + 1) L (vI (jrem x y) :: st) rp hp P) : V g M mc ms cu su n pc L (vI y :: vI x :: st) rp hp P := by
  intro p l e R s m args below meth c Q C RT H locs LS hH hS hl
  exact lv_irem C.1 C.2.1 hd hne (k p l e R s m args below meth c Q C RT H locs LS hH hS hl)
theorem r_idiv {x y : Int32} (hd : decode (mC M) pc = .ok (.idiv, 1)) (hne : ¬ y = 0) (k : V g M mc ms cu su n (pc + 1) L (vI (x / y) :: st) rp hp P) : V g M mc ms cu su n pc L (vI y :: vI x :: st) rp hp P := by
  intro p l e R s m args below meth c Q C RT H locs LS hH hS hl
  exact lv_idiv C.1 C.2.1 hd hne (k p l e R s m args below meth c Q C RT H locs LS hH hS hl)
theorem r_ishl {x y : Int32} (hd : decode (mC M) pc = .ok (.ishl, 1)) (k : V g M mc ms cu su n (pc + 1) L (vI (x <<< (y &&& 31)) :: st) rp hp P) : V g M mc ms cu su n pc L (vI y :: vI x :: st) rp hp P := by
  intro p l e R s m args below meth c Q C RT H locs LS hH hS hl
  exact lv_ishl C.1 C.2.1 hd (k p l e R s m args below meth c Q C RT H locs LS hH hS hl)
theorem r_ishr {x y : Int32} (hd : decode (mC M) pc = .ok (.ishr, 1)) (k : V g M mc ms cu su n (pc + 1) L (vI (x >>> (y &&& 31)) :: st) rp hp P) : V g M mc ms cu su n pc L (vI y :: vI x :: st) rp hp P := by
  intro p l e R s m args below meth c Q C RT H locs LS hH hS hl
  exact lv_ishr C.1 C.2.1 hd (k p l e R s m args below meth c Q C RT H locs LS hH hS hl)
theorem r_land {x y : Int64} (hd : decode (mC M) pc = .ok (.land, 1)) (k : V g M mc ms cu su n (pc + 1) L (vJ (x &&& y) :: st) rp hp P) : V g M mc ms cu su n pc L (vJ y :: vJ x :: st) rp hp P := by
  intro p l e R s m args below meth c Q C RT H locs LS hH hS hl
  exact lv_land C.1 C.2.1 hd (k p l e R s m args below meth c Q C RT H locs LS hH hS hl)
theorem r_lor {x y : Int64} (hd : decode (mC M) pc = .ok (.lor, 1)) (k : V g M mc ms cu su n (pc + 1) L (vJ (x ||| y) :: st) rp hp P) : V g M mc ms cu su n pc L (vJ y :: vJ x :: st) rp hp P := by
  intro p l e R s m args below meth c Q C RT H locs LS hH hS hl
  exact lv_lor C.1 C.2.1 hd (k p l e R s m args below meth c Q C RT H locs LS hH hS hl)
theorem r_lcmp {x y : Int64} (hd : decode (mC M) pc = .ok (.lcmp, 1)) (k : V g M mc ms cu su n (pc + 1) L (vI (lg_cmp x y) :: st) rp hp P) : V g M mc ms cu su n pc L (vJ y :: vJ x :: st) rp hp P := by
  intro p l e R s m args below meth c Q C RT H locs LS hH hS hl
  exact W.lcmp C.1 C.2.1 hd (k p l e R s m args below meth c Q C RT H locs LS hH hS hl)
theorem r_i2l {x : Int32} (hd : decode (mC M) pc = .ok (.i2l, 1)) (k : V g M mc ms cu su n (pc + 1) L (vJ x.toInt64 :: st) rp hp P) : V g M mc ms cu su n pc L (vI x :: st) rp hp P := by
  intro p l e R s m args below meth c Q C RT H locs LS hH hS hl
  exact lv_i2l C.1 C.2.1 hd rfl (k p l e R s m args below meth c Q C RT H locs LS hH hS hl)
theorem r_l2i {x : Int64} (hd : decode (mC M) pc = .ok (.l2i, 1)) (k : V g M mc ms cu su n (pc + 1) L (vI x.toInt32 :: st) rp hp P) : V g M mc ms cu su n pc L (vJ x :: st) rp hp P := by
  intro p l e R s m args below meth c Q C RT H locs LS hH hS hl
  exact lv_l2i C.1 C.2.1 hd rfl (k p l e R s m args below meth c Q C RT H locs LS hH hS hl)
theorem r_i2c {x : Int32} (hd : decode (mC M) pc = .ok (.i2c, 1)) (k : V g M mc ms cu su n (pc + 1) L (vI (x.toUInt32 % 65536).toInt32 :: st) rp hp P) : V g M mc ms cu su n pc L (vI x :: st) rp hp P := by
  intro p l e R s m args below meth c Q C RT H locs LS hH hS hl
  exact lv_i2c C.1 C.2.1 hd rfl (k p l e R s m args below meth c Q C RT H locs LS hH hS hl)
theorem r_lushr {x : Int64} {y : Int32} (hd : decode (mC M) pc = .ok (.lushr, 1)) (k : V g M mc ms cu su n (pc + 1) L (vJ (x.toUInt64 >>> (y.toInt64.toUInt64 &&& Int64.toUInt64 63)).toInt64 :: st) rp hp P) : V g M mc ms cu su n pc L (vI y :: vJ x :: st) rp hp P := by
  intro p l e R s m args below meth c Q C RT H locs LS hH hS hl
  exact lv_lushr C.1 C.2.1 hd rfl (k p l e R s m args below meth c Q C RT H locs LS hH hS hl)
theorem r_lshl {x : Int64} {y : Int32} (hd : decode (mC M) pc = .ok (.lshl, 1)) (k : V g M mc ms cu su n (pc + 1) L (vJ (x <<< (y.toInt64 &&& 63)) :: st) rp hp P) : V g M mc ms cu su n pc L (vI y :: vJ x :: st) rp hp P := by
  intro p l e R s m args below meth c Q C RT H locs LS hH hS hl
  exact lv_lshl C.1 C.2.1 hd rfl (k p l e R s m args below meth c Q C RT H locs LS hH hS hl)
theorem r_dup {a : Vv} (hd : decode (mC M) pc = .ok (.dup, 1)) (ha : (trv g a).category = 1) (k : V g M mc ms cu su n (pc + 1) L (a :: a :: st) rp hp P) : V g M mc ms cu su n pc L (a :: st) rp hp P := by
  intro p l e R s m args below meth c Q C RT H locs LS hH hS hl
  exact lv_dup C.1 C.2.1 hd ha (k p l e R s m args below meth c Q C RT H locs LS hH hS hl)
theorem r_pop {a : Vv} (hd : decode (mC M) pc = .ok (.pop, 1)) (ha : (trv g a).category = 1) (k : V g M mc ms cu su n (pc + 1) L (st) rp hp P) : V g M mc ms cu su n pc L (a :: st) rp hp P := by
  intro p l e R s m args below meth c Q C RT H locs LS hH hS hl
  exact lv_pop C.1 C.2.1 hd ha (k p l e R s m args below meth c Q C RT H locs LS hH hS hl)
theorem r_dup2 {a b : Vv} (hd : decode (mC M) pc = .ok (.dup2, 1)) (ha : (trv g a).category = 1) (hb : (trv g b).category = 1) (k : V g M mc ms cu su n (pc + 1) L (a :: b :: a :: b :: st) rp hp P) : V g M mc ms cu su n pc L (a :: b :: st) rp hp P := by
  intro p l e R s m args below meth c Q C RT H locs LS hH hS hl
  exact lv_dup2_11 C.1 C.2.1 hd ha hb (k p l e R s m args below meth c Q C RT H locs LS hH hS hl)
theorem r_if_eq {x : Int32} {off : Int} {tgt : Nat} (hd : decode (mC M) pc = .ok (.ifCond .eq off, 3)) (ht : (pc : Int) + off = (tgt : Int)) (kt : x = 0 → V g M mc ms cu su n tgt L st rp hp P) (kf : ¬ x = 0 → V g M mc ms cu su n (pc + 3) L st rp hp P) : V g M mc ms cu su n pc L (vI x :: st) rp hp P := by
  intro p l e R s m args below meth c Q C RT H locs LS hH hS hl
  exact lv_if_eq C.1 C.2.1 hd ht (fun h => kt h p l e R s m args below meth c Q C RT H locs LS hH hS hl) (fun h => kf h p l e R s m args below meth c Q C RT H locs LS hH hS hl)
theorem r_if_ne {x : Int32} {off : Int} {tgt : Nat} (hd : decode (mC M) pc = .ok (.ifCond .ne off, 3)) (ht : (pc : Int) + off = (tgt : Int)) (kt : ¬ x = 0 → V g M mc ms cu su n tgt L st rp hp P) (kf : x = 0 → V g M mc ms cu su n (pc + 3) L st rp hp P) : V g M mc ms cu su n pc L (vI x :: st) rp hp P := by
  intro p l e R s m args below meth c Q C RT H locs LS hH hS hl
  exact lv_if_ne C.1 C.2.1 hd ht (fun h => kt h p l e R s m args below meth c Q C RT H locs LS hH hS hl) (fun h => kf h p l e R s m args below meth c Q C RT H locs LS hH hS hl)
theorem r_if_lt {x : Int32} {off : Int} {tgt : Nat} (hd : decode (mC M) pc = .ok (.ifCond .lt off, 3)) (ht : (pc : Int) + off = (tgt : Int)) (kt : x < 0 → V g M mc ms cu su n tgt L st rp hp P) (kf : ¬ x < 0 → V g M mc ms cu su n (pc + 3) L st rp hp P) : V g M mc ms cu su n pc L (vI x :: st) rp hp P := by
  intro p l e R s m args below meth c Q C RT H locs LS hH hS hl
  exact lv_if_lt C.1 C.2.1 hd ht (fun h => kt h p l e R s m args below meth c Q C RT H locs LS hH hS hl) (fun h => kf h p l e R s m args below meth c Q C RT H locs LS hH hS hl)
theorem r_if_ge {x : Int32} {off : Int} {tgt : Nat} (hd : decode (mC M) pc = .ok (.ifCond .ge off, 3)) (ht : (pc : Int) + off = (tgt : Int)) (kt : 0 ≤ x → V g M mc ms cu su n tgt L st rp hp P) (kf : ¬ 0 ≤ x → V g M mc ms cu su n (pc + 3) L st rp hp P) : V g M mc ms cu su n pc L (vI x :: st) rp hp P := by
  intro p l e R s m args below meth c Q C RT H locs LS hH hS hl
  exact lv_if_ge C.1 C.2.1 hd ht (fun h => kt h p l e R s m args below meth c Q C RT H locs LS hH hS hl) (fun h => kf h p l e R s m args below meth c Q C RT H locs LS hH hS hl)
theorem r_if_gt {x : Int32} {off : Int} {tgt : Nat} (hd : decode (mC M) pc = .ok (.ifCond .gt off, 3)) (ht : (pc : Int) + off = (tgt : Int)) (kt : 0 < x → V g M mc ms cu su n tgt L st rp hp P) (kf : ¬ 0 < x → V g M mc ms cu su n (pc + 3) L st rp hp P) : V g M mc ms cu su n pc L (vI x :: st) rp hp P := by
  intro p l e R s m args below meth c Q C RT H locs LS hH hS hl
  exact lv_if_gt C.1 C.2.1 hd ht (fun h => kt h p l e R s m args below meth c Q C RT H locs LS hH hS hl) (fun h => kf h p l e R s m args below meth c Q C RT H locs LS hH hS hl)
theorem r_if_le {x : Int32} {off : Int} {tgt : Nat} (hd : decode (mC M) pc = .ok (.ifCond .le off, 3)) (ht : (pc : Int) + off = (tgt : Int)) (kt : x ≤ 0 → V g M mc ms cu su n tgt L st rp hp P) (kf : ¬ x ≤ 0 → V g M mc ms cu su n (pc + 3) L st rp hp P) : V g M mc ms cu su n pc L (vI x :: st) rp hp P := by
  intro p l e R s m args below meth c Q C RT H locs LS hH hS hl
  exact lv_if_le C.1 C.2.1 hd ht (fun h => kt h p l e R s m args below meth c Q C RT H locs LS hH hS hl) (fun h => kf h p l e R s m args below meth c Q C RT H locs LS hH hS hl)
theorem r_icmp_eq {x y : Int32} {off : Int} {tgt : Nat} (hd : decode (mC M) pc = .ok (.if_icmp .eq off, 3)) (ht : (pc : Int) + off = (tgt : Int)) (kt : x = y → V g M mc ms cu su n tgt L st rp hp P) (kf : ¬ x = y → V g M mc ms cu su n (pc + 3) L st rp hp P) : V g M mc ms cu su n pc L (vI y :: vI x :: st) rp hp P := by
  intro p l e R s m args below meth c Q C RT H locs LS hH hS hl
  exact lv_icmp_eq C.1 C.2.1 hd ht (fun h => kt h p l e R s m args below meth c Q C RT H locs LS hH hS hl) (fun h => kf h p l e R s m args below meth c Q C RT H locs LS hH hS hl)
theorem r_icmp_ne {x y : Int32} {off : Int} {tgt : Nat} (hd : decode (mC M) pc = .ok (.if_icmp .ne off, 3)) (ht : (pc : Int) + off = (tgt : Int)) (kt : ¬ x = y → V g M mc ms cu su n tgt L st rp hp P) (kf : x = y → V g M mc ms cu su n (pc + 3) L st rp hp P) : V g M mc ms cu su n pc L (vI y :: vI x :: st) rp hp P := by
  intro p l e R s m args below meth c Q C RT H locs LS hH hS hl
  exact lv_icmp_ne C.1 C.2.1 hd ht (fun h => kt h p l e R s m args below meth c Q C RT H locs LS hH hS hl) (fun h => kf h p l e R s m args below meth c Q C RT H locs LS hH hS hl)
theorem r_icmp_lt {x y : Int32} {off : Int} {tgt : Nat} (hd : decode (mC M) pc = .ok (.if_icmp .lt off, 3)) (ht : (pc : Int) + off = (tgt : Int)) (kt : x < y → V g M mc ms cu su n tgt L st rp hp P) (kf : ¬ x < y → V g M mc ms cu su n (pc + 3) L st rp hp P) : V g M mc ms cu su n pc L (vI y :: vI x :: st) rp hp P := by
  intro p l e R s m args below meth c Q C RT H locs LS hH hS hl
  exact lv_icmp_lt C.1 C.2.1 hd ht (fun h => kt h p l e R s m args below meth c Q C RT H locs LS hH hS hl) (fun h => kf h p l e R s m args below meth c Q C RT H locs LS hH hS hl)
theorem r_icmp_ge {x y : Int32} {off : Int} {tgt : Nat} (hd : decode (mC M) pc = .ok (.if_icmp .ge off, 3)) (ht : (pc : Int) + off = (tgt : Int)) (kt : y ≤ x → V g M mc ms cu su n tgt L st rp hp P) (kf : ¬ y ≤ x → V g M mc ms cu su n (pc + 3) L st rp hp P) : V g M mc ms cu su n pc L (vI y :: vI x :: st) rp hp P := by
  intro p l e R s m args below meth c Q C RT H locs LS hH hS hl
  exact lv_icmp_ge C.1 C.2.1 hd ht (fun h => kt h p l e R s m args below meth c Q C RT H locs LS hH hS hl) (fun h => kf h p l e R s m args below meth c Q C RT H locs LS hH hS hl)
theorem r_icmp_gt {x y : Int32} {off : Int} {tgt : Nat} (hd : decode (mC M) pc = .ok (.if_icmp .gt off, 3)) (ht : (pc : Int) + off = (tgt : Int)) (kt : y < x → V g M mc ms cu su n tgt L st rp hp P) (kf : ¬ y < x → V g M mc ms cu su n (pc + 3) L st rp hp P) : V g M mc ms cu su n pc L (vI y :: vI x :: st) rp hp P := by
  intro p l e R s m args below meth c Q C RT H locs LS hH hS hl
  exact lv_icmp_gt C.1 C.2.1 hd ht (fun h => kt h p l e R s m args below meth c Q C RT H locs LS hH hS hl) (fun h => kf h p l e R s m args below meth c Q C RT H locs LS hH hS hl)
theorem r_icmp_le {x y : Int32} {off : Int} {tgt : Nat} (hd : decode (mC M) pc = .ok (.if_icmp .le off, 3)) (ht : (pc : Int) + off = (tgt : Int)) (kt : x ≤ y → V g M mc ms cu su n tgt L st rp hp P) (kf : ¬ x ≤ y → V g M mc ms cu su n (pc + 3) L st rp hp P) : V g M mc ms cu su n pc L (vI y :: vI x :: st) rp hp P := by
  intro p l e R s m args below meth c Q C RT H locs LS hH hS hl
  exact lv_icmp_le C.1 C.2.1 hd ht (fun h => kt h p l e R s m args below meth c Q C RT H locs LS hH hS hl) (fun h => kf h p l e R s m args below meth c Q C RT H locs LS hH hS hl)
theorem r_goto {off : Int} {tgt : Nat} (hd : decode (mC M) pc = .ok (.goto off, 3)) (ht : (pc : Int) + off = (tgt : Int)) (k : V g M mc ms cu su n tgt L st rp hp P) : V g M mc ms cu su n pc L st rp hp P := by
  intro p l e R s m args below meth c Q C RT H locs LS hH hS hl
  exact lv_goto C.1 C.2.1 hd ht (k p l e R s m args below meth c Q C RT H locs LS hH hS hl)
theorem r_tabOut {x : Int32} {dflt lo hi : Int} {offs : Array Int} {len tgt : Nat} (hd : decode (mC M) pc = .ok (.tableswitch dflt lo hi offs, len)) (h : x.toInt < lo ∨ hi < x.toInt) (ht : (pc : Int) + dflt = (tgt : Int)) (k : V g M mc ms cu su n tgt L st rp hp P) : V g M mc ms cu su n pc L (vI x :: st) rp hp P := by
  intro p l e R s m args below meth c Q C RT H locs LS hH hS hl
  exact lv_tableOut C.1 C.2.1 hd h ht (k p l e R s m args below meth c Q C RT H locs LS hH hS hl)
theorem r_tabIn {x : Int32} {dflt lo hi off : Int} {offs : Array Int} {len tgt : Nat} (hd : decode (mC M) pc = .ok (.tableswitch dflt lo hi offs, len)) (h1 : ¬ x.toInt < lo) (h2 : ¬ hi < x.toInt) (ho : offs[(x.toInt - lo).toNat]? = some off) (ht : (pc : Int) + off = (tgt : Int)) (k : V g M mc ms cu su n tgt L st rp hp P) : V g M mc ms cu su n pc L (vI x :: st) rp hp P := by
  intro p l e R s m args below meth c Q C RT H locs LS hH hS hl
  exact lv_tableIn C.1 C.2.1 hd h1 h2 ho ht (k p l e R s m args below meth c Q C RT H locs LS hH hS hl)
end RW

def hset (hp : HPt) (a : A4) (i : Nat) (x : Int32) : HPt := fun b j => if b = a ∧ j = i then x else hp b j
def rset (rp : RPt) (a : A4) (i : Nat) (x : A4) : RPt := fun b j => if b = a ∧ j = i then some x else rp b j
/-- what the tables say of a field at a pool index of a class: field fi of class ci -/
def LK (own : String) (idx ci fi : Nat) : Prop := ∃ q : vw_C, vwCl[ci]? = some q ∧ fi < nfT ci ∧ (Cond.fieldLink own idx (q.2.1 fi).1 (q.2.1 fi).2.1 (q.2.1 fi).2.2.1 ∈ lw_good ∨ ∃ host, Cond.fieldLinkNest own idx (q.2.1 fi).1 (q.2.1 fi).2.1 (q.2.1 fi).2.2.1 host ∈ lw_nest)
def CLf (ci : Nat) (q : vw_C) : Prop := (∀ w ∈ u_ws q.1 q.2.1 q.2.2, w ∈ lw_good) ∧ (∀ k, k < q.2.2 → parseFieldDescriptor (q.2.1 k).2.2.1 = some (tyT ci k)) ∧ (∀ a, a < q.2.2 → ∀ b, b < q.2.2 → a ≠ b → (q.2.1 a).2.1 ≠ (q.2.1 b).2.1) ∧ q.2.2 = nfT ci
def CLg (ci : Nat) (q : vw_C) : Prop := ∀ k, k < q.2.2 → (rfT ci k = (q.2.1 k).2.2.2) ∧ (rfT ci k = true → (q.2.1 k).1 = q.1 ∧ ((∃ n, tyT ci k = .object n) ∨ ∃ t, tyT ci k = .array t)) ∧ (rfT ci k = false → tyT ci k = .int ∨ tyT ci k = .boolean ∨ tyT ci k = .char)

theorem clf_0 : CLf 0 (RX0, TX0, 7) := by
  refine ⟨fun w hw => ?_, tyX0_ok, nmX0, rfl⟩
  have h1 : (u_ws RX0 TX0 7).all goodWord = true := by decide +kernel
  have h2 : u_ws RX0 TX0 7 = ([103, 105, 107, 109, 111, 113, 115] : List Nat).filterMap (fun k => lw_tbl[k]?) := by decide +kernel
  have h3 := List.all_eq_true.mp h1 w hw
  rw [h2] at hw
  obtain ⟨k, -, hk⟩ := List.mem_filterMap.mp hw
  exact gd_i k hk h3
theorem clg_0 : CLg 0 (RX0, TX0, 7) := by
  intro k hk
  have hk : k < 7 := hk
  rcases (show k = 0 ∨ k = 1 ∨ k = 2 ∨ k = 3 ∨ k = 4 ∨ k = 5 ∨ k = 6 by omega) with rfl | rfl | rfl | rfl | rfl | rfl | rfl <;> simp [rfT, TX0, RX0, tyT, tyX0] <;> decide
theorem clf_1 : CLf 1 (RX1, TX1, 3) := by
  refine ⟨fun w hw => ?_, tyX1_ok, nmX1, rfl⟩
  have h1 : (u_ws RX1 TX1 3).all goodWord = true := by decide +kernel
  have h2 : u_ws RX1 TX1 3 = ([205, 207, 209] : List Nat).filterMap (fun k => lw_tbl[k]?) := by decide +kernel
  have h3 := List.all_eq_true.mp h1 w hw
  rw [h2] at hw
  obtain ⟨k, -, hk⟩ := List.mem_filterMap.mp hw
  exact gd_i k hk h3
theorem clg_1 : CLg 1 (RX1, TX1, 3) := by
  intro k hk
  have hk : k < 3 := hk
  rcases (show k = 0 ∨ k = 1 ∨ k = 2 by omega) with rfl | rfl | rfl <;> simp [rfT, TX1, RX1, tyT, tyX1] <;> decide
theorem clf_2 : CLf 2 (RX2, TX2, 2) := by
  refine ⟨fun w hw => ?_, tyX2_ok, nmX2, rfl⟩
  have h1 : (u_ws RX2 TX2 2).all goodWord = true := by decide +kernel
  have h2 : u_ws RX2 TX2 2 = ([220, 222] : List Nat).filterMap (fun k => lw_tbl[k]?) := by decide +kernel
  have h3 := List.all_eq_true.mp h1 w hw
  rw [h2] at hw
  obtain ⟨k, -, hk⟩ := List.mem_filterMap.mp hw
  exact gd_i k hk h3
theorem clg_2 : CLg 2 (RX2, TX2, 2) := by
  intro k hk
  have hk : k < 2 := hk
  rcases (show k = 0 ∨ k = 1 by omega) with rfl | rfl <;> simp [rfT, TX2, RX2, tyT, tyX2] <;> decide
theorem clf_3 : CLf 3 (RX3, TX3, 7) := by
  refine ⟨fun w hw => ?_, tyX3_ok, nmX3, rfl⟩
  have h1 : (u_ws RX3 TX3 7).all goodWord = true := by decide +kernel
  have h2 : u_ws RX3 TX3 7 = ([233, 235, 237, 239, 241, 243, 245] : List Nat).filterMap (fun k => lw_tbl[k]?) := by decide +kernel
  have h3 := List.all_eq_true.mp h1 w hw
  rw [h2] at hw
  obtain ⟨k, -, hk⟩ := List.mem_filterMap.mp hw
  exact gd_i k hk h3
theorem clg_3 : CLg 3 (RX3, TX3, 7) := by
  intro k hk
  have hk : k < 7 := hk
  rcases (show k = 0 ∨ k = 1 ∨ k = 2 ∨ k = 3 ∨ k = 4 ∨ k = 5 ∨ k = 6 by omega) with rfl | rfl | rfl | rfl | rfl | rfl | rfl <;> simp [rfT, TX3, RX3, tyT, tyX3] <;> decide
theorem clf_4 : CLf 4 (RX4, TX4, 10) := by
  refine ⟨fun w hw => ?_, tyX4_ok, nmX4, rfl⟩
  have h1 : (u_ws RX4 TX4 10).all goodWord = true := by decide +kernel
  have h2 : u_ws RX4 TX4 10 = ([140, 142, 144, 146, 148, 150, 152, 154, 156, 158] : List Nat).filterMap (fun k => lw_tbl[k]?) := by decide +kernel
  have h3 := List.all_eq_true.mp h1 w hw
  rw [h2] at hw
  obtain ⟨k, -, hk⟩ := List.mem_filterMap.mp hw
  exact gd_i k hk h3
theorem clg_4 : CLg 4 (RX4, TX4, 10) := by
  intro k hk
  have hk : k < 10 := hk
  rcases (show k = 0 ∨ k = 1 ∨ k = 2 ∨ k = 3 ∨ k = 4 ∨ k = 5 ∨ k = 6 ∨ k = 7 ∨ k = 8 ∨ k = 9 by omega) with rfl | rfl | rfl | rfl | rfl | rfl | rfl | rfl | rfl | rfl <;> simp [rfT, TX4, RX4, tyT, tyX4] <;> decide
theorem clf_5 : CLf 5 (RX5, TX5, 10) := by
  refine ⟨fun w hw => ?_, tyX5_ok, nmX5, rfl⟩
  have h1 : (u_ws RX5 TX5 10).all goodWord = true := by decide +kernel
  have h2 : u_ws RX5 TX5 10 = ([171, 173, 175, 177, 179, 181, 183, 185, 187, 189] : List Nat).filterMap (fun k => lw_tbl[k]?) := by decide +kernel
  have h3 := List.all_eq_true.mp h1 w hw
  rw [h2] at hw
  obtain ⟨k, -, hk⟩ := List.mem_filterMap.mp hw
  exact gd_i k hk h3
theorem clg_5 : CLg 5 (RX5, TX5, 10) := by
  intro k hk
  have hk : k < 10 := hk
  rcases (show k = 0 ∨ k = 1 ∨ k = 2 ∨ k = 3 ∨ k = 4 ∨ k = 5 ∨ k = 6 ∨ k = 7 ∨ k = 8 ∨ k = 9 by omega) with rfl | rfl | rfl | rfl | rfl | rfl | rfl | rfl | rfl | rfl <;> simp [rfT, TX5, RX5, tyT, tyX5] <;> decide
theorem clf_6 : CLf 6 (RX6, TX6, 6) := by
  refine ⟨fun w hw => ?_, tyX6_ok, nmX6, rfl⟩
  have h1 : (u_ws RX6 TX6 6).all goodWord = true := by decide +kernel
  have h2 : u_ws RX6 TX6 6 = ([254, 256, 258, 260, 262, 264] : List Nat).filterMap (fun k => lw_tbl[k]?) := by decide +kernel
  have h3 := List.all_eq_true.mp h1 w hw
  rw [h2] at hw
  obtain ⟨k, -, hk⟩ := List.mem_filterMap.mp hw
  exact gd_i k hk h3
theorem clg_6 : CLg 6 (RX6, TX6, 6) := by
  intro k hk
  have hk : k < 6 := hk
  rcases (show k = 0 ∨ k = 1 ∨ k = 2 ∨ k = 3 ∨ k = 4 ∨ k = 5 by omega) with rfl | rfl | rfl | rfl | rfl | rfl <;> simp [rfT, TX6, RX6, tyT, tyX6] <;> decide
theorem cls_ok {ci : Nat} {q : vw_C} (h : vwCl[ci]? = some q) : CLf ci q ∧ CLg ci q := by
  match ci, h with
  | 0, h => cases h; exact ⟨clf_0, clg_0⟩
  | 1, h => cases h; exact ⟨clf_1, clg_1⟩
  | 2, h => cases h; exact ⟨clf_2, clg_2⟩
  | 3, h => cases h; exact ⟨clf_3, clg_3⟩
  | 4, h => cases h; exact ⟨clf_4, clg_4⟩
  | 5, h => cases h; exact ⟨clf_5, clg_5⟩
  | 6, h => cases h; exact ⟨clf_6, clg_6⟩
  | k + 7, h => simp [vwCl] at h
theorem mrs {α : Type} {N fi : Nat} {f f' : Nat → α} (h : ∀ i, i ≠ fi → f i = f' i) (hf : fi < N) : ((List.range N).map f).set fi (f' fi) = (List.range N).map f' := by
  refine List.ext_getElem? (fun i => ?_)
  by_cases hi : i = fi
  · subst hi
    rw [List.getElem?_set_self (by simp; exact hf), List.getElem?_map, List.getElem?_range hf]
    rfl
  · rw [List.getElem?_set_ne (Ne.symm hi), List.getElem?_map, List.getElem?_map]
    by_cases hk : i < N
    · rw [List.getElem?_range hk, Option.map_some, Option.map_some, h i hi]
    · rw [List.getElem?_eq_none (by rw [List.length_range]; omega), Option.map_none, Option.map_none]
theorem cn_ob {g : Gh} {rp : RPt} {hp : HPt} {a : A4} {ci : Nat} (ho : okd a.1 = some ci) : cn g rp hp a = .inr (ci, (List.range (nfT ci)).map (fun i => if rfT ci i = true then va_rf ((rp a i).map (al g)) else .int (hp a i))) := by
  unfold cn
  rw [ho]
theorem okd_akd {k ci : Nat} (ho : okd k = some ci) : akd k = none := by
  unfold okd at ho
  split at ho <;> first | rfl | cases ho
theorem akd_okd {k : Nat} {x : Nat × Nat} (ho : akd k = some x) : okd k = none := by
  cases h : okd k with
  | none => rfl
  | some c => rw [okd_akd h] at ho; cases ho
theorem rkd_okd {k : Nat} {x : Nat × Nat} (ho : rkd k = some x) : okd k = none ∧ akd k = none := by
  unfold rkd at ho
  split at ho <;> first | exact ⟨rfl, rfl⟩ | cases ho
theorem cn_ar {g : Gh} {rp : RPt} {hp : HPt} {a : A4} {t len : Nat} (ho : akd a.1 = some (t, len)) : cn g rp hp a = .inl (g.2.1 t, len, .inl (hp a)) := by
  unfold cn
  rw [akd_okd ho, ho]
theorem cn_rr {g : Gh} {rp : RPt} {hp : HPt} {a : A4} {t len : Nat} (ho : rkd a.1 = some (t, len)) : cn g rp hp a = .inl (g.2.1 t, len, .inr (.inr (.inr (.inr (fun i => (rp a i).map (al g)))))) := by
  unfold cn
  rw [(rkd_okd ho).1, (rkd_okd ho).2, ho]
section RH
variable {g : Gh} {M : Md} {mc ms cu su n pc : Nat} {L : List (Option Vv)} {st : List Vv} {rp : RPt} {hp : HPt} {P : Pst}
variable {p : Program} {l : Launch} {e : Env} {R : Room} {s : State} {m : MethodId} {args : Array Value} {below : List Frame} {meth : Method} {c : Code} {Q : State → Prop} {H : Heap} {locs : List Loc} {LS : Array Slot}
theorem w_get {a : A4} {idx ci fi : Nat} {rest : List Value} (C : CX g M mc ms p R s m args meth c) (hH : HX g n rp hp H) (hd : decode (mC M) pc = .ok (.getfield idx, 3)) (lk : LK (mK M) idx ci fi) (ho : okd a.1 = some ci) (hlv : lvp n a) {v : Value} (hv : (if rfT ci fi = true then va_rf ((rp a fi).map (al g)) else .int (hp a fi)) = v)
    (kk : W p l e R s m args below meth c H locs cu su Q (F0 m (pc + 3) LS (v :: rest))) : W p l e R s m args below meth c H locs cu su Q (F0 m pc LS (.ref (al g a) :: rest)) := by
  obtain ⟨hP, hz, hn⟩ := hH
  obtain ⟨q, hc, hfi, hlk⟩ := lk
  obtain ⟨⟨co1, co2, co3, co4⟩, -⟩ := cls_ok hc
  have he := wl_get (g := g) (rp := rp) (hp := hp) hn hlv
  rw [cn_ob ho] at he
  have hv2 : ((List.range (nfT ci)).map (fun i => if rfT ci i = true then va_rf ((rp a i).map (al g)) else .int (hp a i)))[fi]? = some v := by
    rw [List.getElem?_map, List.getElem?_range hfi, Option.map_some, hv]
  rcases hlk with hlk | ⟨host, hlk⟩
  · exact va_get C.1 C.2.1 C.2.2.2.2.2.1 co1 C.2.2.2.2.1 C.2.2.2.2.2.2.2.2.1.1 hP (pos a) he hc fi (by rw [co4]; exact hfi) (C.2.2.2.2.2.1 _ hlk) (fun _ h => h) hv2 hd kk
  · exact va_getN C.1 C.2.1 C.2.2.2.2.2.1 co1 C.2.2.2.2.1 C.2.2.2.2.2.2.2.2.1.1 hP (pos a) he hc fi (by rw [co4]; exact hfi) (va_Nw.use rfl (C.2.2.2.2.2.2.2.2.1.2.1 _ hlk)) (fun _ h => h) hv2 hd kk
theorem r_getI {a : A4} {idx ci fi : Nat} (hd : decode (mC M) pc = .ok (.getfield idx, 3)) (lk : LK (mK M) idx ci fi) (ho : okd a.1 = some ci) (hr : rfT ci fi = false) (hlv : lvp n a) (k : V g M mc ms cu su n (pc + 3) L (vI (hp a fi) :: st) rp hp P) : V g M mc ms cu su n pc L (vR a :: st) rp hp P := by
  intro p l e R s m args below meth c Q C RT H locs LS hH hS hl
  exact w_get C hH hd lk ho hlv (v := .int (hp a fi)) (by rw [hr]; rfl) (k p l e R s m args below meth c Q C RT H locs LS hH hS hl)
theorem r_getR {a b : A4} {idx ci fi : Nat} (hd : decode (mC M) pc = .ok (.getfield idx, 3)) (lk : LK (mK M) idx ci fi) (ho : okd a.1 = some ci) (hr : rfT ci fi = true) (hb : rp a fi = some b) (hlv : lvp n a) (k : V g M mc ms cu su n (pc + 3) L (vR b :: st) rp hp P) : V g M mc ms cu su n pc L (vR a :: st) rp hp P := by
  intro p l e R s m args below meth c Q C RT H locs LS hH hS hl
  exact w_get C hH hd lk ho hlv (v := .ref (al g b)) (by rw [hr, hb]; rfl) (k p l e R s m args below meth c Q C RT H locs LS hH hS hl)
theorem hx_set {rp' : RPt} {hp' : HPt} {a : A4} {H1 : Heap} (hH : HX g n rp hp H) (hlv : lvp n a) (ee : va_at (g.1.1, g.1.2) vwCl (al g a, cn g rp' hp' a) H1) (z : H1.size = H.size) (oq : ∀ q : Nat, q ≠ al g a → H1[q]? = H[q]?) (hrp : ∀ b, b ≠ a → rp b = rp' b) (hhp : ∀ b, b ≠ a → hp b = hp' b) : HX g n rp' hp' H1 := by
  obtain ⟨hP, hz, hn⟩ := hH
  have h1 := hP.set wl_D (wl_get hn hlv) ee oq
  rw [wl_set hn hlv hrp hhp] at h1
  exact ⟨h1, by rw [z]; exact hz, hn⟩
theorem al_Af {a : A4} (hn : n ≤ 609) (hlv : lvp n a) : Af g (al g a) := by
  rw [lvp_al hn hlv]
  exact Nat.le_add_right _ _
theorem ob_set {f : Nat → Value} {nf fi : Nat} {v : Value} {iS : Nat → Nat} {cell : Cell} {C0 : ClassId} {q : Nat} {H1 : Heap} {f' : Nat → Value} (h4 : ∀ k, k < nf → cell.slots[iS k]? = some (vp_V ((List.range nf).map f) k)) (hap : ∀ x y, x < nf → y < nf → x ≠ y → iS x ≠ iS y) (hf : fi < nf) (hcl : cell.cls = C0) (hvm : cell.vm = .none) (e1 : H1[q]? = some (cell.setSlot (iS fi) v)) (h : ∀ i, i ≠ fi → f i = f' i) (hv : f' fi = v) : t_OB q C0 nf iS H1 (vp_V ((List.range nf).map f')) := by
  refine t_OB.to (V := updV (vp_V ((List.range nf).map f)) fi v) ⟨_, e1, hcl, hvm, t_set h4 hap hf v⟩ (fun j hj => ?_)
  unfold updV vp_V
  rw [List.getD_eq_getElem?_getD, List.getD_eq_getElem?_getD, List.getElem?_map, List.getElem?_map, List.getElem?_range hj, Option.map_some, Option.map_some]
  by_cases hjf : j = fi
  · subst hjf
    simp [hv]
  · simp [hjf, h j hjf]
theorem r_putI {a : A4} {x : Int32} {idx ci fi : Nat} (hd : decode (mC M) pc = .ok (.putfield idx, 3)) (lk : LK (mK M) idx ci fi) (ho : okd a.1 = some ci) (hr : rfT ci fi = false) (hlv : lvp n a) (hx : narrow (tyT ci fi) (.int x) = .int x ∧ fits (tyT ci fi) (.int x) = true) (k : V g M mc ms cu su n (pc + 3) L st rp (hset hp a fi x) P) : V g M mc ms cu su n pc L (vI x :: vR a :: st) rp hp P := by
  intro p l e R s m args below meth c Q C RT H locs LS hH hS hl
  obtain ⟨hP, hz, hn⟩ := id hH
  obtain ⟨q, hc, hfi, hlk⟩ := lk
  obtain ⟨⟨co1, co2, co3, co4⟩, cg⟩ := cls_ok hc
  have hfq : fi < q.2.2 := by rw [co4]; exact hfi
  have hfin : (q.2.1 fi).2.2.2 = false := by rw [← (cg fi hfq).1]; exact hr
  have hK := C.2.2.2.2.2.2.2.2.1.1
  have hts := C.2.2.2.2.2.1
  have he := hP (pos a) _ (wl_get hn hlv)
  rw [cn_ob ho] at he
  have hap := va_apart (own := mK M) (s := s) hts co1 (tyT ci) co2 co3 hK hc
  obtain ⟨r, h1, cell, q1, q2, q3, q4⟩ := he
  have hr1 : r = q := Option.some.inj (h1.symm.trans hc)
  subst hr1
  obtain ⟨hSl, hfc, kC, hkC, hkind⟩ := hK.1 ci _ hc
  obtain ⟨cf, kf, f0, f, hi, hsl⟩ := hSl fi hfq
  have hlay := hts _ (co1 _ (u_in_lay hfq))
  unfold u_lay at hlay
  rw [if_neg (by rw [hfin]; decide)] at hlay
  have hst := (u_facts hfc hkC (u_lays hts co1 hfq) hi).1
  have h6 := u_store hfc hkC hkind hlay hi (co2 fi hfq) hx.1 hx.2
  have fin : ∀ (H1 : Heap), H1[al g a]? = some (cell.setSlot f.slot (.int x)) → H1.size = H.size → (∀ q : Nat, q ≠ al g a → H1[q]? = H[q]?) → W p l e R s m args below meth c H1 (locs ++ [⟨al g a, f.slot⟩]) cu su Q (F0 m (pc + 3) LS (st.map (trv g))) := by
    intro H1 e1 e2 e3
    refine k p l e R s m args below meth c Q C RT H1 _ LS (hx_set hH hlv ?_ e2 e3 (fun b _ => rfl) (fun b hb => by funext j; simp [hset, hb])) (hS.put e2 e3 (al_Af hn hlv)) hl
    rw [cn_ob ho]
    refine ⟨r, hc, ?_⟩
    rw [hsl] at e1
    rw [co4] at q4 hap ⊢
    exact ob_set q4 hap hfi q2 q3 e1 (fun i hi => by simp [hset, hi]) (by simp [hr, hset])
  rcases hlk with hlk | ⟨host, hlk⟩
  · exact W.putK C.1 C.2.1 (f := f) ⟨C.2.2.2.2.1, hts _ hlk, ⟨_, _, _, hi⟩, hst⟩ (by rw [q2]; exact h6) q1 q3 (by rw [hsl]; exact k2_hasslot (q4 fi hfq)) rfl rfl hd fin
  · exact va_WputK C.1 C.2.1 (f := f) C.2.2.2.2.1 (va_Nw.use rfl (C.2.2.2.2.2.2.2.2.1.2.1 _ hlk)) hi hst (by rw [q2]; exact h6) q1 q3 (by rw [hsl]; exact k2_hasslot (q4 fi hfq)) rfl rfl hd fin
/-- a final field, of references, in its class's constructor -/
theorem r_putF {a b : A4} {idx ci fi : Nat} (hd : decode (mC M) pc = .ok (.putfield idx, 3)) (lk : LK (mK M) idx ci fi) (ho : okd a.1 = some ci) (hr : rfT ci fi = true) (hlv : lvp n a) (hin : (mY M).name = "<init>") (hown : ∀ q, vwCl[ci]? = some q → q.1 = mK M) (hnn : ∀ q, vwCl[ci]? = some q → ∀ host, Cond.fieldLinkNest (mK M) idx (q.2.1 fi).1 (q.2.1 fi).2.1 (q.2.1 fi).2.2.1 host ∉ lw_nest) (k : V g M mc ms cu su n (pc + 3) L st (rset rp a fi b) hp P) : V g M mc ms cu su n pc L (vR b :: vR a :: st) rp hp P := by
  intro p l e R s m args below meth c Q C RT H locs LS hH hS hl
  obtain ⟨hP, hz, hn⟩ := id hH
  obtain ⟨q, hc, hfi, hlk⟩ := lk
  obtain ⟨⟨co1, co2, co3, co4⟩, cg⟩ := cls_ok hc
  have hfq : fi < q.2.2 := by rw [co4]; exact hfi
  have hfin : (q.2.1 fi).2.2.2 = true := by rw [← (cg fi hfq).1]; exact hr
  obtain ⟨hq1, hty⟩ := (cg fi hfq).2.1 hr
  have hK := C.2.2.2.2.2.2.2.2.1.1
  have hts := C.2.2.2.2.2.1
  have he := hP (pos a) _ (wl_get hn hlv)
  rw [cn_ob ho] at he
  have hap := va_apart (own := mK M) (s := s) hts co1 (tyT ci) co2 co3 hK hc
  obtain ⟨r, h1, cell, q1, q2, q3, q4⟩ := he
  have hr1 : r = q := Option.some.inj (h1.symm.trans hc)
  subst hr1
  obtain ⟨hSl, hfc, kC, hkC, hkind⟩ := hK.1 ci _ hc
  obtain ⟨cf, kf, f0, f, hi, hsl⟩ := hSl fi hfq
  have hlay := hts _ (co1 _ (u_in_lay hfq))
  unfold u_lay at hlay
  rw [if_pos hfin] at hlay
  have hst := (u_facts hfc hkC (u_lays hts co1 hfq) hi).1
  have hcf : m.cls = cf := by
    obtain ⟨_, _, c', _, _, _, -, -, hf', -, -, -, hown2, -⟩ := Cond.laysFinal_spec hlay
    have e1 : c' = cf := by have := hi.symm.trans hf'; simp at this; exact this.1.symm
    rw [hq1, hown r hc] at hown2
    rw [← e1]; exact Option.some.inj (C.2.2.2.2.1.symm.trans hown2)
  have hnv : narrow (tyT ci fi) (.ref (al g b)) = .ref (al g b) ∧ fits (tyT ci fi) (.ref (al g b)) = true := by
    rcases hty with ⟨z, hz⟩ | ⟨z, hz⟩ <;> rw [hz] <;> exact ⟨rfl, rfl⟩
  have h6 := u_fits hfc hkC hkind (Or.inr hlay) hi (co2 fi hfq) hnv.1 hnv.2
  rcases hlk with hlk | ⟨host, hlk⟩
  · refine W.putFinK C.1 C.2.1 C.2.2.2.2.1 (hts _ hlk) hi hst hcf (by rw [C.2.2.2.2.2.2.2.1]; exact hin) (by rw [q2]; exact h6) q1 q3 (by rw [hsl]; exact k2_hasslot (q4 fi hfq)) rfl rfl hd fun H1 e1 e2 e3 => ?_
    refine k p l e R s m args below meth c Q C RT H1 _ LS (hx_set hH hlv ?_ e2 e3 (fun b hb => by funext j; simp [rset, hb]) (fun b hb => rfl)) (hS.put e2 e3 (al_Af hn hlv)) hl
    rw [cn_ob ho]
    refine ⟨r, hc, ?_⟩
    rw [hsl] at e1
    rw [co4] at q4 hap ⊢
    exact ob_set q4 hap hfi q2 q3 e1 (fun i hi => by simp [rset, hi]) (by simp [hr, rset, va_rf] <;> rfl)
  · exact absurd hlk (hnn r hc host)
theorem ty_at {t : Nat} {ty : FieldType} {k : Nat} (h : (tysF g)[k]? = some (g.2.1 t, ty)) : (tysF g)[k]? = some (g.2.1 t, ty) := h
theorem r_iald {a : A4} {i : Int32} {len : Nat} (hd : decode (mC M) pc = .ok (.iaload, 1)) (ho : akd a.1 = some (0, len)) (hlv : lvp n a) (hi : vp_in i len) (k : V g M mc ms cu su n (pc + 1) L (vI (hp a i.toNatClampNeg) :: st) rp hp P) : V g M mc ms cu su n pc L (vI i :: vR a :: st) rp hp P := by
  intro p l e R s m args below meth c Q C RT H locs LS hH hS hl
  have he := wl_get (g := g) (rp := rp) (hp := hp) hH.2.2 hlv
  rw [cn_ar ho] at he
  exact va_iald C.1 C.2.1 C.2.2.2.2.2.2.2.2.1.1 hH.1 (pos a) 0 he rfl hi hd (k p l e R s m args below meth c Q C RT H locs LS hH hS hl)
theorem r_zald {a : A4} {i : Int32} {len : Nat} (hd : decode (mC M) pc = .ok (.baload, 1)) (ho : akd a.1 = some (1, len)) (hlv : lvp n a) (hi : vp_in i len) (k : V g M mc ms cu su n (pc + 1) L (vI (hp a i.toNatClampNeg) :: st) rp hp P) : V g M mc ms cu su n pc L (vI i :: vR a :: st) rp hp P := by
  intro p l e R s m args below meth c Q C RT H locs LS hH hS hl
  have he := wl_get (g := g) (rp := rp) (hp := hp) hH.2.2 hlv
  rw [cn_ar ho] at he
  exact va_zald C.1 C.2.1 C.2.2.2.2.2.2.2.2.1.1 hH.1 (pos a) 1 he rfl hi hd (k p l e R s m args below meth c Q C RT H locs LS hH hS hl)
theorem r_cald {a : A4} {i : Int32} {len : Nat} (hd : decode (mC M) pc = .ok (.caload, 1)) (ho : akd a.1 = some (2, len)) (hlv : lvp n a) (hi : vp_in i len) (k : V g M mc ms cu su n (pc + 1) L (vI (hp a i.toNatClampNeg) :: st) rp hp P) : V g M mc ms cu su n pc L (vI i :: vR a :: st) rp hp P := by
  intro p l e R s m args below meth c Q C RT H locs LS hH hS hl
  have he := wl_get (g := g) (rp := rp) (hp := hp) hH.2.2 hlv
  rw [cn_ar ho] at he
  exact va_cald C.1 C.2.1 C.2.2.2.2.2.2.2.2.1.1 hH.1 (pos a) 2 he rfl hi hd (k p l e R s m args below meth c Q C RT H locs LS hH hS hl)
theorem r_aald {a b : A4} {i : Int32} {t len : Nat} (hd : decode (mC M) pc = .ok (.aaload, 1)) (ho : rkd a.1 = some (t, len)) (hlv : lvp n a) (hi : vp_in i len) (hb : rp a i.toNatClampNeg = some b) (k : V g M mc ms cu su n (pc + 1) L (vR b :: st) rp hp P) : V g M mc ms cu su n pc L (vI i :: vR a :: st) rp hp P := by
  intro p l e R s m args below meth c Q C RT H locs LS hH hS hl
  have he := wl_get (g := g) (rp := rp) (hp := hp) hH.2.2 hlv
  rw [cn_rr ho] at he
  have ht : ∃ (j : Nat) (D : String), (tysF g)[j]? = some (g.2.1 t, .object D) := by
    have h0 := ho
    unfold rkd at h0
    split at h0 <;> cases h0
    · exact ⟨4, RX4, rfl⟩
    · exact ⟨3, RX5, rfl⟩
    · exact ⟨3, RX5, rfl⟩
  obtain ⟨j, D, ht⟩ := ht
  refine va_aldq C.1 C.2.1 C.2.2.2.2.2.2.2.2.1.1 hH.1 (pos a) j he ht hi hd ?_
  rw [hb]
  exact k p l e R s m args below meth c Q C RT H locs LS hH hS hl
theorem r_xald {t : Nat} {i : Int32} (hd : decode (mC M) pc = .ok (.iaload, 1)) (ht : t < 3) (hi : vp_in i (g.2.2.2.2 t).1) (k : V g M mc ms cu su n (pc + 1) L (vI ((g.2.2.2.2 t).2 i.toNatClampNeg) :: st) rp hp P) : V g M mc ms cu su n pc L (vI i :: vR (24, t, 0, 0) :: st) rp hp P := by
  intro p l e R s m args below meth c Q C RT H locs LS hH hS hl
  exact va_ti C.1 C.2.1 (C.2.2.2.2.2.2.2.2.1.2.2.2.2.2 t ht) hS hi rfl hd (k p l e R s m args below meth c Q C RT H locs LS hH hS hl)
theorem r_xlen {t : Nat} (hd : decode (mC M) pc = .ok (.arraylength, 1)) (ht : t < 3) (k : V g M mc ms cu su n (pc + 1) L (vI (nI (g.2.2.2.2 t).1) :: st) rp hp P) : V g M mc ms cu su n pc L (vR (24, t, 0, 0) :: st) rp hp P := by
  intro p l e R s m args below meth c Q C RT H locs LS hH hS hl
  exact va_tlen C.1 C.2.1 (C.2.2.2.2.2.2.2.2.1.2.2.2.2.2 t ht) hS rfl hd (k p l e R s m args below meth c Q C RT H locs LS hH hS hl)
theorem r_getL {idx : Nat} {host : String} (hd : decode (mC M) pc = .ok (.getstatic idx, 3)) (hw : Cond.fieldLinkNest (mK M) idx "SplitSecrets" "LEAST_OF_SETTING" "[I" host ∈ lw_nest) (k : V g M mc ms cu su n (pc + 3) L (vR (24, 1, 0, 0) :: st) rp hp P) : V g M mc ms cu su n pc L st rp hp P := by
  intro p l e R s m args below meth c Q C RT H locs LS hH hS hl
  exact va_getsN C.1 C.2.1 C.2.2.2.2.2.2.2.2.1.2.2.2.1 hS C.2.2.2.2.1 (va_Nw.use rfl (C.2.2.2.2.2.2.2.2.1.2.1 _ hw)) (fun _ h => h) hd (k p l e R s m args below meth c Q C RT H locs LS hH hS hl)
theorem r_getM {idx : Nat} {host : String} (hd : decode (mC M) pc = .ok (.getstatic idx, 3)) (hw : Cond.fieldLinkNest (mK M) idx "SplitSecrets" "MOST_OF_SETTING" "[I" host ∈ lw_nest) (k : V g M mc ms cu su n (pc + 3) L (vR (24, 2, 0, 0) :: st) rp hp P) : V g M mc ms cu su n pc L st rp hp P := by
  intro p l e R s m args below meth c Q C RT H locs LS hH hS hl
  exact va_getsN C.1 C.2.1 C.2.2.2.2.2.2.2.2.1.2.2.2.2.1 hS C.2.2.2.2.1 (va_Nw.use rfl (C.2.2.2.2.2.2.2.2.1.2.1 _ hw)) (fun _ h => h) hd (k p l e R s m args below meth c Q C RT H locs LS hH hS hl)
theorem hset_upd {a : A4} {i : Nat} {x : Int32} : hset hp a i x a = upd (hp a) i x := by
  funext j
  by_cases h : j = i <;> simp [hset, upd, h]
theorem r_iast {a : A4} {i x : Int32} {len : Nat} (hd : decode (mC M) pc = .ok (.iastore, 1)) (ho : akd a.1 = some (0, len)) (hlv : lvp n a) (hi : vp_in i len) (k : V g M mc ms cu su n (pc + 1) L st rp (hset hp a i.toNatClampNeg x) P) : V g M mc ms cu su n pc L (vI x :: vI i :: vR a :: st) rp hp P := by
  intro p l e R s m args below meth c Q C RT H locs LS hH hS hl
  have he := wl_get (g := g) (rp := rp) (hp := hp) hH.2.2 hlv
  rw [cn_ar ho] at he
  refine W.iast C.1 C.2.1 (hH.1 (pos a) _ he) ((C.2.2.2.2.2.2.2.2.1.1.2 0 _ rfl).1 len (fun j => .int (hp a j))) (fun q => by cases q) (by show ¬ (i < 0 ∨ (arrV _ _ _).slots.size ≤ _); rw [arrV_size]; exact hi) rfl rfl hd fun H1 ee z oq => ?_
  refine k p l e R s m args below meth c Q C RT H1 _ LS (hx_set hH hlv ?_ z oq (fun b _ => rfl) (fun b hb => by funext j; simp [hset, hb])) (hS.put z oq (al_Af hH.2.2 hlv)) hl
  rw [cn_ar ho, hset_upd]
  show H1[al g a]? = some (vp_cell _ _)
  rw [ee, vp_cell_i, vp_cell_i, arrV_store]
  congr 2
  funext q
  by_cases hq : q = i.toNatClampNeg
  · subst hq
    simp [updV, upd]
  · simp [updV, upd, hq]
theorem r_zast {a : A4} {i x : Int32} {len : Nat} (hd : decode (mC M) pc = .ok (.bastore, 1)) (ho : akd a.1 = some (1, len)) (hlv : lvp n a) (hi : vp_in i len) (hx : vp_nar .boolean x = x) (k : V g M mc ms cu su n (pc + 1) L st rp (hset hp a i.toNatClampNeg x) P) : V g M mc ms cu su n pc L (vI x :: vI i :: vR a :: st) rp hp P := by
  intro p l e R s m args below meth c Q C RT H locs LS hH hS hl
  have he := wl_get (g := g) (rp := rp) (hp := hp) hH.2.2 hlv
  rw [cn_ar ho] at he
  refine W.zast C.1 C.2.1 (hH.1 (pos a) _ he) ((C.2.2.2.2.2.2.2.2.1.1.2 1 _ rfl).1 len (fun j => .int (hp a j))) (fun q => by cases q) (by show ¬ (i < 0 ∨ (arrV _ _ _).slots.size ≤ _); rw [arrV_size]; exact hi) rfl rfl hd fun H1 ee z oq => ?_
  refine k p l e R s m args below meth c Q C RT H1 _ LS (hx_set hH hlv ?_ z oq (fun b _ => rfl) (fun b hb => by funext j; simp [hset, hb])) (hS.put z oq (al_Af hH.2.2 hlv)) hl
  rw [cn_ar ho, hset_upd]
  show H1[al g a]? = some (vp_cell _ _)
  rw [ee, vp_cell_i, vp_cell_i, arrV_store]
  congr 2
  funext q
  by_cases hq : q = i.toNatClampNeg
  · subst hq
    have h2 : narrow .boolean (.int x) = .int (vp_nar .boolean x) := rfl
    rw [hx] at h2
    simp [updV, upd, h2]
  · simp [updV, upd, hq]
theorem r_cast {a : A4} {i x : Int32} {len : Nat} (hd : decode (mC M) pc = .ok (.castore, 1)) (ho : akd a.1 = some (2, len)) (hlv : lvp n a) (hi : vp_in i len) (hx : vp_nar .char x = x) (k : V g M mc ms cu su n (pc + 1) L st rp (hset hp a i.toNatClampNeg x) P) : V g M mc ms cu su n pc L (vI x :: vI i :: vR a :: st) rp hp P := by
  intro p l e R s m args below meth c Q C RT H locs LS hH hS hl
  have he := wl_get (g := g) (rp := rp) (hp := hp) hH.2.2 hlv
  rw [cn_ar ho] at he
  refine W.cast C.1 C.2.1 (hH.1 (pos a) _ he) ((C.2.2.2.2.2.2.2.2.1.1.2 2 _ rfl).1 len (fun j => .int (hp a j))) (fun q => by cases q) (by show ¬ (i < 0 ∨ (arrV _ _ _).slots.size ≤ _); rw [arrV_size]; exact hi) rfl rfl hd fun H1 ee z oq => ?_
  refine k p l e R s m args below meth c Q C RT H1 _ LS (hx_set hH hlv ?_ z oq (fun b _ => rfl) (fun b hb => by funext j; simp [hset, hb])) (hS.put z oq (al_Af hH.2.2 hlv)) hl
  rw [cn_ar ho, hset_upd]
  show H1[al g a]? = some (vp_cell _ _)
  rw [ee, vp_cell_i, vp_cell_i, arrV_store]
  congr 2
  funext q
  by_cases hq : q = i.toNatClampNeg
  · subst hq
    have h2 : narrow .char (.int x) = .int (vp_nar .char x) := rfl
    rw [hx] at h2
    simp [updV, upd, h2]
  · simp [updV, upd, hq]
theorem hx_push {H1 : Heap} (hH : HX g n rp hp H) (hn : n < 609) (ee : va_at (g.1.1, g.1.2) vwCl (g.2.2.1 + n, cn g rp hp (nm n)) H1) (z : H1.size = H.size + 1) (oq : ∀ q : Nat, q < H.size → H1[q]? = H[q]?) : HX g (n + 1) rp hp H1 := by
  obtain ⟨hP, hz, -⟩ := hH
  have hk : va_P (g.1.1, g.1.2) vwCl (wl g n rp hp) H1 := hP.kept (fun k x hx => oq x.1 ((hP k x hx).lt))
  refine ⟨?_, by rw [z, hz, Nat.add_assoc], hn⟩
  rw [wl_push]
  refine hk.app (fun k x hx => ?_)
  have hz1 : k < 1 := (List.getElem?_eq_some_iff.mp hx).1
  rw [show k = 0 by omega] at hx
  cases hx
  exact ee
theorem S_push {A0 : Nat → Prop} {H0 H1 : Heap} (hS : va_S A0 H0 H locs) (z : H1.size = H.size + 1) (oq : ∀ q : Nat, q < H.size → H1[q]? = H[q]?) : va_S A0 H0 H1 locs := ⟨Nat.le_trans hS.1 (by omega), fun x h1 h2 => (oq x (Nat.lt_of_lt_of_le h1 hS.1)).trans (hS.2.1 x h1 h2), hS.2.2⟩
theorem al_nm (hn : n < 609) : al g (nm n) = g.2.2.1 + n := by
  unfold al
  rw [if_neg (nm_24 n hn), pos_nm n hn]
theorem dv_ob {ci : Nat} {q : vw_C} (hc : vwCl[ci]? = some q) {k : Nat} (hk : k < nfT ci) : defaultValue (tyT ci k) = if rfT ci k = true then Value.null else .int 0 := by
  obtain ⟨⟨-, -, -, co4⟩, cg⟩ := cls_ok hc
  obtain ⟨-, g2, g3⟩ := cg k (by rw [co4]; exact hk)
  by_cases h : rfT ci k = true
  · rw [if_pos h]
    rcases (g2 h).2 with ⟨z, hz⟩ | ⟨z, hz⟩ <;> rw [hz] <;> rfl
  · rw [if_neg h]
    rcases g3 (by simpa using h) with hz | hz | hz <;> rw [hz] <;> rfl
theorem r_new {idx ci : Nat} {Cn : String} {T : u_T} {N : Nat} (hd : decode (mC M) pc = .ok (.new idx, 3)) (hc : vwCl[ci]? = some (Cn, T, N)) (w1 : Cond.classLink (mK M) idx Cn ∈ lw_good) (w2 : Cond.instantiable Cn N ∈ lw_good) (w3 : Cond.initialized Cn ∈ lw_good) (hn : n < 609) (hk : okd (nm n).1 = some ci) (hrp : rp (nm n) = fun _ => none) (hhp : hp (nm n) = fun _ => 0) (hcu : cu + 1 ≤ mc) (hsu : su + N ≤ ms) (k : V g M mc ms (cu + 1) (su + N) (n + 1) (pc + 3) L (vR (nm n) :: st) rp hp P) : V g M mc ms cu su n pc L st rp hp P := by
  intro p l e R s m args below meth c Q C RT H locs LS hH hS hl
  have hts := C.2.2.2.2.2.1
  have hK := C.2.2.2.2.2.2.2.2.1.1
  obtain ⟨⟨co1, co2, co3, co4⟩, cg⟩ := cls_ok hc
  have co4 : N = nfT ci := co4
  have hKn := hK.1 ci _ hc
  have hR := C.2.2.2.2.2.2.2.2.2.1
  refine W.newcK C.1 C.2.1 C.2.2.2.2.1 (hts _ w1) (hts _ w2) (hts _ w3) rfl hd (Nat.le_trans hcu hR.2.2.1) (Nat.le_trans hsu hR.2.2.2) hKn.2.1 hH.2.1 fun H1 kC hkC e1 z1 o1 => ?_
  have hz := hH.2.1
  have e3 := k p l e R s m args below meth c Q C RT H1 locs LS (hx_push hH hn ?_ (by rw [z1, hz]) (fun q hq => o1 q (by rw [← hz]; exact hq))) (S_push hS (by rw [z1, hz]) (fun q hq => o1 q (by rw [← hz]; exact hq))) hl
  · have e4 : trv g (vR (nm n)) = .ref (g.2.2.1 + n) := by show Value.ref (al g (nm n)) = _; rw [al_nm hn]
    rw [List.map_cons, e4] at e3
    exact e3
  · rw [cn_ob hk]
    refine ⟨_, hc, (u_born (tyT ci) hts co1 hKn hkC e1 co2).to (fun j hj => ?_)⟩
    have hj : j < N := hj
    rw [co4] at hj
    rw [dv_ob hc hj]
    unfold vp_V
    rw [List.getD_eq_getElem?_getD, List.getElem?_map, List.getElem?_range hj, Option.map_some, hrp, hhp]
    by_cases h : rfT ci j = true <;> simp [h, va_rf]
theorem cls_arr {t : Nat} {ty : FieldType} {s : State} {cA : ClassId} (hK : va_K (g.1.1, g.1.2) vwCl (tysF g) s) (ht : (tysF g)[t]? = some (g.2.1 t, ty)) (hty : ∀ Cn, ty ≠ .object Cn) (h : s.vm.findClass ("[" ++ ty.toString) = some cA) : g.2.1 t = cA := by
  have h1 := (hK.2 t _ ht).2
  have h2 : s.vm.findClass ("[" ++ ty.toString) = some (g.2.1 t) := by
    cases ty with
    | object z => exact absurd rfl (hty z)
    | _ => exact h1
  exact Option.some.inj (h2.symm.trans h)
theorem r_newa {atype : ArrayType} {ty : FieldType} {t len : Nat} {x : Int32} (hd : decode (mC M) pc = .ok (.newarray atype, 2)) (hw : Cond.arrayClass (newarray.typeOf atype) ∈ lw_good) (hty : newarray.typeOf atype = ty) (ht : (tysF g)[t]? = some (g.2.1 t, ty)) (hno : ∀ Cn, ty ≠ .object Cn) (hdv : defaultValue ty = .int 0) (hx : x = nI len) (hlen : len < 100000) (hn : n < 609) (hk : akd (nm n).1 = some (t, len)) (hb : len * componentBytes ty ≤ 536870912) (hhp : hp (nm n) = fun _ => 0) (hcu : cu + 1 ≤ mc) (hsu : su + len ≤ ms) (k : V g M mc ms (cu + 1) (su + len) (n + 1) (pc + 2) L (vR (nm n) :: st) rp hp P) : V g M mc ms cu su n pc L (vI x :: st) rp hp P := by
  intro p l e R s m args below meth c Q C RT H locs LS hH hS hl
  subst hty
  have hts := C.2.2.2.2.2.1
  have hK := C.2.2.2.2.2.2.2.2.1.1
  have hR := C.2.2.2.2.2.2.2.2.2.1
  have hcl : x.toNatClampNeg = len := by rw [hx]; exact nI_clamp (by omega)
  refine va_newaK C.1 C.2.1 (hts _ hw) rfl hd rfl (by rw [hx]; exact nI_pos (by omega)) hcl hb (Nat.le_trans hcu hR.2.2.1) (Nat.le_trans hsu hR.2.2.2) hH.2.1 fun H1 cA e1 z1 o1 hAr hNm => ?_
  have hz := hH.2.1
  have e3 := k p l e R s m args below meth c Q C RT H1 locs LS (hx_push hH hn ?_ (by rw [z1, hz]) (fun q hq => o1 q (by rw [← hz]; exact hq))) (S_push hS (by rw [z1, hz]) (fun q hq => o1 q (by rw [← hz]; exact hq))) hl
  · have e4 : trv g (vR (nm n)) = .ref (g.2.2.1 + n) := by show Value.ref (al g (nm n)) = _; rw [al_nm hn]
    rw [List.map_cons, e4] at e3
    exact e3
  · rw [cn_ar hk]
    show H1[g.2.2.1 + n]? = some (vp_cell _ _)
    rw [e1, vp_cell_i, hhp, cls_arr hK ht hno hNm, hdv]
theorem r_anew {idx t len : Nat} {Cn : String} {x : Int32} (hd : decode (mC M) pc = .ok (.anewarray idx, 3)) (hw : Cond.classLink (mK M) idx Cn ∈ lw_good) (hCn : Cn = RX5 ∨ Cn = RX4) (ht : (tysF g)[t]? = some (g.2.1 t, .object Cn)) (hx : x = nI len) (hlen : len < 100000) (hn : n < 609) (hk : rkd (nm n).1 = some (t, len)) (hrp : rp (nm n) = fun _ => none) (hcu : cu + 1 ≤ mc) (hsu : su + len ≤ ms) (k : V g M mc ms (cu + 1) (su + len) (n + 1) (pc + 3) L (vR (nm n) :: st) rp hp P) : V g M mc ms cu su n pc L (vI x :: st) rp hp P := by
  intro p l e R s m args below meth c Q C RT H locs LS hH hS hl
  have hts := C.2.2.2.2.2.1
  have hSX := C.2.2.2.2.2.2.2.2.1
  have hK := hSX.1
  have hR := C.2.2.2.2.2.2.2.2.2.1
  have hAO : va_AO Cn s := by rcases hCn with h | h <;> rw [h]; exact hSX.2.2.1.1; exact hSX.2.2.1.2
  have hcl : x.toNatClampNeg = len := by rw [hx]; exact nI_clamp (by omega)
  refine W.anew C.1 C.2.1 C.2.2.2.2.1 (hts _ hw) (va_AO.use hAO) rfl hd rfl (by rw [hx]; exact nI_pos (by omega)) (by rw [hcl]; omega) (Nat.le_trans hcu hR.2.2.1) (by rw [hcl]; exact Nat.le_trans hsu hR.2.2.2) fun cA kA comp f1 f2 f3 f4 => ?_
  rw [hcl]
  generalize hH1 : H.push ({ cls := cA, slots := Array.replicate len .null, vm := .none } : Cell) = H1
  have z1 : H1.size = H.size + 1 := by rw [← hH1, Array.size_push]
  have e1 : H1[H.size]? = some (arrV cA len (fun _ => .null)) := by rw [← hH1, Array.getElem?_push_size, ← arrV_new]
  have o1 : ∀ q : Nat, q < H.size → H1[q]? = H[q]? := fun q hq => by rw [← hH1, Array.getElem?_push, if_neg (Nat.ne_of_lt hq)]
  have hz := hH.2.1
  have e3 := k p l e R s m args below meth c Q C RT H1 locs LS (hx_push hH hn ?_ z1 o1) (S_push hS z1 o1) hl
  · have e4 : trv g (vR (nm n)) = .ref (g.2.2.1 + n) := by show Value.ref (al g (nm n)) = _; rw [al_nm hn]
    rw [List.map_cons, e4, ← hz] at e3
    exact e3
  · rw [cn_rr hk]
    show H1[g.2.2.1 + n]? = some (vp_cell _ _)
    obtain ⟨kB, comp2, k1, k2, k3, k4⟩ := (hK.2 t _ ht).2
    have hcA : g.2.1 t = cA := Option.some.inj (k4.symm.trans f1)
    rw [← hz, e1, vp_cell_q, hrp, hcA]
    rfl
theorem r_aast {a b : A4} {i : Int32} {t len ci : Nat} {q : vw_C} (hd : decode (mC M) pc = .ok (.aastore, 1)) (ho : rkd a.1 = some (t, len)) (hlv : lvp n a) (hlb : lvp n b) (hob : okd b.1 = some ci) (hc : vwCl[ci]? = some q) (ht : (tysF g)[t]? = some (g.2.1 t, .object q.1)) (hi : vp_in i len) (k : V g M mc ms cu su n (pc + 1) L st (rset rp a i.toNatClampNeg b) hp P) : V g M mc ms cu su n pc L (vR b :: vI i :: vR a :: st) rp hp P := by
  intro p l e R s m args below meth c Q C RT H locs LS hH hS hl
  have hK := C.2.2.2.2.2.2.2.2.1.1
  have ha := hH.1 (pos a) _ (wl_get hH.2.2 hlv)
  rw [cn_rr ho] at ha
  have hv := hH.1 (pos b) _ (wl_get hH.2.2 hlb)
  rw [cn_ob hob] at hv
  have hlt : i.toNatClampNeg < len := Nat.not_le.mp fun q => hi (Or.inr q)
  have h0 : ¬ i < 0 := fun q => hi (Or.inl q)
  obtain ⟨r', hr', cellV, g1, g2, g3, -⟩ := hv
  have hcls := (hK.1 ci q hc).2
  obtain ⟨kA, comp, k1, k2, k3, -⟩ := (hK.2 t _ ht).2
  have hcomp : comp = g.1.1 ci := Option.some.inj (k3.symm.trans hcls.1)
  subst hcomp
  obtain ⟨kC, hkC, -⟩ := hcls.2
  refine W.aast C.1 C.2.1 ha (fun q h => by cases h) (fun h => by cases h) k1 k2 rfl hkC ⟨h0, by show _ < (arrV _ _ _).slots.size; rw [arrV_size]; exact hlt⟩ g1 (fun q h => by rw [g3] at h; cases h) (by rw [g2]; exact hkC) (by rw [g2]; exact va_assign hcls) rfl rfl hd fun H1 ee z oq => ?_
  refine k p l e R s m args below meth c Q C RT H1 _ LS (hx_set hH hlv ?_ z oq (fun b hb => by funext j; simp [rset, hb]) (fun b _ => rfl)) (hS.put z oq (al_Af hH.2.2 hlv)) hl
  rw [cn_rr ho]
  show H1[al g a]? = some (vp_cell _ _)
  rw [ee, vp_cell_q, vp_cell_q, arrV_store]
  congr 2
  funext q
  by_cases hq : q = i.toNatClampNeg
  · subst hq
    simp [updV, rset, va_rf, trv]
  · simp [updV, rset, hq]
theorem r_objInit {a : A4} {idx : Nat} (hd : decode (mC M) pc = .ok (.invokespecial idx, 3)) (w1 : Cond.methodLink (mK M) idx objectInit ∈ lw_good) (w2 : Cond.instanceMethod objectInit ∈ lw_good) (w3 : Cond.code objectInit ⟨#[0xb1]⟩ 1 none ∈ lw_good) (hf : 1 ≤ mF M) (hw : (st.map fun v => (trv g v).category).sum + 12 ≤ mW M) (k : V g M mc ms cu su n (pc + 3) L st rp hp P) : V g M mc ms cu su n pc L (vR a :: st) rp hp P := by
  intro p l e R s m args below meth c Q C RT H locs LS hH hS hl
  have hts := C.2.2.2.2.2.1
  have hR := C.2.2.2.2.2.2.2.2.2.1
  refine W.objInit C.1 C.2.1 C.2.2.2.2.1 (hts _ w1) (hts _ w2) (hts _ w3) rfl (by rw [C.2.2.2.1]; exact hl.1) rfl hd (Nat.le_trans hf hR.1) ?_ (k p l e R s m args below meth c Q C RT H locs LS hH hS hl)
  rw [List.map_map]
  show 2 * 0 + _ + 12 ≤ _
  rw [Nat.mul_zero, Nat.zero_add]
  exact Nat.le_trans hw hR.2.1
theorem r_retV (hd : decode (mC M) pc = .ok (.return_, 1)) (hr : mR M = none) (hcu : cu ≤ mc) (hsu : su ≤ ms) (hP : P none n rp hp) : V g M mc ms cu su n pc L [] rp hp P := by
  intro p l e R s m args below meth c Q C RT H locs LS hH hS hl
  exact RT none n cu su rp hp H locs LS pc hP hcu hsu hH hS (Or.inl ⟨rfl, hr, hd⟩)
theorem r_retI {x : Int32} {ty : FieldType} (hd : decode (mC M) pc = .ok (.ireturn, 1)) (hr : mR M = some ty) (hx : narrow ty (.int x) = .int x) (hcu : cu ≤ mc) (hsu : su ≤ ms) (hP : P (some (vI x)) n rp hp) : V g M mc ms cu su n pc L [vI x] rp hp P := by
  intro p l e R s m args below meth c Q C RT H locs LS hH hS hl
  exact RT (some (vI x)) n cu su rp hp H locs LS pc hP hcu hsu hH hS (Or.inr (Or.inl ⟨x, ty, rfl, hr, hx, hd⟩))
theorem r_retA {a : A4} {Cn : String} (hd : decode (mC M) pc = .ok (.areturn, 1)) (hr : mR M = some (.object Cn)) (hcu : cu ≤ mc) (hsu : su ≤ ms) (hP : P (some (vR a)) n rp hp) : V g M mc ms cu su n pc L [vR a] rp hp P := by
  intro p l e R s m args below meth c Q C RT H locs LS hH hS hl
  exact RT (some (vR a)) n cu su rp hp H locs LS pc hP hcu hsu hH hS (Or.inr (Or.inr ⟨a, Cn, rfl, hr, hd⟩))
end RH
