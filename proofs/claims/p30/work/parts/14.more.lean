theorem r_ixor {g : Gh} {M : Md} {mc ms cu su n pc : Nat} {L : List (Option Vv)} {st : List Vv} {rp : RPt} {hp : HPt} {P : Pst} {x y : Int32} (hd : decode (mC M) pc = .ok (.ixor, 1)) (k : V g M mc ms cu su n (pc + 1) L (vI (x ^^^ y) :: st) rp hp P) : V g M mc ms cu su n pc L (vI y :: vI x :: st) rp hp P := by
  intro p l e R s m args below meth c Q C RT H locs LS hH hS hl
  exact lv_ixor C.1 C.2.1 hd (k p l e R s m args below meth c Q C RT H locs LS hH hS hl)
theorem m_xald {g : Gh} {M : Md} {mc ms cu su n pc : Nat} {L : List (Option Vv)} {st : List Vv} {rp : RPt} {hp : HPt} {P : Pst} {t k len : Nat} {f : Nat → Int32} {x : Int32} (hd : decode (mC M) pc = .ok (.iaload, 1)) (ht : t < 3) (hX : g.2.2.2.2 t = (len, f)) (hl : len < 2 ^ 31) (hx : x = nI k) (hk : k < len) (kk : V g M mc ms cu su n (pc + 1) L (vI (f k) :: st) rp hp P) : V g M mc ms cu su n pc L (vI x :: vR (24, t, 0, 0) :: st) rp hp P :=
  n_xald hd ht hx (by rw [hX]; exact hk) (by rw [hX]; exact hl) (by rw [hX]; exact kk)
def fFM (x y : Int32) : Int32 := if (!decide (0 ≤ x ^^^ y) && !decide (jrem x y = 0)) = true then jrem x y + y else jrem x y
theorem tJ9_floorMod {g : Gh} {x y : Int32} {hp : HPt} (hy : ¬ y = 0) : Ci g mJ9_floorMod_7cf53 [vI x, vI y] hp (fFM x y) hp := by
  unfold Ci
  refine r_iload_n dJ9_floorMod_7cf53_0 (i := 0) rfl rfl ?_
  refine r_iload_n dJ9_floorMod_7cf53_1 (i := 1) rfl rfl ?_
  refine r_irem dJ9_floorMod_7cf53_2 hy ?_
  refine r_istore_n dJ9_floorMod_7cf53_3 (i := 2) rfl (Nat.le_of_ble_eq_true rfl) rfl rfl ?_
  refine r_iload_n dJ9_floorMod_7cf53_4 (i := 0) rfl rfl ?_
  refine r_iload_n dJ9_floorMod_7cf53_5 (i := 1) rfl rfl ?_
  refine r_ixor dJ9_floorMod_7cf53_6 ?_
  refine r_if_ge dJ9_floorMod_7cf53_7 (tgt := 18) rfl (fun h7 => ?_) (fun h7 => ?_)
  · refine r_iload_n dJ9_floorMod_7cf53_18 (i := 2) rfl rfl ?_
    exact e_i dJ9_floorMod_7cf53_19 rfl (by first | rfl | exact bi_nar _) (by first | rfl | simp [fFM, *]) rfl
  · refine r_iload_n dJ9_floorMod_7cf53_10 (i := 2) rfl rfl ?_
    refine r_if_eq dJ9_floorMod_7cf53_11 (tgt := 18) rfl (fun h11 => ?_) (fun h11 => ?_)
    · refine r_iload_n dJ9_floorMod_7cf53_18 (i := 2) rfl rfl ?_
      exact e_i dJ9_floorMod_7cf53_19 rfl (by first | rfl | exact bi_nar _) (by first | rfl | simp [fFM, *]) rfl
    · refine r_iload_n dJ9_floorMod_7cf53_14 (i := 2) rfl rfl ?_
      refine r_iload_n dJ9_floorMod_7cf53_15 (i := 1) rfl rfl ?_
      refine r_iadd dJ9_floorMod_7cf53_16 ?_
      exact e_i dJ9_floorMod_7cf53_17 rfl (by first | rfl | exact bi_nar _) (by first | rfl | simp [fFM, *]) rfl
def fL : Nat → Int32 := fun i => if i = 0 then 1 else 0
def fM : Nat → Int32 := fun i => if i = 0 then 20 else if i = 1 then 99 else 4
def GX (g : Gh) : Prop := g.2.2.2.2 1 = (3, fL) ∧ g.2.2.2.2 2 = (3, fM)
def fSt (x : Int32) : Bool := !decide (x < 0) && decide (x < 2)
def fPt (x : Int32) : Bool := !decide (x < 0) && decide (x < 256)
def fTg (x : Int32) : Bool := !decide (x < 0) && decide (x < 257)
def fHas (hp : HPt) (t : Nat) (x : Int32) : Bool := !decide (x < 0) && decide (x < hp (0, t, 0, 0) 3)
def fHalf (hp : HPt) (t : Nat) (s x : Int32) : Bool := fSt s && fHas hp t x
def fSlp (hp : HPt) (t : Nat) : Bool := !decide (hp (3, t, 0, 0) 0 = 0) || !decide (hp (3, t, 0, 0) 1 = 0)
theorem tX6_isStore {g : Gh} {x : Int32} {hp : HPt} : Ci g mX6_isStore [vI x] hp (bi (fSt x)) hp := by
  unfold Ci
  refine r_iload_n dX6_isStore_0 (i := 0) rfl rfl ?_
  refine r_if_lt dX6_isStore_1 (tgt := 13) rfl (fun h1 => ?_) (fun h1 => ?_)
  · refine r_iconst dX6_isStore_13 (v := 0) rfl ?_
    exact e_i dX6_isStore_14 rfl (by first | rfl | exact bi_nar _) (by first | rfl | simp_all [bi, fSt]) rfl
  · refine r_iload_n dX6_isStore_4 (i := 0) rfl rfl ?_
    refine r_iconst dX6_isStore_5 (v := 2) rfl ?_
    refine r_icmp_ge dX6_isStore_6 (tgt := 13) rfl (fun h6 => ?_) (fun h6 => ?_)
    · refine r_iconst dX6_isStore_13 (v := 0) rfl ?_
      exact e_i dX6_isStore_14 rfl (by first | rfl | exact bi_nar _) (by first | rfl | simp_all [bi, fSt]) rfl
    · refine r_iconst dX6_isStore_9 (v := 1) rfl ?_
      refine r_goto dX6_isStore_10 (tgt := 14) rfl ?_
      exact e_i dX6_isStore_14 rfl (by first | rfl | exact bi_nar _) (by first | rfl | simp_all [bi, fSt]) rfl
theorem tX6_isPart {g : Gh} {x : Int32} {hp : HPt} : Ci g mX6_isPart [vI x] hp (bi (fPt x)) hp := by
  unfold Ci
  refine r_iload_n dX6_isPart_0 (i := 0) rfl rfl ?_
  refine r_if_lt dX6_isPart_1 (tgt := 15) rfl (fun h1 => ?_) (fun h1 => ?_)
  · refine r_iconst dX6_isPart_15 (v := 0) rfl ?_
    exact e_i dX6_isPart_16 rfl (by first | rfl | exact bi_nar _) (by first | rfl | simp_all [bi, fPt]) rfl
  · refine r_iload_n dX6_isPart_4 (i := 0) rfl rfl ?_
    refine r_sipush dX6_isPart_5 (v := 256) rfl ?_
    refine r_icmp_ge dX6_isPart_8 (tgt := 15) rfl (fun h8 => ?_) (fun h8 => ?_)
    · refine r_iconst dX6_isPart_15 (v := 0) rfl ?_
      exact e_i dX6_isPart_16 rfl (by first | rfl | exact bi_nar _) (by first | rfl | simp_all [bi, fPt]) rfl
    · refine r_iconst dX6_isPart_11 (v := 1) rfl ?_
      refine r_goto dX6_isPart_12 (tgt := 16) rfl ?_
      exact e_i dX6_isPart_16 rfl (by first | rfl | exact bi_nar _) (by first | rfl | simp_all [bi, fPt]) rfl
theorem tX6_isTag {g : Gh} {x : Int32} {hp : HPt} : Ci g mX6_isTag [vI x] hp (bi (fTg x)) hp := by
  unfold Ci
  refine r_iload_n dX6_isTag_0 (i := 0) rfl rfl ?_
  refine r_if_lt dX6_isTag_1 (tgt := 15) rfl (fun h1 => ?_) (fun h1 => ?_)
  · refine r_iconst dX6_isTag_15 (v := 0) rfl ?_
    exact e_i dX6_isTag_16 rfl (by first | rfl | exact bi_nar _) (by first | rfl | simp_all [bi, fTg]) rfl
  · refine r_iload_n dX6_isTag_4 (i := 0) rfl rfl ?_
    refine r_sipush dX6_isTag_5 (v := 257) rfl ?_
    refine r_icmp_ge dX6_isTag_8 (tgt := 15) rfl (fun h8 => ?_) (fun h8 => ?_)
    · refine r_iconst dX6_isTag_15 (v := 0) rfl ?_
      exact e_i dX6_isTag_16 rfl (by first | rfl | exact bi_nar _) (by first | rfl | simp_all [bi, fTg]) rfl
    · refine r_iconst dX6_isTag_11 (v := 1) rfl ?_
      refine r_goto dX6_isTag_12 (tgt := 16) rfl ?_
      exact e_i dX6_isTag_16 rfl (by first | rfl | exact bi_nar _) (by first | rfl | simp_all [bi, fTg]) rfl
theorem tX5_hasSecret {g : Gh} {t : Nat} {x : Int32} {hp : HPt} (ht : t < 10) : Ci g mX5_hasSecret [vR (0, t, 0, 0), vI x] hp (bi (fHas hp t x)) hp := by
  unfold Ci
  refine r_iload_n dX5_hasSecret_0 (i := 1) rfl rfl ?_
  refine r_if_lt dX5_hasSecret_1 (tgt := 16) rfl (fun h1 => ?_) (fun h1 => ?_)
  · refine r_iconst dX5_hasSecret_16 (v := 0) rfl ?_
    exact e_i dX5_hasSecret_17 rfl (by first | rfl | exact bi_nar _) (by first | rfl | simp_all [bi, fHas]) rfl
  · refine r_iload_n dX5_hasSecret_4 (i := 1) rfl rfl ?_
    refine r_aload_n dX5_hasSecret_5 (i := 0) rfl rfl ?_
    refine r_getI dX5_hasSecret_6 f_5_34 rfl rfl (lv0 (by first | assumption | decide | omega)) ?_
    refine r_icmp_ge dX5_hasSecret_9 (tgt := 16) rfl (fun h9 => ?_) (fun h9 => ?_)
    · refine r_iconst dX5_hasSecret_16 (v := 0) rfl ?_
      exact e_i dX5_hasSecret_17 rfl (by first | rfl | exact bi_nar _) (by first | rfl | simp_all [bi, fHas]) rfl
    · refine r_iconst dX5_hasSecret_12 (v := 1) rfl ?_
      refine r_goto dX5_hasSecret_13 (tgt := 17) rfl ?_
      exact e_i dX5_hasSecret_17 rfl (by first | rfl | exact bi_nar _) (by first | rfl | simp_all [bi, fHas]) rfl
theorem tX5_hasHalf {g : Gh} {t : Nat} {s x : Int32} {hp : HPt} (ht : t < 10) : Ci g mX5_hasHalf [vR (0, t, 0, 0), vI s, vI x] hp (bi (fHalf hp t s x)) hp := by
  unfold Ci
  refine r_iload_n dX5_hasHalf_0 (i := 1) rfl rfl ?_
  refine sX5_hasHalf_1 (Nat.le_refl _) (Nat.le_refl _) (Nat.le_of_ble_eq_true rfl) (tX6_isStore) ?_
  refine r_if_eq dX5_hasHalf_4 (tgt := 19) rfl (fun h4 => ?_) (fun h4 => ?_)
  · refine r_iconst dX5_hasHalf_19 (v := 0) rfl ?_
    exact e_i dX5_hasHalf_20 rfl (by first | rfl | exact bi_nar _) (by (simp only [bi_0, bi_n0] at *; first | rfl | simp_all [bi, fHalf])) rfl
  · refine r_aload_n dX5_hasHalf_7 (i := 0) rfl rfl ?_
    refine r_iload_n dX5_hasHalf_8 (i := 2) rfl rfl ?_
    refine sX5_hasHalf_9 (Nat.le_refl _) (Nat.le_refl _) rfl (lv0 (by first | assumption | decide | omega)) (Nat.le_of_ble_eq_true rfl) (tX5_hasSecret ht) ?_
    refine r_if_eq dX5_hasHalf_12 (tgt := 19) rfl (fun h12 => ?_) (fun h12 => ?_)
    · refine r_iconst dX5_hasHalf_19 (v := 0) rfl ?_
      exact e_i dX5_hasHalf_20 rfl (by first | rfl | exact bi_nar _) (by (simp only [bi_0, bi_n0] at *; first | rfl | simp_all [bi, fHalf])) rfl
    · refine r_iconst dX5_hasHalf_15 (v := 1) rfl ?_
      refine r_goto dX5_hasHalf_16 (tgt := 20) rfl ?_
      exact e_i dX5_hasHalf_20 rfl (by first | rfl | exact bi_nar _) (by (simp only [bi_0, bi_n0] at *; first | rfl | simp_all [bi, fHalf])) rfl
theorem tX5_someStoreSleeps {g : Gh} {t : Nat} {hp : HPt} (ht : t < 10) : Ci g mX5_someStoreSleeps [vR (0, t, 0, 0)] hp (bi (fSlp hp t)) hp := by
  unfold Ci
  refine r_aload_n dX5_someStoreSleeps_0 (i := 0) rfl rfl ?_
  refine r_getR dX5_someStoreSleeps_1 f_5_21 rfl rfl rfl (lv0 (by first | assumption | decide | omega)) ?_
  refine r_iconst dX5_someStoreSleeps_4 (v := 0) rfl ?_
  refine n_zald dX5_someStoreSleeps_5 rfl (lv3 (by first | assumption | decide | omega)) (k := 0) rfl (by decide) ?_
  refine r_if_ne dX5_someStoreSleeps_6 (tgt := 18) rfl (fun h6 => ?_) (fun h6 => ?_)
  · refine r_iconst dX5_someStoreSleeps_18 (v := 1) rfl ?_
    refine r_goto dX5_someStoreSleeps_19 (tgt := 23) rfl ?_
    exact e_i dX5_someStoreSleeps_23 rfl (by first | rfl | exact bi_nar _) (by first | rfl | simp_all [bi, fSlp]) rfl
  · refine r_aload_n dX5_someStoreSleeps_9 (i := 0) rfl rfl ?_
    refine r_getR dX5_someStoreSleeps_10 f_5_21 rfl rfl rfl (lv0 (by first | assumption | decide | omega)) ?_
    refine r_iconst dX5_someStoreSleeps_13 (v := 1) rfl ?_
    refine n_zald dX5_someStoreSleeps_14 rfl (lv3 (by first | assumption | decide | omega)) (k := 1) rfl (by decide) ?_
    refine r_if_eq dX5_someStoreSleeps_15 (tgt := 22) rfl (fun h15 => ?_) (fun h15 => ?_)
    · refine r_iconst dX5_someStoreSleeps_22 (v := 0) rfl ?_
      exact e_i dX5_someStoreSleeps_23 rfl (by first | rfl | exact bi_nar _) (by first | rfl | simp_all [bi, fSlp]) rfl
    · refine r_iconst dX5_someStoreSleeps_18 (v := 1) rfl ?_
      refine r_goto dX5_someStoreSleeps_19 (tgt := 23) rfl ?_
      exact e_i dX5_someStoreSleeps_23 rfl (by first | rfl | exact bi_nar _) (by first | rfl | simp_all [bi, fSlp]) rfl
