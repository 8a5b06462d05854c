theorem out_lo {x : Int32} {lo hi : Int} (h : x < 0) (e : lo = 0) : x.toInt < lo ∨ hi < x.toInt := Or.inl (by rw [e]; exact Int32.lt_iff_toInt_lt.mp h)
theorem out_wd {x : Int32} {n : Nat} {hi : Int} (h : (!decide (x < 0) && decide (x < nI n)) = false) (hn : n < 2 ^ 31) (e : hi = (n : Int) - 1) : x.toInt < 0 ∨ hi < x.toInt := by
  by_cases h0 : x < 0
  · exact Or.inl (Int32.lt_iff_toInt_lt.mp h0)
  · by_cases h1 : x < nI n
    · simp [h0, h1] at h
    · right
      rw [Int32.lt_iff_toInt_lt, nI_toInt hn] at h1
      omega
def figH (hp : HPt) (t j b : Nat) (k : Nat) : Int32 := match k with
  | 0 => hp (6, t, j, b) 0
  | 1 => hp (5, t, j, b) 2
  | 2 => hp (5, t, j, b) 3
  | 3 => hp (5, t, j, b) 4
  | 4 => hp (5, t, j, b) 5
  | 5 => hp (5, t, j, b) 6
  | 6 => jrem (hp (6, t, j, b) 0 + hp (5, t, j, b) 5) 256
  | _ => jrem (hp (5, t, j, b) 2 + hp (5, t, j, b) 6) 257
theorem tX5_figureOfHalf_e {g : Gh} {t : Nat} {s x w : Int32} {hp : HPt} (ht : t < 10) (hx : fHalf hp t s x = false) : Ci g mX5_figureOfHalf [vR (0, t, 0, 0), vI s, vI x, vI w] hp (-1) hp := by
  unfold Ci
  refine r_aload_n dX5_figureOfHalf_0 (i := 0) rfl rfl ?_
  refine r_iload_n dX5_figureOfHalf_1 (i := 1) rfl rfl ?_
  refine r_iload_n dX5_figureOfHalf_2 (i := 2) rfl rfl ?_
  refine sX5_figureOfHalf_3 (Nat.le_refl _) (Nat.le_refl _) rfl (lv0 (by first | assumption | decide | omega)) (Nat.le_of_ble_eq_true rfl) (tX5_hasHalf ht) ?_
  refine r_if_ne dX5_figureOfHalf_6 (tgt := 11) rfl (fun h6 => absurd (bi_0.mpr hx) h6) (fun _ => ?_)
  refine r_iconst dX5_figureOfHalf_9 (v := (-1)) rfl ?_
  exact e_i dX5_figureOfHalf_10 rfl (by first | rfl | exact bi_nar _) (by first | rfl | simp [bi, *]) rfl
theorem tX5_figureOfHalf_e2 {g : Gh} {t j b : Nat} {w : Int32} {hp : HPt} (ht : t < 10) (hj : j < 8) (hb : b < 2) (hx : fHalf hp t (nI b) (nI j) = true) (hw : (!decide (w < 0) && decide (w < nI 8)) = false) : Ci g mX5_figureOfHalf [vR (0, t, 0, 0), vI (nI b), vI (nI j), vI w] hp (-2) hp := by
  unfold Ci
  refine r_aload_n dX5_figureOfHalf_0 (i := 0) rfl rfl ?_
  refine r_iload_n dX5_figureOfHalf_1 (i := 1) rfl rfl ?_
  refine r_iload_n dX5_figureOfHalf_2 (i := 2) rfl rfl ?_
  refine sX5_figureOfHalf_3 (Nat.le_refl _) (Nat.le_refl _) rfl (lv0 (by first | assumption | decide | omega)) (Nat.le_of_ble_eq_true rfl) (tX5_hasHalf ht) ?_
  refine r_if_ne dX5_figureOfHalf_6 (tgt := 11) rfl (fun _ => ?_) (fun h6 => absurd h6 (bi_n0.mpr hx))
  refine r_aload_n dX5_figureOfHalf_11 (i := 0) rfl rfl ?_
  refine r_getR dX5_figureOfHalf_12 f_5_11 rfl rfl rfl (lv0 (by first | assumption | decide | omega)) ?_
  refine r_iload_n dX5_figureOfHalf_15 (i := 2) rfl rfl ?_
  refine n_aald dX5_figureOfHalf_16 rfl (lv1 (by first | assumption | decide | omega)) rfl (by first | assumption | omega | (unfold cI; omega)) rfl ?_
  refine r_iload_n dX5_figureOfHalf_17 (i := 1) rfl rfl ?_
  refine sX5_figureOfHalf_18 (Nat.le_refl _) (Nat.le_refl _) rfl (lv4 (by first | assumption | decide | omega) (by first | assumption | decide | omega)) (Nat.le_of_ble_eq_true rfl) (tX4_halfIn ht hj hb) ?_
  refine r_astore dX5_figureOfHalf_21 (Nat.le_of_ble_eq_true rfl) rfl rfl ?_
  refine r_iload_n dX5_figureOfHalf_23 (i := 3) rfl rfl ?_
  refine r_tabOut dX5_figureOfHalf_24 (tgt := 122) (out_wd hw (by decide) rfl) rfl ?_
  refine r_bipush dX5_figureOfHalf_122 (v := (-2)) rfl ?_
  exact e_i dX5_figureOfHalf_124 rfl (by first | rfl | exact bi_nar _) (by first | rfl | simp [bi, *]) rfl
theorem tX5_figureOfHalf {g : Gh} {t j b k : Nat} {hp : HPt} (ht : t < 10) (hj : j < 8) (hb : b < 2) (hx : fHalf hp t (nI b) (nI j) = true) (hk : k < 8) : Ci g mX5_figureOfHalf [vR (0, t, 0, 0), vI (nI b), vI (nI j), vI (nI k)] hp (figH hp t j b k) hp := by
  unfold Ci
  match k, hk with
  | 0, _ =>
    refine r_aload_n dX5_figureOfHalf_0 (i := 0) rfl rfl ?_
    refine r_iload_n dX5_figureOfHalf_1 (i := 1) rfl rfl ?_
    refine r_iload_n dX5_figureOfHalf_2 (i := 2) rfl rfl ?_
    refine sX5_figureOfHalf_3 (Nat.le_refl _) (Nat.le_refl _) rfl (lv0 (by first | assumption | decide | omega)) (Nat.le_of_ble_eq_true rfl) (tX5_hasHalf ht) ?_
    refine r_if_ne dX5_figureOfHalf_6 (tgt := 11) rfl (fun _ => ?_) (fun h6 => absurd h6 (bi_n0.mpr hx))
    refine r_aload_n dX5_figureOfHalf_11 (i := 0) rfl rfl ?_
    refine r_getR dX5_figureOfHalf_12 f_5_11 rfl rfl rfl (lv0 (by first | assumption | decide | omega)) ?_
    refine r_iload_n dX5_figureOfHalf_15 (i := 2) rfl rfl ?_
    refine n_aald dX5_figureOfHalf_16 rfl (lv1 (by first | assumption | decide | omega)) rfl (by first | assumption | omega | (unfold cI; omega)) rfl ?_
    refine r_iload_n dX5_figureOfHalf_17 (i := 1) rfl rfl ?_
    refine sX5_figureOfHalf_18 (Nat.le_refl _) (Nat.le_refl _) rfl (lv4 (by first | assumption | decide | omega) (by first | assumption | decide | omega)) (Nat.le_of_ble_eq_true rfl) (tX4_halfIn ht hj hb) ?_
    refine r_astore dX5_figureOfHalf_21 (Nat.le_of_ble_eq_true rfl) rfl rfl ?_
    refine r_iload_n dX5_figureOfHalf_23 (i := 3) rfl rfl ?_
    refine r_tabIn dX5_figureOfHalf_24 (off := 48) (tgt := 72) (by decide) (by decide) (by decide) rfl ?_
    refine r_aload dX5_figureOfHalf_72 rfl ?_
    refine r_getR dX5_figureOfHalf_74 f_5_87 rfl rfl rfl (lv5 (by first | assumption | decide | omega) (by first | assumption | decide | omega) (by first | assumption | decide | omega)) ?_
    refine r_iconst dX5_figureOfHalf_77 (v := 0) rfl ?_
    refine n_iald dX5_figureOfHalf_78 rfl (lv6 (by first | assumption | decide | omega) (by first | assumption | decide | omega) (by first | assumption | decide | omega)) (k := 0) rfl (by decide) ?_
    exact e_i dX5_figureOfHalf_79 rfl (by first | rfl | exact bi_nar _) (by first | rfl | simp [bi, *]) rfl
  | 1, _ =>
    refine r_aload_n dX5_figureOfHalf_0 (i := 0) rfl rfl ?_
    refine r_iload_n dX5_figureOfHalf_1 (i := 1) rfl rfl ?_
    refine r_iload_n dX5_figureOfHalf_2 (i := 2) rfl rfl ?_
    refine sX5_figureOfHalf_3 (Nat.le_refl _) (Nat.le_refl _) rfl (lv0 (by first | assumption | decide | omega)) (Nat.le_of_ble_eq_true rfl) (tX5_hasHalf ht) ?_
    refine r_if_ne dX5_figureOfHalf_6 (tgt := 11) rfl (fun _ => ?_) (fun h6 => absurd h6 (bi_n0.mpr hx))
    refine r_aload_n dX5_figureOfHalf_11 (i := 0) rfl rfl ?_
    refine r_getR dX5_figureOfHalf_12 f_5_11 rfl rfl rfl (lv0 (by first | assumption | decide | omega)) ?_
    refine r_iload_n dX5_figureOfHalf_15 (i := 2) rfl rfl ?_
    refine n_aald dX5_figureOfHalf_16 rfl (lv1 (by first | assumption | decide | omega)) rfl (by first | assumption | omega | (unfold cI; omega)) rfl ?_
    refine r_iload_n dX5_figureOfHalf_17 (i := 1) rfl rfl ?_
    refine sX5_figureOfHalf_18 (Nat.le_refl _) (Nat.le_refl _) rfl (lv4 (by first | assumption | decide | omega) (by first | assumption | decide | omega)) (Nat.le_of_ble_eq_true rfl) (tX4_halfIn ht hj hb) ?_
    refine r_astore dX5_figureOfHalf_21 (Nat.le_of_ble_eq_true rfl) rfl rfl ?_
    refine r_iload_n dX5_figureOfHalf_23 (i := 3) rfl rfl ?_
    refine r_tabIn dX5_figureOfHalf_24 (off := 56) (tgt := 80) (by decide) (by decide) (by decide) rfl ?_
    refine r_aload dX5_figureOfHalf_80 rfl ?_
    refine r_getI dX5_figureOfHalf_82 f_5_112 rfl rfl (lv5 (by first | assumption | decide | omega) (by first | assumption | decide | omega) (by first | assumption | decide | omega)) ?_
    exact e_i dX5_figureOfHalf_85 rfl (by first | rfl | exact bi_nar _) (by first | rfl | simp [bi, *]) rfl
  | 2, _ =>
    refine r_aload_n dX5_figureOfHalf_0 (i := 0) rfl rfl ?_
    refine r_iload_n dX5_figureOfHalf_1 (i := 1) rfl rfl ?_
    refine r_iload_n dX5_figureOfHalf_2 (i := 2) rfl rfl ?_
    refine sX5_figureOfHalf_3 (Nat.le_refl _) (Nat.le_refl _) rfl (lv0 (by first | assumption | decide | omega)) (Nat.le_of_ble_eq_true rfl) (tX5_hasHalf ht) ?_
    refine r_if_ne dX5_figureOfHalf_6 (tgt := 11) rfl (fun _ => ?_) (fun h6 => absurd h6 (bi_n0.mpr hx))
    refine r_aload_n dX5_figureOfHalf_11 (i := 0) rfl rfl ?_
    refine r_getR dX5_figureOfHalf_12 f_5_11 rfl rfl rfl (lv0 (by first | assumption | decide | omega)) ?_
    refine r_iload_n dX5_figureOfHalf_15 (i := 2) rfl rfl ?_
    refine n_aald dX5_figureOfHalf_16 rfl (lv1 (by first | assumption | decide | omega)) rfl (by first | assumption | omega | (unfold cI; omega)) rfl ?_
    refine r_iload_n dX5_figureOfHalf_17 (i := 1) rfl rfl ?_
    refine sX5_figureOfHalf_18 (Nat.le_refl _) (Nat.le_refl _) rfl (lv4 (by first | assumption | decide | omega) (by first | assumption | decide | omega)) (Nat.le_of_ble_eq_true rfl) (tX4_halfIn ht hj hb) ?_
    refine r_astore dX5_figureOfHalf_21 (Nat.le_of_ble_eq_true rfl) rfl rfl ?_
    refine r_iload_n dX5_figureOfHalf_23 (i := 3) rfl rfl ?_
    refine r_tabIn dX5_figureOfHalf_24 (off := 62) (tgt := 86) (by decide) (by decide) (by decide) rfl ?_
    refine r_aload dX5_figureOfHalf_86 rfl ?_
    refine r_getI dX5_figureOfHalf_88 f_5_102 rfl rfl (lv5 (by first | assumption | decide | omega) (by first | assumption | decide | omega) (by first | assumption | decide | omega)) ?_
    exact e_i dX5_figureOfHalf_91 rfl (by first | rfl | exact bi_nar _) (by first | rfl | simp [bi, *]) rfl
  | 3, _ =>
    refine r_aload_n dX5_figureOfHalf_0 (i := 0) rfl rfl ?_
    refine r_iload_n dX5_figureOfHalf_1 (i := 1) rfl rfl ?_
    refine r_iload_n dX5_figureOfHalf_2 (i := 2) rfl rfl ?_
    refine sX5_figureOfHalf_3 (Nat.le_refl _) (Nat.le_refl _) rfl (lv0 (by first | assumption | decide | omega)) (Nat.le_of_ble_eq_true rfl) (tX5_hasHalf ht) ?_
    refine r_if_ne dX5_figureOfHalf_6 (tgt := 11) rfl (fun _ => ?_) (fun h6 => absurd h6 (bi_n0.mpr hx))
    refine r_aload_n dX5_figureOfHalf_11 (i := 0) rfl rfl ?_
    refine r_getR dX5_figureOfHalf_12 f_5_11 rfl rfl rfl (lv0 (by first | assumption | decide | omega)) ?_
    refine r_iload_n dX5_figureOfHalf_15 (i := 2) rfl rfl ?_
    refine n_aald dX5_figureOfHalf_16 rfl (lv1 (by first | assumption | decide | omega)) rfl (by first | assumption | omega | (unfold cI; omega)) rfl ?_
    refine r_iload_n dX5_figureOfHalf_17 (i := 1) rfl rfl ?_
    refine sX5_figureOfHalf_18 (Nat.le_refl _) (Nat.le_refl _) rfl (lv4 (by first | assumption | decide | omega) (by first | assumption | decide | omega)) (Nat.le_of_ble_eq_true rfl) (tX4_halfIn ht hj hb) ?_
    refine r_astore dX5_figureOfHalf_21 (Nat.le_of_ble_eq_true rfl) rfl rfl ?_
    refine r_iload_n dX5_figureOfHalf_23 (i := 3) rfl rfl ?_
    refine r_tabIn dX5_figureOfHalf_24 (off := 68) (tgt := 92) (by decide) (by decide) (by decide) rfl ?_
    refine r_aload dX5_figureOfHalf_92 rfl ?_
    refine r_getI dX5_figureOfHalf_94 f_5_105 rfl rfl (lv5 (by first | assumption | decide | omega) (by first | assumption | decide | omega) (by first | assumption | decide | omega)) ?_
    exact e_i dX5_figureOfHalf_97 rfl (by first | rfl | exact bi_nar _) (by first | rfl | simp [bi, *]) rfl
  | 4, _ =>
    refine r_aload_n dX5_figureOfHalf_0 (i := 0) rfl rfl ?_
    refine r_iload_n dX5_figureOfHalf_1 (i := 1) rfl rfl ?_
    refine r_iload_n dX5_figureOfHalf_2 (i := 2) rfl rfl ?_
    refine sX5_figureOfHalf_3 (Nat.le_refl _) (Nat.le_refl _) rfl (lv0 (by first | assumption | decide | omega)) (Nat.le_of_ble_eq_true rfl) (tX5_hasHalf ht) ?_
    refine r_if_ne dX5_figureOfHalf_6 (tgt := 11) rfl (fun _ => ?_) (fun h6 => absurd h6 (bi_n0.mpr hx))
    refine r_aload_n dX5_figureOfHalf_11 (i := 0) rfl rfl ?_
    refine r_getR dX5_figureOfHalf_12 f_5_11 rfl rfl rfl (lv0 (by first | assumption | decide | omega)) ?_
    refine r_iload_n dX5_figureOfHalf_15 (i := 2) rfl rfl ?_
    refine n_aald dX5_figureOfHalf_16 rfl (lv1 (by first | assumption | decide | omega)) rfl (by first | assumption | omega | (unfold cI; omega)) rfl ?_
    refine r_iload_n dX5_figureOfHalf_17 (i := 1) rfl rfl ?_
    refine sX5_figureOfHalf_18 (Nat.le_refl _) (Nat.le_refl _) rfl (lv4 (by first | assumption | decide | omega) (by first | assumption | decide | omega)) (Nat.le_of_ble_eq_true rfl) (tX4_halfIn ht hj hb) ?_
    refine r_astore dX5_figureOfHalf_21 (Nat.le_of_ble_eq_true rfl) rfl rfl ?_
    refine r_iload_n dX5_figureOfHalf_23 (i := 3) rfl rfl ?_
    refine r_tabIn dX5_figureOfHalf_24 (off := 74) (tgt := 98) (by decide) (by decide) (by decide) rfl ?_
    refine r_aload dX5_figureOfHalf_98 rfl ?_
    refine r_getI dX5_figureOfHalf_100 f_5_138 rfl rfl (lv5 (by first | assumption | decide | omega) (by first | assumption | decide | omega) (by first | assumption | decide | omega)) ?_
    exact e_i dX5_figureOfHalf_103 rfl (by first | rfl | exact bi_nar _) (by first | rfl | simp [bi, *]) rfl
  | 5, _ =>
    refine r_aload_n dX5_figureOfHalf_0 (i := 0) rfl rfl ?_
    refine r_iload_n dX5_figureOfHalf_1 (i := 1) rfl rfl ?_
    refine r_iload_n dX5_figureOfHalf_2 (i := 2) rfl rfl ?_
    refine sX5_figureOfHalf_3 (Nat.le_refl _) (Nat.le_refl _) rfl (lv0 (by first | assumption | decide | omega)) (Nat.le_of_ble_eq_true rfl) (tX5_hasHalf ht) ?_
    refine r_if_ne dX5_figureOfHalf_6 (tgt := 11) rfl (fun _ => ?_) (fun h6 => absurd h6 (bi_n0.mpr hx))
    refine r_aload_n dX5_figureOfHalf_11 (i := 0) rfl rfl ?_
    refine r_getR dX5_figureOfHalf_12 f_5_11 rfl rfl rfl (lv0 (by first | assumption | decide | omega)) ?_
    refine r_iload_n dX5_figureOfHalf_15 (i := 2) rfl rfl ?_
    refine n_aald dX5_figureOfHalf_16 rfl (lv1 (by first | assumption | decide | omega)) rfl (by first | assumption | omega | (unfold cI; omega)) rfl ?_
    refine r_iload_n dX5_figureOfHalf_17 (i := 1) rfl rfl ?_
    refine sX5_figureOfHalf_18 (Nat.le_refl _) (Nat.le_refl _) rfl (lv4 (by first | assumption | decide | omega) (by first | assumption | decide | omega)) (Nat.le_of_ble_eq_true rfl) (tX4_halfIn ht hj hb) ?_
    refine r_astore dX5_figureOfHalf_21 (Nat.le_of_ble_eq_true rfl) rfl rfl ?_
    refine r_iload_n dX5_figureOfHalf_23 (i := 3) rfl rfl ?_
    refine r_tabIn dX5_figureOfHalf_24 (off := 80) (tgt := 104) (by decide) (by decide) (by decide) rfl ?_
    refine r_aload dX5_figureOfHalf_104 rfl ?_
    refine r_getI dX5_figureOfHalf_106 f_5_141 rfl rfl (lv5 (by first | assumption | decide | omega) (by first | assumption | decide | omega) (by first | assumption | decide | omega)) ?_
    exact e_i dX5_figureOfHalf_109 rfl (by first | rfl | exact bi_nar _) (by first | rfl | simp [bi, *]) rfl
  | 6, _ =>
    refine r_aload_n dX5_figureOfHalf_0 (i := 0) rfl rfl ?_
    refine r_iload_n dX5_figureOfHalf_1 (i := 1) rfl rfl ?_
    refine r_iload_n dX5_figureOfHalf_2 (i := 2) rfl rfl ?_
    refine sX5_figureOfHalf_3 (Nat.le_refl _) (Nat.le_refl _) rfl (lv0 (by first | assumption | decide | omega)) (Nat.le_of_ble_eq_true rfl) (tX5_hasHalf ht) ?_
    refine r_if_ne dX5_figureOfHalf_6 (tgt := 11) rfl (fun _ => ?_) (fun h6 => absurd h6 (bi_n0.mpr hx))
    refine r_aload_n dX5_figureOfHalf_11 (i := 0) rfl rfl ?_
    refine r_getR dX5_figureOfHalf_12 f_5_11 rfl rfl rfl (lv0 (by first | assumption | decide | omega)) ?_
    refine r_iload_n dX5_figureOfHalf_15 (i := 2) rfl rfl ?_
    refine n_aald dX5_figureOfHalf_16 rfl (lv1 (by first | assumption | decide | omega)) rfl (by first | assumption | omega | (unfold cI; omega)) rfl ?_
    refine r_iload_n dX5_figureOfHalf_17 (i := 1) rfl rfl ?_
    refine sX5_figureOfHalf_18 (Nat.le_refl _) (Nat.le_refl _) rfl (lv4 (by first | assumption | decide | omega) (by first | assumption | decide | omega)) (Nat.le_of_ble_eq_true rfl) (tX4_halfIn ht hj hb) ?_
    refine r_astore dX5_figureOfHalf_21 (Nat.le_of_ble_eq_true rfl) rfl rfl ?_
    refine r_iload_n dX5_figureOfHalf_23 (i := 3) rfl rfl ?_
    refine r_tabIn dX5_figureOfHalf_24 (off := 86) (tgt := 110) (by decide) (by decide) (by decide) rfl ?_
    refine r_aload dX5_figureOfHalf_110 rfl ?_
    refine sX5_figureOfHalf_112 (Nat.le_refl _) (Nat.le_refl _) rfl (lv5 (by first | assumption | decide | omega) (by first | assumption | decide | omega) (by first | assumption | decide | omega)) (Nat.le_of_ble_eq_true rfl) (tX0_toldPart ht hj hb) ?_
    exact e_i dX5_figureOfHalf_115 rfl (by first | rfl | exact bi_nar _) (by first | rfl | simp [bi, *]) rfl
  | 7, _ =>
    refine r_aload_n dX5_figureOfHalf_0 (i := 0) rfl rfl ?_
    refine r_iload_n dX5_figureOfHalf_1 (i := 1) rfl rfl ?_
    refine r_iload_n dX5_figureOfHalf_2 (i := 2) rfl rfl ?_
    refine sX5_figureOfHalf_3 (Nat.le_refl _) (Nat.le_refl _) rfl (lv0 (by first | assumption | decide | omega)) (Nat.le_of_ble_eq_true rfl) (tX5_hasHalf ht) ?_
    refine r_if_ne dX5_figureOfHalf_6 (tgt := 11) rfl (fun _ => ?_) (fun h6 => absurd h6 (bi_n0.mpr hx))
    refine r_aload_n dX5_figureOfHalf_11 (i := 0) rfl rfl ?_
    refine r_getR dX5_figureOfHalf_12 f_5_11 rfl rfl rfl (lv0 (by first | assumption | decide | omega)) ?_
    refine r_iload_n dX5_figureOfHalf_15 (i := 2) rfl rfl ?_
    refine n_aald dX5_figureOfHalf_16 rfl (lv1 (by first | assumption | decide | omega)) rfl (by first | assumption | omega | (unfold cI; omega)) rfl ?_
    refine r_iload_n dX5_figureOfHalf_17 (i := 1) rfl rfl ?_
    refine sX5_figureOfHalf_18 (Nat.le_refl _) (Nat.le_refl _) rfl (lv4 (by first | assumption | decide | omega) (by first | assumption | decide | omega)) (Nat.le_of_ble_eq_true rfl) (tX4_halfIn ht hj hb) ?_
    refine r_astore dX5_figureOfHalf_21 (Nat.le_of_ble_eq_true rfl) rfl rfl ?_
    refine r_iload_n dX5_figureOfHalf_23 (i := 3) rfl rfl ?_
    refine r_tabIn dX5_figureOfHalf_24 (off := 92) (tgt := 116) (by decide) (by decide) (by decide) rfl ?_
    refine r_aload dX5_figureOfHalf_116 rfl ?_
    refine sX5_figureOfHalf_118 (Nat.le_refl _) (Nat.le_refl _) rfl (lv5 (by first | assumption | decide | omega) (by first | assumption | decide | omega) (by first | assumption | decide | omega)) (Nat.le_of_ble_eq_true rfl) (tX0_toldTag ht hj hb) ?_
    exact e_i dX5_figureOfHalf_121 rfl (by first | rfl | exact bi_nar _) (by first | rfl | simp [bi, *]) rfl
def figS (hp : HPt) (t j : Nat) (k : Nat) : Int32 := match k with
  | 0 => hp (4, t, j, 0) 2
  | 1 => hp (4, t, j, 0) 3
  | 2 => if hp (4, t, j, 0) 5 ≤ 0 then -6 else hp (4, t, j, 0) 4
  | 3 => hp (4, t, j, 0) 5
  | 4 => hp (4, t, j, 0) 6
  | 5 => if hp (4, t, j, 0) 9 = 0 then 0 else 1
  | 6 => hp (4, t, j, 0) 8
  | _ => hp (4, t, j, 0) 7
theorem tX5_figureOfSecret_e {g : Gh} {t : Nat} {x w : Int32} {hp : HPt} (ht : t < 10) (hx : fHas hp t x = false) : Ci g mX5_figureOfSecret [vR (0, t, 0, 0), vI x, vI w] hp (-1) hp := by
  unfold Ci
  refine r_aload_n dX5_figureOfSecret_0 (i := 0) rfl rfl ?_
  refine r_iload_n dX5_figureOfSecret_1 (i := 1) rfl rfl ?_
  refine sX5_figureOfSecret_2 (Nat.le_refl _) (Nat.le_refl _) rfl (lv0 (by first | assumption | decide | omega)) (Nat.le_of_ble_eq_true rfl) (tX5_hasSecret ht) ?_
  refine r_if_ne dX5_figureOfSecret_5 (tgt := 10) rfl (fun h5 => absurd (bi_0.mpr hx) h5) (fun _ => ?_)
  refine r_iconst dX5_figureOfSecret_8 (v := (-1)) rfl ?_
  exact e_i dX5_figureOfSecret_9 rfl (by first | rfl | exact bi_nar _) (by first | rfl | simp [bi, *]) rfl
theorem tX5_figureOfSecret_e2 {g : Gh} {t j : Nat} {w : Int32} {hp : HPt} (ht : t < 10) (hj : j < 8) (hx : fHas hp t (nI j) = true) (hw : (!decide (w < 0) && decide (w < nI 8)) = false) : Ci g mX5_figureOfSecret [vR (0, t, 0, 0), vI (nI j), vI w] hp (-2) hp := by
  unfold Ci
  refine r_aload_n dX5_figureOfSecret_0 (i := 0) rfl rfl ?_
  refine r_iload_n dX5_figureOfSecret_1 (i := 1) rfl rfl ?_
  refine sX5_figureOfSecret_2 (Nat.le_refl _) (Nat.le_refl _) rfl (lv0 (by first | assumption | decide | omega)) (Nat.le_of_ble_eq_true rfl) (tX5_hasSecret ht) ?_
  refine r_if_ne dX5_figureOfSecret_5 (tgt := 10) rfl (fun _ => ?_) (fun h5 => absurd h5 (bi_n0.mpr hx))
  refine r_aload_n dX5_figureOfSecret_10 (i := 0) rfl rfl ?_
  refine r_getR dX5_figureOfSecret_11 f_5_11 rfl rfl rfl (lv0 (by first | assumption | decide | omega)) ?_
  refine r_iload_n dX5_figureOfSecret_14 (i := 1) rfl rfl ?_
  refine n_aald dX5_figureOfSecret_15 rfl (lv1 (by first | assumption | decide | omega)) rfl (by first | assumption | omega | (unfold cI; omega)) rfl ?_
  refine r_astore_n dX5_figureOfSecret_16 (i := 3) rfl (Nat.le_of_ble_eq_true rfl) rfl rfl ?_
  refine r_iload_n dX5_figureOfSecret_17 (i := 2) rfl rfl ?_
  refine r_tabOut dX5_figureOfSecret_18 (tgt := 124) (out_wd hw (by decide) rfl) rfl ?_
  refine r_bipush dX5_figureOfSecret_124 (v := (-2)) rfl ?_
  exact e_i dX5_figureOfSecret_126 rfl (by first | rfl | exact bi_nar _) (by first | rfl | simp [bi, *]) rfl
theorem tX5_figureOfSecret {g : Gh} {t j k : Nat} {hp : HPt} (ht : t < 10) (hj : j < 8) (hx : fHas hp t (nI j) = true) (hk : k < 8) : Ci g mX5_figureOfSecret [vR (0, t, 0, 0), vI (nI j), vI (nI k)] hp (figS hp t j k) hp := by
  unfold Ci
  match k, hk with
  | 0, _ =>
    refine r_aload_n dX5_figureOfSecret_0 (i := 0) rfl rfl ?_
    refine r_iload_n dX5_figureOfSecret_1 (i := 1) rfl rfl ?_
    refine sX5_figureOfSecret_2 (Nat.le_refl _) (Nat.le_refl _) rfl (lv0 (by first | assumption | decide | omega)) (Nat.le_of_ble_eq_true rfl) (tX5_hasSecret ht) ?_
    refine r_if_ne dX5_figureOfSecret_5 (tgt := 10) rfl (fun _ => ?_) (fun h5 => absurd h5 (bi_n0.mpr hx))
    refine r_aload_n dX5_figureOfSecret_10 (i := 0) rfl rfl ?_
    refine r_getR dX5_figureOfSecret_11 f_5_11 rfl rfl rfl (lv0 (by first | assumption | decide | omega)) ?_
    refine r_iload_n dX5_figureOfSecret_14 (i := 1) rfl rfl ?_
    refine n_aald dX5_figureOfSecret_15 rfl (lv1 (by first | assumption | decide | omega)) rfl (by first | assumption | omega | (unfold cI; omega)) rfl ?_
    refine r_astore_n dX5_figureOfSecret_16 (i := 3) rfl (Nat.le_of_ble_eq_true rfl) rfl rfl ?_
    refine r_iload_n dX5_figureOfSecret_17 (i := 2) rfl rfl ?_
    refine r_tabIn dX5_figureOfSecret_18 (off := 46) (tgt := 64) (by decide) (by decide) (by decide) rfl ?_
    refine r_aload_n dX5_figureOfSecret_64 (i := 3) rfl rfl ?_
    refine r_getI dX5_figureOfSecret_65 f_5_59 rfl rfl (lv4 (by first | assumption | decide | omega) (by first | assumption | decide | omega)) ?_
    exact e_i dX5_figureOfSecret_68 rfl (by first | rfl | exact bi_nar _) (by first | rfl | simp [figS, *]) rfl
  | 1, _ =>
    refine r_aload_n dX5_figureOfSecret_0 (i := 0) rfl rfl ?_
    refine r_iload_n dX5_figureOfSecret_1 (i := 1) rfl rfl ?_
    refine sX5_figureOfSecret_2 (Nat.le_refl _) (Nat.le_refl _) rfl (lv0 (by first | assumption | decide | omega)) (Nat.le_of_ble_eq_true rfl) (tX5_hasSecret ht) ?_
    refine r_if_ne dX5_figureOfSecret_5 (tgt := 10) rfl (fun _ => ?_) (fun h5 => absurd h5 (bi_n0.mpr hx))
    refine r_aload_n dX5_figureOfSecret_10 (i := 0) rfl rfl ?_
    refine r_getR dX5_figureOfSecret_11 f_5_11 rfl rfl rfl (lv0 (by first | assumption | decide | omega)) ?_
    refine r_iload_n dX5_figureOfSecret_14 (i := 1) rfl rfl ?_
    refine n_aald dX5_figureOfSecret_15 rfl (lv1 (by first | assumption | decide | omega)) rfl (by first | assumption | omega | (unfold cI; omega)) rfl ?_
    refine r_astore_n dX5_figureOfSecret_16 (i := 3) rfl (Nat.le_of_ble_eq_true rfl) rfl rfl ?_
    refine r_iload_n dX5_figureOfSecret_17 (i := 2) rfl rfl ?_
    refine r_tabIn dX5_figureOfSecret_18 (off := 51) (tgt := 69) (by decide) (by decide) (by decide) rfl ?_
    refine r_aload_n dX5_figureOfSecret_69 (i := 3) rfl rfl ?_
    refine r_getI dX5_figureOfSecret_70 f_5_124 rfl rfl (lv4 (by first | assumption | decide | omega) (by first | assumption | decide | omega)) ?_
    exact e_i dX5_figureOfSecret_73 rfl (by first | rfl | exact bi_nar _) (by first | rfl | simp [figS, *]) rfl
  | 2, _ =>
    refine r_aload_n dX5_figureOfSecret_0 (i := 0) rfl rfl ?_
    refine r_iload_n dX5_figureOfSecret_1 (i := 1) rfl rfl ?_
    refine sX5_figureOfSecret_2 (Nat.le_refl _) (Nat.le_refl _) rfl (lv0 (by first | assumption | decide | omega)) (Nat.le_of_ble_eq_true rfl) (tX5_hasSecret ht) ?_
    refine r_if_ne dX5_figureOfSecret_5 (tgt := 10) rfl (fun _ => ?_) (fun h5 => absurd h5 (bi_n0.mpr hx))
    refine r_aload_n dX5_figureOfSecret_10 (i := 0) rfl rfl ?_
    refine r_getR dX5_figureOfSecret_11 f_5_11 rfl rfl rfl (lv0 (by first | assumption | decide | omega)) ?_
    refine r_iload_n dX5_figureOfSecret_14 (i := 1) rfl rfl ?_
    refine n_aald dX5_figureOfSecret_15 rfl (lv1 (by first | assumption | decide | omega)) rfl (by first | assumption | omega | (unfold cI; omega)) rfl ?_
    refine r_astore_n dX5_figureOfSecret_16 (i := 3) rfl (Nat.le_of_ble_eq_true rfl) rfl rfl ?_
    refine r_iload_n dX5_figureOfSecret_17 (i := 2) rfl rfl ?_
    refine r_tabIn dX5_figureOfSecret_18 (off := 56) (tgt := 74) (by decide) (by decide) (by decide) rfl ?_
    refine r_aload_n dX5_figureOfSecret_74 (i := 3) rfl rfl ?_
    refine r_getI dX5_figureOfSecret_75 f_5_164 rfl rfl (lv4 (by first | assumption | decide | omega) (by first | assumption | decide | omega)) ?_
    refine r_if_le dX5_figureOfSecret_78 (tgt := 88) rfl (fun h78 => ?_) (fun h78 => ?_)
    · refine r_bipush dX5_figureOfSecret_88 (v := (-6)) rfl ?_
      exact e_i dX5_figureOfSecret_90 rfl (by first | rfl | exact bi_nar _) (by first | rfl | simp [figS, *]) rfl
    · refine r_aload_n dX5_figureOfSecret_81 (i := 3) rfl rfl ?_
      refine r_getI dX5_figureOfSecret_82 f_5_176 rfl rfl (lv4 (by first | assumption | decide | omega) (by first | assumption | decide | omega)) ?_
      refine r_goto dX5_figureOfSecret_85 (tgt := 90) rfl ?_
      exact e_i dX5_figureOfSecret_90 rfl (by first | rfl | exact bi_nar _) (by first | rfl | simp [figS, *]) rfl
  | 3, _ =>
    refine r_aload_n dX5_figureOfSecret_0 (i := 0) rfl rfl ?_
    refine r_iload_n dX5_figureOfSecret_1 (i := 1) rfl rfl ?_
    refine sX5_figureOfSecret_2 (Nat.le_refl _) (Nat.le_refl _) rfl (lv0 (by first | assumption | decide | omega)) (Nat.le_of_ble_eq_true rfl) (tX5_hasSecret ht) ?_
    refine r_if_ne dX5_figureOfSecret_5 (tgt := 10) rfl (fun _ => ?_) (fun h5 => absurd h5 (bi_n0.mpr hx))
    refine r_aload_n dX5_figureOfSecret_10 (i := 0) rfl rfl ?_
    refine r_getR dX5_figureOfSecret_11 f_5_11 rfl rfl rfl (lv0 (by first | assumption | decide | omega)) ?_
    refine r_iload_n dX5_figureOfSecret_14 (i := 1) rfl rfl ?_
    refine n_aald dX5_figureOfSecret_15 rfl (lv1 (by first | assumption | decide | omega)) rfl (by first | assumption | omega | (unfold cI; omega)) rfl ?_
    refine r_astore_n dX5_figureOfSecret_16 (i := 3) rfl (Nat.le_of_ble_eq_true rfl) rfl rfl ?_
    refine r_iload_n dX5_figureOfSecret_17 (i := 2) rfl rfl ?_
    refine r_tabIn dX5_figureOfSecret_18 (off := 73) (tgt := 91) (by decide) (by decide) (by decide) rfl ?_
    refine r_aload_n dX5_figureOfSecret_91 (i := 3) rfl rfl ?_
    refine r_getI dX5_figureOfSecret_92 f_5_164 rfl rfl (lv4 (by first | assumption | decide | omega) (by first | assumption | decide | omega)) ?_
    exact e_i dX5_figureOfSecret_95 rfl (by first | rfl | exact bi_nar _) (by first | rfl | simp [figS, *]) rfl
  | 4, _ =>
    refine r_aload_n dX5_figureOfSecret_0 (i := 0) rfl rfl ?_
    refine r_iload_n dX5_figureOfSecret_1 (i := 1) rfl rfl ?_
    refine sX5_figureOfSecret_2 (Nat.le_refl _) (Nat.le_refl _) rfl (lv0 (by first | assumption | decide | omega)) (Nat.le_of_ble_eq_true rfl) (tX5_hasSecret ht) ?_
    refine r_if_ne dX5_figureOfSecret_5 (tgt := 10) rfl (fun _ => ?_) (fun h5 => absurd h5 (bi_n0.mpr hx))
    refine r_aload_n dX5_figureOfSecret_10 (i := 0) rfl rfl ?_
    refine r_getR dX5_figureOfSecret_11 f_5_11 rfl rfl rfl (lv0 (by first | assumption | decide | omega)) ?_
    refine r_iload_n dX5_figureOfSecret_14 (i := 1) rfl rfl ?_
    refine n_aald dX5_figureOfSecret_15 rfl (lv1 (by first | assumption | decide | omega)) rfl (by first | assumption | omega | (unfold cI; omega)) rfl ?_
    refine r_astore_n dX5_figureOfSecret_16 (i := 3) rfl (Nat.le_of_ble_eq_true rfl) rfl rfl ?_
    refine r_iload_n dX5_figureOfSecret_17 (i := 2) rfl rfl ?_
    refine r_tabIn dX5_figureOfSecret_18 (off := 78) (tgt := 96) (by decide) (by decide) (by decide) rfl ?_
    refine r_aload_n dX5_figureOfSecret_96 (i := 3) rfl rfl ?_
    refine r_getI dX5_figureOfSecret_97 f_5_150 rfl rfl (lv4 (by first | assumption | decide | omega) (by first | assumption | decide | omega)) ?_
    exact e_i dX5_figureOfSecret_100 rfl (by first | rfl | exact bi_nar _) (by first | rfl | simp [figS, *]) rfl
  | 5, _ =>
    refine r_aload_n dX5_figureOfSecret_0 (i := 0) rfl rfl ?_
    refine r_iload_n dX5_figureOfSecret_1 (i := 1) rfl rfl ?_
    refine sX5_figureOfSecret_2 (Nat.le_refl _) (Nat.le_refl _) rfl (lv0 (by first | assumption | decide | omega)) (Nat.le_of_ble_eq_true rfl) (tX5_hasSecret ht) ?_
    refine r_if_ne dX5_figureOfSecret_5 (tgt := 10) rfl (fun _ => ?_) (fun h5 => absurd h5 (bi_n0.mpr hx))
    refine r_aload_n dX5_figureOfSecret_10 (i := 0) rfl rfl ?_
    refine r_getR dX5_figureOfSecret_11 f_5_11 rfl rfl rfl (lv0 (by first | assumption | decide | omega)) ?_
    refine r_iload_n dX5_figureOfSecret_14 (i := 1) rfl rfl ?_
    refine n_aald dX5_figureOfSecret_15 rfl (lv1 (by first | assumption | decide | omega)) rfl (by first | assumption | omega | (unfold cI; omega)) rfl ?_
    refine r_astore_n dX5_figureOfSecret_16 (i := 3) rfl (Nat.le_of_ble_eq_true rfl) rfl rfl ?_
    refine r_iload_n dX5_figureOfSecret_17 (i := 2) rfl rfl ?_
    refine r_tabIn dX5_figureOfSecret_18 (off := 83) (tgt := 101) (by decide) (by decide) (by decide) rfl ?_
    refine r_aload_n dX5_figureOfSecret_101 (i := 3) rfl rfl ?_
    refine r_getI dX5_figureOfSecret_102 f_5_179 rfl rfl (lv4 (by first | assumption | decide | omega) (by first | assumption | decide | omega)) ?_
    refine r_if_eq dX5_figureOfSecret_105 (tgt := 112) rfl (fun h105 => ?_) (fun h105 => ?_)
    · refine r_iconst dX5_figureOfSecret_112 (v := 0) rfl ?_
      exact e_i dX5_figureOfSecret_113 rfl (by first | rfl | exact bi_nar _) (by first | rfl | simp [figS, *]) rfl
    · refine r_iconst dX5_figureOfSecret_108 (v := 1) rfl ?_
      refine r_goto dX5_figureOfSecret_109 (tgt := 113) rfl ?_
      exact e_i dX5_figureOfSecret_113 rfl (by first | rfl | exact bi_nar _) (by first | rfl | simp [figS, *]) rfl
  | 6, _ =>
    refine r_aload_n dX5_figureOfSecret_0 (i := 0) rfl rfl ?_
    refine r_iload_n dX5_figureOfSecret_1 (i := 1) rfl rfl ?_
    refine sX5_figureOfSecret_2 (Nat.le_refl _) (Nat.le_refl _) rfl (lv0 (by first | assumption | decide | omega)) (Nat.le_of_ble_eq_true rfl) (tX5_hasSecret ht) ?_
    refine r_if_ne dX5_figureOfSecret_5 (tgt := 10) rfl (fun _ => ?_) (fun h5 => absurd h5 (bi_n0.mpr hx))
    refine r_aload_n dX5_figureOfSecret_10 (i := 0) rfl rfl ?_
    refine r_getR dX5_figureOfSecret_11 f_5_11 rfl rfl rfl (lv0 (by first | assumption | decide | omega)) ?_
    refine r_iload_n dX5_figureOfSecret_14 (i := 1) rfl rfl ?_
    refine n_aald dX5_figureOfSecret_15 rfl (lv1 (by first | assumption | decide | omega)) rfl (by first | assumption | omega | (unfold cI; omega)) rfl ?_
    refine r_astore_n dX5_figureOfSecret_16 (i := 3) rfl (Nat.le_of_ble_eq_true rfl) rfl rfl ?_
    refine r_iload_n dX5_figureOfSecret_17 (i := 2) rfl rfl ?_
    refine r_tabIn dX5_figureOfSecret_18 (off := 96) (tgt := 114) (by decide) (by decide) (by decide) rfl ?_
    refine r_aload_n dX5_figureOfSecret_114 (i := 3) rfl rfl ?_
    refine r_getI dX5_figureOfSecret_115 f_5_183 rfl rfl (lv4 (by first | assumption | decide | omega) (by first | assumption | decide | omega)) ?_
    exact e_i dX5_figureOfSecret_118 rfl (by first | rfl | exact bi_nar _) (by first | rfl | simp [figS, *]) rfl
  | 7, _ =>
    refine r_aload_n dX5_figureOfSecret_0 (i := 0) rfl rfl ?_
    refine r_iload_n dX5_figureOfSecret_1 (i := 1) rfl rfl ?_
    refine sX5_figureOfSecret_2 (Nat.le_refl _) (Nat.le_refl _) rfl (lv0 (by first | assumption | decide | omega)) (Nat.le_of_ble_eq_true rfl) (tX5_hasSecret ht) ?_
    refine r_if_ne dX5_figureOfSecret_5 (tgt := 10) rfl (fun _ => ?_) (fun h5 => absurd h5 (bi_n0.mpr hx))
    refine r_aload_n dX5_figureOfSecret_10 (i := 0) rfl rfl ?_
    refine r_getR dX5_figureOfSecret_11 f_5_11 rfl rfl rfl (lv0 (by first | assumption | decide | omega)) ?_
    refine r_iload_n dX5_figureOfSecret_14 (i := 1) rfl rfl ?_
    refine n_aald dX5_figureOfSecret_15 rfl (lv1 (by first | assumption | decide | omega)) rfl (by first | assumption | omega | (unfold cI; omega)) rfl ?_
    refine r_astore_n dX5_figureOfSecret_16 (i := 3) rfl (Nat.le_of_ble_eq_true rfl) rfl rfl ?_
    refine r_iload_n dX5_figureOfSecret_17 (i := 2) rfl rfl ?_
    refine r_tabIn dX5_figureOfSecret_18 (off := 101) (tgt := 119) (by decide) (by decide) (by decide) rfl ?_
    refine r_aload_n dX5_figureOfSecret_119 (i := 3) rfl rfl ?_
    refine r_getI dX5_figureOfSecret_120 f_5_186 rfl rfl (lv4 (by first | assumption | decide | omega) (by first | assumption | decide | omega)) ?_
    exact e_i dX5_figureOfSecret_123 rfl (by first | rfl | exact bi_nar _) (by first | rfl | simp [figS, *]) rfl
def figO (hp : HPt) (t j r : Nat) (k : Nat) : Int32 := match k with
  | 0 => hp (4, t, j, 0) 2 - nI (r + 1)
  | 1 => hp (6, t, j, 0) (r + 1)
  | 2 => hp (6, t, j, 1) (r + 1)
  | _ => fTk (hp (7, t, j, 0) (r + 1)) (hp (7, t, j, 1) (r + 1))
theorem tX5_figureOfOldVersion_e {g : Gh} {t : Nat} {x r w : Int32} {hp : HPt} (ht : t < 10) (hx : fHas hp t x = false) : Ci g mX5_figureOfOldVersion [vR (0, t, 0, 0), vI x, vI r, vI w] hp (-1) hp := by
  unfold Ci
  refine r_aload_n dX5_figureOfOldVersion_0 (i := 0) rfl rfl ?_
  refine r_iload_n dX5_figureOfOldVersion_1 (i := 1) rfl rfl ?_
  refine sX5_figureOfOldVersion_2 (Nat.le_refl _) (Nat.le_refl _) rfl (lv0 (by first | assumption | decide | omega)) (Nat.le_of_ble_eq_true rfl) (tX5_hasSecret ht) ?_
  refine r_if_ne dX5_figureOfOldVersion_5 (tgt := 10) rfl (fun h5 => absurd (bi_0.mpr hx) h5) (fun _ => ?_)
  refine r_iconst dX5_figureOfOldVersion_8 (v := (-1)) rfl ?_
  exact e_i dX5_figureOfOldVersion_9 rfl (by first | rfl | exact bi_nar _) (by first | rfl | simp [bi, *]) rfl
theorem tX5_figureOfOldVersion_e2 {g : Gh} {t j : Nat} {r w : Int32} {hp : HPt} (ht : t < 10) (hj : j < 8) (hx : fHas hp t (nI j) = true) (hr : (!decide (r < 0) && decide (r < hp (4, t, j, 0) 3)) = false) : Ci g mX5_figureOfOldVersion [vR (0, t, 0, 0), vI (nI j), vI r, vI w] hp (-1) hp := by
  unfold Ci
  refine r_aload_n dX5_figureOfOldVersion_0 (i := 0) rfl rfl ?_
  refine r_iload_n dX5_figureOfOldVersion_1 (i := 1) rfl rfl ?_
  refine sX5_figureOfOldVersion_2 (Nat.le_refl _) (Nat.le_refl _) rfl (lv0 (by first | assumption | decide | omega)) (Nat.le_of_ble_eq_true rfl) (tX5_hasSecret ht) ?_
  refine r_if_ne dX5_figureOfOldVersion_5 (tgt := 10) rfl (fun _ => ?_) (fun h5 => absurd h5 (bi_n0.mpr hx))
  refine r_aload_n dX5_figureOfOldVersion_10 (i := 0) rfl rfl ?_
  refine r_getR dX5_figureOfOldVersion_11 f_5_11 rfl rfl rfl (lv0 (by first | assumption | decide | omega)) ?_
  refine r_iload_n dX5_figureOfOldVersion_14 (i := 1) rfl rfl ?_
  refine n_aald dX5_figureOfOldVersion_15 rfl (lv1 (by first | assumption | decide | omega)) rfl (by first | assumption | omega | (unfold cI; omega)) rfl ?_
  refine r_astore dX5_figureOfOldVersion_16 (Nat.le_of_ble_eq_true rfl) rfl rfl ?_
  refine r_iload_n dX5_figureOfOldVersion_18 (i := 2) rfl rfl ?_
  refine r_if_lt dX5_figureOfOldVersion_19 (tgt := 31) rfl (fun h19 => ?_) (fun h19 => ?_)
  · refine r_iconst dX5_figureOfOldVersion_31 (v := (-1)) rfl ?_
    exact e_i dX5_figureOfOldVersion_32 rfl (by first | rfl | exact bi_nar _) (by first | rfl | simp [bi, *]) rfl
  · refine r_iload_n dX5_figureOfOldVersion_22 (i := 2) rfl rfl ?_
    refine r_aload dX5_figureOfOldVersion_23 rfl ?_
    refine r_getI dX5_figureOfOldVersion_25 f_5_124 rfl rfl (lv4 (by first | assumption | decide | omega) (by first | assumption | decide | omega)) ?_
    refine r_icmp_lt dX5_figureOfOldVersion_28 (tgt := 33) rfl (fun h28 => ?_) (fun h28 => ?_)
    · simp_all
    · refine r_iconst dX5_figureOfOldVersion_31 (v := (-1)) rfl ?_
      exact e_i dX5_figureOfOldVersion_32 rfl (by first | rfl | exact bi_nar _) (by first | rfl | simp [bi, *]) rfl
theorem tX5_figureOfOldVersion_e3 {g : Gh} {t j r m : Nat} {w : Int32} {hp : HPt} (ht : t < 10) (hj : j < 8) (hx : fHas hp t (nI j) = true) (hm : m < 5) (hM : hp (4, t, j, 0) 3 = nI m) (hr : r < m) (hw : (!decide (w < 0) && decide (w < nI 4)) = false) : Ci g mX5_figureOfOldVersion [vR (0, t, 0, 0), vI (nI j), vI (nI r), vI w] hp (-2) hp := by
  unfold Ci
  refine r_aload_n dX5_figureOfOldVersion_0 (i := 0) rfl rfl ?_
  refine r_iload_n dX5_figureOfOldVersion_1 (i := 1) rfl rfl ?_
  refine sX5_figureOfOldVersion_2 (Nat.le_refl _) (Nat.le_refl _) rfl (lv0 (by first | assumption | decide | omega)) (Nat.le_of_ble_eq_true rfl) (tX5_hasSecret ht) ?_
  refine r_if_ne dX5_figureOfOldVersion_5 (tgt := 10) rfl (fun _ => ?_) (fun h5 => absurd h5 (bi_n0.mpr hx))
  refine r_aload_n dX5_figureOfOldVersion_10 (i := 0) rfl rfl ?_
  refine r_getR dX5_figureOfOldVersion_11 f_5_11 rfl rfl rfl (lv0 (by first | assumption | decide | omega)) ?_
  refine r_iload_n dX5_figureOfOldVersion_14 (i := 1) rfl rfl ?_
  refine n_aald dX5_figureOfOldVersion_15 rfl (lv1 (by first | assumption | decide | omega)) rfl (by first | assumption | omega | (unfold cI; omega)) rfl ?_
  refine r_astore dX5_figureOfOldVersion_16 (Nat.le_of_ble_eq_true rfl) rfl rfl ?_
  refine r_iload_n dX5_figureOfOldVersion_18 (i := 2) rfl rfl ?_
  refine r_if_lt dX5_figureOfOldVersion_19 (tgt := 31) rfl (fun h19 => absurd h19 (nI_pos (by omega))) (fun _ => ?_)
  refine r_iload_n dX5_figureOfOldVersion_22 (i := 2) rfl rfl ?_
  refine r_aload dX5_figureOfOldVersion_23 rfl ?_
  refine r_getI dX5_figureOfOldVersion_25 f_5_124 rfl rfl (lv4 (by first | assumption | decide | omega) (by first | assumption | decide | omega)) ?_
  refine r_icmp_lt dX5_figureOfOldVersion_28 (tgt := 33) rfl (fun _ => ?_) (fun h28 => absurd ((by rw [hM]; exact nI_lt hr (by omega))) h28)
  refine r_iload_n dX5_figureOfOldVersion_33 (i := 2) rfl rfl ?_
  refine r_iconst dX5_figureOfOldVersion_34 (v := 1) rfl ?_
  refine r_iadd dX5_figureOfOldVersion_35 ?_
  refine r_istore dX5_figureOfOldVersion_36 (Nat.le_of_ble_eq_true rfl) rfl rfl ?_
  refine r_iload_n dX5_figureOfOldVersion_38 (i := 3) rfl rfl ?_
  refine r_tabOut dX5_figureOfOldVersion_39 (tgt := 109) (out_wd hw (by decide) rfl) rfl ?_
  refine r_bipush dX5_figureOfOldVersion_109 (v := (-2)) rfl ?_
  exact e_i dX5_figureOfOldVersion_111 rfl (by first | rfl | exact bi_nar _) (by first | rfl | simp [bi, *]) rfl
theorem tX5_figureOfOldVersion {g : Gh} {t j r m k : Nat} {hp : HPt} (ht : t < 10) (hj : j < 8) (hx : fHas hp t (nI j) = true) (hm : m < 5) (hM : hp (4, t, j, 0) 3 = nI m) (hr : r < m) (hk : k < 4) : Ci g mX5_figureOfOldVersion [vR (0, t, 0, 0), vI (nI j), vI (nI r), vI (nI k)] hp (figO hp t j r k) hp := by
  have hr5 : r + 1 < 5 := by omega
  unfold Ci
  match k, hk with
  | 0, _ =>
    refine r_aload_n dX5_figureOfOldVersion_0 (i := 0) rfl rfl ?_
    refine r_iload_n dX5_figureOfOldVersion_1 (i := 1) rfl rfl ?_
    refine sX5_figureOfOldVersion_2 (Nat.le_refl _) (Nat.le_refl _) rfl (lv0 (by first | assumption | decide | omega)) (Nat.le_of_ble_eq_true rfl) (tX5_hasSecret ht) ?_
    refine r_if_ne dX5_figureOfOldVersion_5 (tgt := 10) rfl (fun _ => ?_) (fun h5 => absurd h5 (bi_n0.mpr hx))
    refine r_aload_n dX5_figureOfOldVersion_10 (i := 0) rfl rfl ?_
    refine r_getR dX5_figureOfOldVersion_11 f_5_11 rfl rfl rfl (lv0 (by first | assumption | decide | omega)) ?_
    refine r_iload_n dX5_figureOfOldVersion_14 (i := 1) rfl rfl ?_
    refine n_aald dX5_figureOfOldVersion_15 rfl (lv1 (by first | assumption | decide | omega)) rfl (by first | assumption | omega | (unfold cI; omega)) rfl ?_
    refine r_astore dX5_figureOfOldVersion_16 (Nat.le_of_ble_eq_true rfl) rfl rfl ?_
    refine r_iload_n dX5_figureOfOldVersion_18 (i := 2) rfl rfl ?_
    refine r_if_lt dX5_figureOfOldVersion_19 (tgt := 31) rfl (fun h19 => absurd h19 (nI_pos (by omega))) (fun _ => ?_)
    refine r_iload_n dX5_figureOfOldVersion_22 (i := 2) rfl rfl ?_
    refine r_aload dX5_figureOfOldVersion_23 rfl ?_
    refine r_getI dX5_figureOfOldVersion_25 f_5_124 rfl rfl (lv4 (by first | assumption | decide | omega) (by first | assumption | decide | omega)) ?_
    refine r_icmp_lt dX5_figureOfOldVersion_28 (tgt := 33) rfl (fun _ => ?_) (fun h28 => absurd ((by rw [hM]; exact nI_lt hr (by omega))) h28)
    refine r_iload_n dX5_figureOfOldVersion_33 (i := 2) rfl rfl ?_
    refine r_iconst dX5_figureOfOldVersion_34 (v := 1) rfl ?_
    refine r_iadd dX5_figureOfOldVersion_35 ?_
    rw [nI_1]
    refine r_istore dX5_figureOfOldVersion_36 (Nat.le_of_ble_eq_true rfl) rfl rfl ?_
    refine r_iload_n dX5_figureOfOldVersion_38 (i := 3) rfl rfl ?_
    refine r_tabIn dX5_figureOfOldVersion_39 (off := 29) (tgt := 68) (by decide) (by decide) (by decide) rfl ?_
    refine r_aload dX5_figureOfOldVersion_68 rfl ?_
    refine r_getI dX5_figureOfOldVersion_70 f_5_59 rfl rfl (lv4 (by first | assumption | decide | omega) (by first | assumption | decide | omega)) ?_
    refine r_iload dX5_figureOfOldVersion_73 rfl ?_
    refine r_isub dX5_figureOfOldVersion_75 ?_
    exact e_i dX5_figureOfOldVersion_76 rfl (by first | rfl | exact bi_nar _) (by first | rfl | simp [bi, *]) rfl
  | 1, _ =>
    refine r_aload_n dX5_figureOfOldVersion_0 (i := 0) rfl rfl ?_
    refine r_iload_n dX5_figureOfOldVersion_1 (i := 1) rfl rfl ?_
    refine sX5_figureOfOldVersion_2 (Nat.le_refl _) (Nat.le_refl _) rfl (lv0 (by first | assumption | decide | omega)) (Nat.le_of_ble_eq_true rfl) (tX5_hasSecret ht) ?_
    refine r_if_ne dX5_figureOfOldVersion_5 (tgt := 10) rfl (fun _ => ?_) (fun h5 => absurd h5 (bi_n0.mpr hx))
    refine r_aload_n dX5_figureOfOldVersion_10 (i := 0) rfl rfl ?_
    refine r_getR dX5_figureOfOldVersion_11 f_5_11 rfl rfl rfl (lv0 (by first | assumption | decide | omega)) ?_
    refine r_iload_n dX5_figureOfOldVersion_14 (i := 1) rfl rfl ?_
    refine n_aald dX5_figureOfOldVersion_15 rfl (lv1 (by first | assumption | decide | omega)) rfl (by first | assumption | omega | (unfold cI; omega)) rfl ?_
    refine r_astore dX5_figureOfOldVersion_16 (Nat.le_of_ble_eq_true rfl) rfl rfl ?_
    refine r_iload_n dX5_figureOfOldVersion_18 (i := 2) rfl rfl ?_
    refine r_if_lt dX5_figureOfOldVersion_19 (tgt := 31) rfl (fun h19 => absurd h19 (nI_pos (by omega))) (fun _ => ?_)
    refine r_iload_n dX5_figureOfOldVersion_22 (i := 2) rfl rfl ?_
    refine r_aload dX5_figureOfOldVersion_23 rfl ?_
    refine r_getI dX5_figureOfOldVersion_25 f_5_124 rfl rfl (lv4 (by first | assumption | decide | omega) (by first | assumption | decide | omega)) ?_
    refine r_icmp_lt dX5_figureOfOldVersion_28 (tgt := 33) rfl (fun _ => ?_) (fun h28 => absurd ((by rw [hM]; exact nI_lt hr (by omega))) h28)
    refine r_iload_n dX5_figureOfOldVersion_33 (i := 2) rfl rfl ?_
    refine r_iconst dX5_figureOfOldVersion_34 (v := 1) rfl ?_
    refine r_iadd dX5_figureOfOldVersion_35 ?_
    rw [nI_1]
    refine r_istore dX5_figureOfOldVersion_36 (Nat.le_of_ble_eq_true rfl) rfl rfl ?_
    refine r_iload_n dX5_figureOfOldVersion_38 (i := 3) rfl rfl ?_
    refine r_tabIn dX5_figureOfOldVersion_39 (off := 38) (tgt := 77) (by decide) (by decide) (by decide) rfl ?_
    refine r_aload dX5_figureOfOldVersion_77 rfl ?_
    refine r_getR dX5_figureOfOldVersion_79 f_5_80 rfl rfl rfl (lv4 (by first | assumption | decide | omega) (by first | assumption | decide | omega)) ?_
    refine r_getR dX5_figureOfOldVersion_82 f_5_87 rfl rfl rfl (lv5 (by first | assumption | decide | omega) (by first | assumption | decide | omega) (by first | assumption | decide | omega)) ?_
    refine r_iload dX5_figureOfOldVersion_85 rfl ?_
    refine n_iald dX5_figureOfOldVersion_87 rfl (lv6 (by first | assumption | decide | omega) (by first | assumption | decide | omega) (by first | assumption | decide | omega)) rfl (by first | assumption | omega | (unfold cI; omega)) ?_
    exact e_i dX5_figureOfOldVersion_88 rfl (by first | rfl | exact bi_nar _) (by first | rfl | simp [bi, *]) rfl
  | 2, _ =>
    refine r_aload_n dX5_figureOfOldVersion_0 (i := 0) rfl rfl ?_
    refine r_iload_n dX5_figureOfOldVersion_1 (i := 1) rfl rfl ?_
    refine sX5_figureOfOldVersion_2 (Nat.le_refl _) (Nat.le_refl _) rfl (lv0 (by first | assumption | decide | omega)) (Nat.le_of_ble_eq_true rfl) (tX5_hasSecret ht) ?_
    refine r_if_ne dX5_figureOfOldVersion_5 (tgt := 10) rfl (fun _ => ?_) (fun h5 => absurd h5 (bi_n0.mpr hx))
    refine r_aload_n dX5_figureOfOldVersion_10 (i := 0) rfl rfl ?_
    refine r_getR dX5_figureOfOldVersion_11 f_5_11 rfl rfl rfl (lv0 (by first | assumption | decide | omega)) ?_
    refine r_iload_n dX5_figureOfOldVersion_14 (i := 1) rfl rfl ?_
    refine n_aald dX5_figureOfOldVersion_15 rfl (lv1 (by first | assumption | decide | omega)) rfl (by first | assumption | omega | (unfold cI; omega)) rfl ?_
    refine r_astore dX5_figureOfOldVersion_16 (Nat.le_of_ble_eq_true rfl) rfl rfl ?_
    refine r_iload_n dX5_figureOfOldVersion_18 (i := 2) rfl rfl ?_
    refine r_if_lt dX5_figureOfOldVersion_19 (tgt := 31) rfl (fun h19 => absurd h19 (nI_pos (by omega))) (fun _ => ?_)
    refine r_iload_n dX5_figureOfOldVersion_22 (i := 2) rfl rfl ?_
    refine r_aload dX5_figureOfOldVersion_23 rfl ?_
    refine r_getI dX5_figureOfOldVersion_25 f_5_124 rfl rfl (lv4 (by first | assumption | decide | omega) (by first | assumption | decide | omega)) ?_
    refine r_icmp_lt dX5_figureOfOldVersion_28 (tgt := 33) rfl (fun _ => ?_) (fun h28 => absurd ((by rw [hM]; exact nI_lt hr (by omega))) h28)
    refine r_iload_n dX5_figureOfOldVersion_33 (i := 2) rfl rfl ?_
    refine r_iconst dX5_figureOfOldVersion_34 (v := 1) rfl ?_
    refine r_iadd dX5_figureOfOldVersion_35 ?_
    rw [nI_1]
    refine r_istore dX5_figureOfOldVersion_36 (Nat.le_of_ble_eq_true rfl) rfl rfl ?_
    refine r_iload_n dX5_figureOfOldVersion_38 (i := 3) rfl rfl ?_
    refine r_tabIn dX5_figureOfOldVersion_39 (off := 50) (tgt := 89) (by decide) (by decide) (by decide) rfl ?_
    refine r_aload dX5_figureOfOldVersion_89 rfl ?_
    refine r_getR dX5_figureOfOldVersion_91 f_5_84 rfl rfl rfl (lv4 (by first | assumption | decide | omega) (by first | assumption | decide | omega)) ?_
    refine r_getR dX5_figureOfOldVersion_94 f_5_87 rfl rfl rfl (lv5 (by first | assumption | decide | omega) (by first | assumption | decide | omega) (by first | assumption | decide | omega)) ?_
    refine r_iload dX5_figureOfOldVersion_97 rfl ?_
    refine n_iald dX5_figureOfOldVersion_99 rfl (lv6 (by first | assumption | decide | omega) (by first | assumption | decide | omega) (by first | assumption | decide | omega)) rfl (by first | assumption | omega | (unfold cI; omega)) ?_
    exact e_i dX5_figureOfOldVersion_100 rfl (by first | rfl | exact bi_nar _) (by first | rfl | simp [bi, *]) rfl
  | 3, _ =>
    refine r_aload_n dX5_figureOfOldVersion_0 (i := 0) rfl rfl ?_
    refine r_iload_n dX5_figureOfOldVersion_1 (i := 1) rfl rfl ?_
    refine sX5_figureOfOldVersion_2 (Nat.le_refl _) (Nat.le_refl _) rfl (lv0 (by first | assumption | decide | omega)) (Nat.le_of_ble_eq_true rfl) (tX5_hasSecret ht) ?_
    refine r_if_ne dX5_figureOfOldVersion_5 (tgt := 10) rfl (fun _ => ?_) (fun h5 => absurd h5 (bi_n0.mpr hx))
    refine r_aload_n dX5_figureOfOldVersion_10 (i := 0) rfl rfl ?_
    refine r_getR dX5_figureOfOldVersion_11 f_5_11 rfl rfl rfl (lv0 (by first | assumption | decide | omega)) ?_
    refine r_iload_n dX5_figureOfOldVersion_14 (i := 1) rfl rfl ?_
    refine n_aald dX5_figureOfOldVersion_15 rfl (lv1 (by first | assumption | decide | omega)) rfl (by first | assumption | omega | (unfold cI; omega)) rfl ?_
    refine r_astore dX5_figureOfOldVersion_16 (Nat.le_of_ble_eq_true rfl) rfl rfl ?_
    refine r_iload_n dX5_figureOfOldVersion_18 (i := 2) rfl rfl ?_
    refine r_if_lt dX5_figureOfOldVersion_19 (tgt := 31) rfl (fun h19 => absurd h19 (nI_pos (by omega))) (fun _ => ?_)
    refine r_iload_n dX5_figureOfOldVersion_22 (i := 2) rfl rfl ?_
    refine r_aload dX5_figureOfOldVersion_23 rfl ?_
    refine r_getI dX5_figureOfOldVersion_25 f_5_124 rfl rfl (lv4 (by first | assumption | decide | omega) (by first | assumption | decide | omega)) ?_
    refine r_icmp_lt dX5_figureOfOldVersion_28 (tgt := 33) rfl (fun _ => ?_) (fun h28 => absurd ((by rw [hM]; exact nI_lt hr (by omega))) h28)
    refine r_iload_n dX5_figureOfOldVersion_33 (i := 2) rfl rfl ?_
    refine r_iconst dX5_figureOfOldVersion_34 (v := 1) rfl ?_
    refine r_iadd dX5_figureOfOldVersion_35 ?_
    rw [nI_1]
    refine r_istore dX5_figureOfOldVersion_36 (Nat.le_of_ble_eq_true rfl) rfl rfl ?_
    refine r_iload_n dX5_figureOfOldVersion_38 (i := 3) rfl rfl ?_
    refine r_tabIn dX5_figureOfOldVersion_39 (off := 62) (tgt := 101) (by decide) (by decide) (by decide) rfl ?_
    refine r_aload dX5_figureOfOldVersion_101 rfl ?_
    refine r_iload dX5_figureOfOldVersion_103 rfl ?_
    refine sX5_figureOfOldVersion_105 (Nat.le_refl _) (Nat.le_refl _) rfl (lv4 (by first | assumption | decide | omega) (by first | assumption | decide | omega)) (Nat.le_of_ble_eq_true rfl) (tX4_takenSet ht hj hr5) ?_
    exact e_i dX5_figureOfOldVersion_108 rfl (by first | rfl | exact bi_nar _) (by first | rfl | simp [bi, *]) rfl
/-- sets of secrets: those open, those known -/
def stO (hp : HPt) (t f : Nat) : Nat → Int32
  | 0 => 0
  | i + 1 => stO hp t f i ||| (if hp (4, t, i, 0) f = 0 then 0 else (1 : Int32) <<< (nI i &&& 31))
def stP (hp : HPt) (t f : Nat) : Nat → Int32
  | 0 => 0
  | i + 1 => stP hp t f i ||| (if hp (4, t, i, 0) f ≤ 0 then 0 else (1 : Int32) <<< (nI i &&& 31))
theorem tX5_setOfOpen {g : Gh} {t n : Nat} {hp : HPt} (ht : t < 10) (hn : n ≤ 8) (hk : hp (0, t, 0, 0) 3 = nI n) : Ci g mX5_setOfOpen [vR (0, t, 0, 0)] hp (stP hp t 5 n) hp := by
  have key : ∀ k r, r + k = n → V g mX5_setOfOpen 0 0 0 0 609 4 [some (vR (0, t, 0, 0)), some (vI (stP hp t 5 r)), some (vI (nI r))] [] RP hp (Pi (stP hp t 5 n) hp) := by
    intro k
    induction k with
    | zero =>
      intro r hr
      have hr : r = n := by omega
      subst hr
      refine r_iload_n dX5_setOfOpen_4 (i := 2) rfl rfl ?_
      refine r_aload_n dX5_setOfOpen_5 (i := 0) rfl rfl ?_
      refine r_getI dX5_setOfOpen_6 f_5_34 rfl rfl (lv0 (by first | assumption | decide | omega)) ?_
      refine r_icmp_ge dX5_setOfOpen_9 (tgt := 40) rfl (fun _ => ?_) (fun h9 => absurd ((by rw [hk]; exact Int32.le_refl _)) h9)
      refine r_iload_n dX5_setOfOpen_40 (i := 1) rfl rfl ?_
      exact e_i dX5_setOfOpen_41 rfl (by first | rfl | exact bi_nar _) (by first | rfl | simp [bi, *]) rfl
    | succ k ih =>
      intro r hr
      have hr8 : r < 8 := by omega
      have h := ih (r + 1) (by omega)
      refine r_iload_n dX5_setOfOpen_4 (i := 2) rfl rfl ?_
      refine r_aload_n dX5_setOfOpen_5 (i := 0) rfl rfl ?_
      refine r_getI dX5_setOfOpen_6 f_5_34 rfl rfl (lv0 (by first | assumption | decide | omega)) ?_
      refine r_icmp_ge dX5_setOfOpen_9 (tgt := 40) rfl (fun h9 => absurd h9 ((by rw [hk]; exact nI_ge (by omega) (by omega)))) (fun _ => ?_)
      refine r_iload_n dX5_setOfOpen_12 (i := 1) rfl rfl ?_
      refine r_aload_n dX5_setOfOpen_13 (i := 0) rfl rfl ?_
      refine r_getR dX5_setOfOpen_14 f_5_11 rfl rfl rfl (lv0 (by first | assumption | decide | omega)) ?_
      refine r_iload_n dX5_setOfOpen_17 (i := 2) rfl rfl ?_
      refine n_aald dX5_setOfOpen_18 rfl (lv1 (by first | assumption | decide | omega)) rfl (by first | assumption | omega | (unfold cI; omega)) rfl ?_
      refine r_getI dX5_setOfOpen_19 f_5_164 rfl rfl (lv4 (by first | assumption | decide | omega) (by first | assumption | decide | omega)) ?_
      refine r_if_le dX5_setOfOpen_22 (tgt := 31) rfl (fun h22 => ?_) (fun h22 => ?_)
      · refine r_iconst dX5_setOfOpen_31 (v := 0) rfl ?_
        refine r_ior dX5_setOfOpen_32 ?_
        refine r_istore_n dX5_setOfOpen_33 (i := 1) rfl (Nat.le_of_ble_eq_true rfl) rfl rfl ?_
        refine r_inc1 dX5_setOfOpen_34 rfl (Nat.le_of_ble_eq_true rfl) rfl ?_
        refine r_goto dX5_setOfOpen_37 (tgt := 4) rfl ?_
        refine V.eqL ?_ h
        simp [stP, h22, nI_1]
      · refine r_iconst dX5_setOfOpen_25 (v := 1) rfl ?_
        refine r_iload_n dX5_setOfOpen_26 (i := 2) rfl rfl ?_
        refine r_ishl dX5_setOfOpen_27 ?_
        refine r_goto dX5_setOfOpen_28 (tgt := 32) rfl ?_
        refine r_ior dX5_setOfOpen_32 ?_
        refine r_istore_n dX5_setOfOpen_33 (i := 1) rfl (Nat.le_of_ble_eq_true rfl) rfl rfl ?_
        refine r_inc1 dX5_setOfOpen_34 rfl (Nat.le_of_ble_eq_true rfl) rfl ?_
        refine r_goto dX5_setOfOpen_37 (tgt := 4) rfl ?_
        refine V.eqL ?_ h
        simp [stP, h22, nI_1]
  unfold Ci
  refine r_iconst dX5_setOfOpen_0 (v := 0) rfl ?_
  refine r_istore_n dX5_setOfOpen_1 (i := 1) rfl (Nat.le_of_ble_eq_true rfl) rfl rfl ?_
  refine r_iconst dX5_setOfOpen_2 (v := 0) rfl ?_
  refine r_istore_n dX5_setOfOpen_3 (i := 2) rfl (Nat.le_of_ble_eq_true rfl) rfl rfl ?_
  exact key n 0 (by omega)
theorem tX5_setOfKnown {g : Gh} {t n : Nat} {hp : HPt} (ht : t < 10) (hn : n ≤ 8) (hk : hp (0, t, 0, 0) 3 = nI n) : Ci g mX5_setOfKnown [vR (0, t, 0, 0)] hp (stO hp t 9 n) hp := by
  have key : ∀ k r, r + k = n → V g mX5_setOfKnown 0 0 0 0 609 4 [some (vR (0, t, 0, 0)), some (vI (stO hp t 9 r)), some (vI (nI r))] [] RP hp (Pi (stO hp t 9 n) hp) := by
    intro k
    induction k with
    | zero =>
      intro r hr
      have hr : r = n := by omega
      subst hr
      refine r_iload_n dX5_setOfKnown_4 (i := 2) rfl rfl ?_
      refine r_aload_n dX5_setOfKnown_5 (i := 0) rfl rfl ?_
      refine r_getI dX5_setOfKnown_6 f_5_34 rfl rfl (lv0 (by first | assumption | decide | omega)) ?_
      refine r_icmp_ge dX5_setOfKnown_9 (tgt := 40) rfl (fun _ => ?_) (fun h9 => absurd ((by rw [hk]; exact Int32.le_refl _)) h9)
      refine r_iload_n dX5_setOfKnown_40 (i := 1) rfl rfl ?_
      exact e_i dX5_setOfKnown_41 rfl (by first | rfl | exact bi_nar _) (by first | rfl | simp [bi, *]) rfl
    | succ k ih =>
      intro r hr
      have hr8 : r < 8 := by omega
      have h := ih (r + 1) (by omega)
      refine r_iload_n dX5_setOfKnown_4 (i := 2) rfl rfl ?_
      refine r_aload_n dX5_setOfKnown_5 (i := 0) rfl rfl ?_
      refine r_getI dX5_setOfKnown_6 f_5_34 rfl rfl (lv0 (by first | assumption | decide | omega)) ?_
      refine r_icmp_ge dX5_setOfKnown_9 (tgt := 40) rfl (fun h9 => absurd h9 ((by rw [hk]; exact nI_ge (by omega) (by omega)))) (fun _ => ?_)
      refine r_iload_n dX5_setOfKnown_12 (i := 1) rfl rfl ?_
      refine r_aload_n dX5_setOfKnown_13 (i := 0) rfl rfl ?_
      refine r_getR dX5_setOfKnown_14 f_5_11 rfl rfl rfl (lv0 (by first | assumption | decide | omega)) ?_
      refine r_iload_n dX5_setOfKnown_17 (i := 2) rfl rfl ?_
      refine n_aald dX5_setOfKnown_18 rfl (lv1 (by first | assumption | decide | omega)) rfl (by first | assumption | omega | (unfold cI; omega)) rfl ?_
      refine r_getI dX5_setOfKnown_19 f_5_179 rfl rfl (lv4 (by first | assumption | decide | omega) (by first | assumption | decide | omega)) ?_
      refine r_if_eq dX5_setOfKnown_22 (tgt := 31) rfl (fun h22 => ?_) (fun h22 => ?_)
      · refine r_iconst dX5_setOfKnown_31 (v := 0) rfl ?_
        refine r_ior dX5_setOfKnown_32 ?_
        refine r_istore_n dX5_setOfKnown_33 (i := 1) rfl (Nat.le_of_ble_eq_true rfl) rfl rfl ?_
        refine r_inc1 dX5_setOfKnown_34 rfl (Nat.le_of_ble_eq_true rfl) rfl ?_
        refine r_goto dX5_setOfKnown_37 (tgt := 4) rfl ?_
        refine V.eqL ?_ h
        simp [stO, h22, nI_1]
      · refine r_iconst dX5_setOfKnown_25 (v := 1) rfl ?_
        refine r_iload_n dX5_setOfKnown_26 (i := 2) rfl rfl ?_
        refine r_ishl dX5_setOfKnown_27 ?_
        refine r_goto dX5_setOfKnown_28 (tgt := 32) rfl ?_
        refine r_ior dX5_setOfKnown_32 ?_
        refine r_istore_n dX5_setOfKnown_33 (i := 1) rfl (Nat.le_of_ble_eq_true rfl) rfl rfl ?_
        refine r_inc1 dX5_setOfKnown_34 rfl (Nat.le_of_ble_eq_true rfl) rfl ?_
        refine r_goto dX5_setOfKnown_37 (tgt := 4) rfl ?_
        refine V.eqL ?_ h
        simp [stO, h22, nI_1]
  unfold Ci
  refine r_iconst dX5_setOfKnown_0 (v := 0) rfl ?_
  refine r_istore_n dX5_setOfKnown_1 (i := 1) rfl (Nat.le_of_ble_eq_true rfl) rfl rfl ?_
  refine r_iconst dX5_setOfKnown_2 (v := 0) rfl ?_
  refine r_istore_n dX5_setOfKnown_3 (i := 2) rfl (Nat.le_of_ble_eq_true rfl) rfl rfl ?_
  exact key n 0 (by omega)
def figG (hp : HPt) (t n : Nat) (k : Nat) : Int32 := match k with
  | 0 => hp (0, t, 0, 0) 5
  | 1 => hp (0, t, 0, 0) 3
  | 2 => stP hp t 5 n
  | 3 => stO hp t 9 n
  | 4 => if hp (3, t, 0, 0) 0 = 0 then 0 else 1
  | 5 => if hp (3, t, 0, 0) 1 = 0 then 0 else 1
  | 6 => hp (0, t, 0, 0) 6
  | 7 => hp (0, t, 0, 0) 7
  | 8 => hp (0, t, 0, 0) 8
  | 9 => hp (0, t, 0, 0) 9
  | 10 => hp (0, t, 0, 0) 4
  | 11 => hp (2, t, 0, 0) 0
  | 12 => hp (2, t, 0, 0) 1
  | _ => hp (2, t, 0, 0) 2
theorem tX5_figure_e {g : Gh} {t : Nat} {w : Int32} {hp : HPt} (ht : t < 10) (hw : (!decide (w < 0) && decide (w < nI 14)) = false) : Ci g mX5_figure [vR (0, t, 0, 0), vI w] hp (-2) hp := by
  unfold Ci
  refine r_iload_n dX5_figure_0 (i := 1) rfl rfl ?_
  refine r_tabOut dX5_figure_1 (tgt := 168) (out_wd hw (by decide) rfl) rfl ?_
  refine r_bipush dX5_figure_168 (v := (-2)) rfl ?_
  exact e_i dX5_figure_170 rfl (by first | rfl | exact bi_nar _) (by first | rfl | simp [bi, *]) rfl
theorem tX5_figure {g : Gh} {t n k : Nat} {hp : HPt} (ht : t < 10) (hn : n ≤ 8) (hN : hp (0, t, 0, 0) 3 = nI n) (hk : k < 14) : Ci g mX5_figure [vR (0, t, 0, 0), vI (nI k)] hp (figG hp t n k) hp := by
  unfold Ci
  match k, hk with
  | 0, _ =>
    refine r_iload_n dX5_figure_0 (i := 1) rfl rfl ?_
    refine r_tabIn dX5_figure_1 (off := 71) (tgt := 72) (by decide) (by decide) (by decide) rfl ?_
    refine r_aload_n dX5_figure_72 (i := 0) rfl rfl ?_
    refine r_getI dX5_figure_73 f_5_37 rfl rfl (lv0 (by first | assumption | decide | omega)) ?_
    exact e_i dX5_figure_76 rfl (by first | rfl | exact bi_nar _) (by first | rfl | simp [figG, *]) rfl
  | 1, _ =>
    refine r_iload_n dX5_figure_0 (i := 1) rfl rfl ?_
    refine r_tabIn dX5_figure_1 (off := 76) (tgt := 77) (by decide) (by decide) (by decide) rfl ?_
    refine r_aload_n dX5_figure_77 (i := 0) rfl rfl ?_
    refine r_getI dX5_figure_78 f_5_34 rfl rfl (lv0 (by first | assumption | decide | omega)) ?_
    exact e_i dX5_figure_81 rfl (by first | rfl | exact bi_nar _) (by first | rfl | simp [figG, *]) rfl
  | 2, _ =>
    refine r_iload_n dX5_figure_0 (i := 1) rfl rfl ?_
    refine r_tabIn dX5_figure_1 (off := 81) (tgt := 82) (by decide) (by decide) (by decide) rfl ?_
    refine r_aload_n dX5_figure_82 (i := 0) rfl rfl ?_
    refine sX5_figure_83 (Nat.le_refl _) (Nat.le_refl _) rfl (lv0 (by first | assumption | decide | omega)) (Nat.le_of_ble_eq_true rfl) (tX5_setOfOpen ht hn hN) ?_
    exact e_i dX5_figure_86 rfl (by first | rfl | exact bi_nar _) (by first | rfl | simp [figG, *]) rfl
  | 3, _ =>
    refine r_iload_n dX5_figure_0 (i := 1) rfl rfl ?_
    refine r_tabIn dX5_figure_1 (off := 86) (tgt := 87) (by decide) (by decide) (by decide) rfl ?_
    refine r_aload_n dX5_figure_87 (i := 0) rfl rfl ?_
    refine sX5_figure_88 (Nat.le_refl _) (Nat.le_refl _) rfl (lv0 (by first | assumption | decide | omega)) (Nat.le_of_ble_eq_true rfl) (tX5_setOfKnown ht hn hN) ?_
    exact e_i dX5_figure_91 rfl (by first | rfl | exact bi_nar _) (by first | rfl | simp [figG, *]) rfl
  | 4, _ =>
    refine r_iload_n dX5_figure_0 (i := 1) rfl rfl ?_
    refine r_tabIn dX5_figure_1 (off := 91) (tgt := 92) (by decide) (by decide) (by decide) rfl ?_
    refine r_aload_n dX5_figure_92 (i := 0) rfl rfl ?_
    refine r_getR dX5_figure_93 f_5_21 rfl rfl rfl (lv0 (by first | assumption | decide | omega)) ?_
    refine r_iconst dX5_figure_96 (v := 0) rfl ?_
    refine n_zald dX5_figure_97 rfl (lv3 (by first | assumption | decide | omega)) (k := 0) rfl (by decide) ?_
    refine r_if_eq dX5_figure_98 (tgt := 105) rfl (fun h98 => ?_) (fun h98 => ?_)
    · refine r_iconst dX5_figure_105 (v := 0) rfl ?_
      exact e_i dX5_figure_106 rfl (by first | rfl | exact bi_nar _) (by first | rfl | simp [figG, *]) rfl
    · refine r_iconst dX5_figure_101 (v := 1) rfl ?_
      refine r_goto dX5_figure_102 (tgt := 106) rfl ?_
      exact e_i dX5_figure_106 rfl (by first | rfl | exact bi_nar _) (by first | rfl | simp [figG, *]) rfl
  | 5, _ =>
    refine r_iload_n dX5_figure_0 (i := 1) rfl rfl ?_
    refine r_tabIn dX5_figure_1 (off := 106) (tgt := 107) (by decide) (by decide) (by decide) rfl ?_
    refine r_aload_n dX5_figure_107 (i := 0) rfl rfl ?_
    refine r_getR dX5_figure_108 f_5_21 rfl rfl rfl (lv0 (by first | assumption | decide | omega)) ?_
    refine r_iconst dX5_figure_111 (v := 1) rfl ?_
    refine n_zald dX5_figure_112 rfl (lv3 (by first | assumption | decide | omega)) (k := 1) rfl (by decide) ?_
    refine r_if_eq dX5_figure_113 (tgt := 120) rfl (fun h113 => ?_) (fun h113 => ?_)
    · refine r_iconst dX5_figure_120 (v := 0) rfl ?_
      exact e_i dX5_figure_121 rfl (by first | rfl | exact bi_nar _) (by first | rfl | simp [figG, *]) rfl
    · refine r_iconst dX5_figure_116 (v := 1) rfl ?_
      refine r_goto dX5_figure_117 (tgt := 121) rfl ?_
      exact e_i dX5_figure_121 rfl (by first | rfl | exact bi_nar _) (by first | rfl | simp [figG, *]) rfl
  | 6, _ =>
    refine r_iload_n dX5_figure_0 (i := 1) rfl rfl ?_
    refine r_tabIn dX5_figure_1 (off := 121) (tgt := 122) (by decide) (by decide) (by decide) rfl ?_
    refine r_aload_n dX5_figure_122 (i := 0) rfl rfl ?_
    refine r_getI dX5_figure_123 f_5_40 rfl rfl (lv0 (by first | assumption | decide | omega)) ?_
    exact e_i dX5_figure_126 rfl (by first | rfl | exact bi_nar _) (by first | rfl | simp [figG, *]) rfl
  | 7, _ =>
    refine r_iload_n dX5_figure_0 (i := 1) rfl rfl ?_
    refine r_tabIn dX5_figure_1 (off := 126) (tgt := 127) (by decide) (by decide) (by decide) rfl ?_
    refine r_aload_n dX5_figure_127 (i := 0) rfl rfl ?_
    refine r_getI dX5_figure_128 f_5_43 rfl rfl (lv0 (by first | assumption | decide | omega)) ?_
    exact e_i dX5_figure_131 rfl (by first | rfl | exact bi_nar _) (by first | rfl | simp [figG, *]) rfl
  | 8, _ =>
    refine r_iload_n dX5_figure_0 (i := 1) rfl rfl ?_
    refine r_tabIn dX5_figure_1 (off := 131) (tgt := 132) (by decide) (by decide) (by decide) rfl ?_
    refine r_aload_n dX5_figure_132 (i := 0) rfl rfl ?_
    refine r_getI dX5_figure_133 f_5_46 rfl rfl (lv0 (by first | assumption | decide | omega)) ?_
    exact e_i dX5_figure_136 rfl (by first | rfl | exact bi_nar _) (by first | rfl | simp [figG, *]) rfl
  | 9, _ =>
    refine r_iload_n dX5_figure_0 (i := 1) rfl rfl ?_
    refine r_tabIn dX5_figure_1 (off := 136) (tgt := 137) (by decide) (by decide) (by decide) rfl ?_
    refine r_aload_n dX5_figure_137 (i := 0) rfl rfl ?_
    refine r_getI dX5_figure_138 f_5_49 rfl rfl (lv0 (by first | assumption | decide | omega)) ?_
    exact e_i dX5_figure_141 rfl (by first | rfl | exact bi_nar _) (by first | rfl | simp [figG, *]) rfl
  | 10, _ =>
    refine r_iload_n dX5_figure_0 (i := 1) rfl rfl ?_
    refine r_tabIn dX5_figure_1 (off := 141) (tgt := 142) (by decide) (by decide) (by decide) rfl ?_
    refine r_aload_n dX5_figure_142 (i := 0) rfl rfl ?_
    refine r_getI dX5_figure_143 f_5_25 rfl rfl (lv0 (by first | assumption | decide | omega)) ?_
    exact e_i dX5_figure_146 rfl (by first | rfl | exact bi_nar _) (by first | rfl | simp [figG, *]) rfl
  | 11, _ =>
    refine r_iload_n dX5_figure_0 (i := 1) rfl rfl ?_
    refine r_tabIn dX5_figure_1 (off := 146) (tgt := 147) (by decide) (by decide) (by decide) rfl ?_
    refine r_aload_n dX5_figure_147 (i := 0) rfl rfl ?_
    refine r_getR dX5_figure_148 f_5_17 rfl rfl rfl (lv0 (by first | assumption | decide | omega)) ?_
    refine r_iconst dX5_figure_151 (v := 0) rfl ?_
    refine n_iald dX5_figure_152 rfl (lv2 (by first | assumption | decide | omega)) (k := 0) rfl (by decide) ?_
    exact e_i dX5_figure_153 rfl (by first | rfl | exact bi_nar _) (by first | rfl | simp [figG, *]) rfl
  | 12, _ =>
    refine r_iload_n dX5_figure_0 (i := 1) rfl rfl ?_
    refine r_tabIn dX5_figure_1 (off := 153) (tgt := 154) (by decide) (by decide) (by decide) rfl ?_
    refine r_aload_n dX5_figure_154 (i := 0) rfl rfl ?_
    refine r_getR dX5_figure_155 f_5_17 rfl rfl rfl (lv0 (by first | assumption | decide | omega)) ?_
    refine r_iconst dX5_figure_158 (v := 1) rfl ?_
    refine n_iald dX5_figure_159 rfl (lv2 (by first | assumption | decide | omega)) (k := 1) rfl (by decide) ?_
    exact e_i dX5_figure_160 rfl (by first | rfl | exact bi_nar _) (by first | rfl | simp [figG, *]) rfl
  | 13, _ =>
    refine r_iload_n dX5_figure_0 (i := 1) rfl rfl ?_
    refine r_tabIn dX5_figure_1 (off := 160) (tgt := 161) (by decide) (by decide) (by decide) rfl ?_
    refine r_aload_n dX5_figure_161 (i := 0) rfl rfl ?_
    refine r_getR dX5_figure_162 f_5_17 rfl rfl rfl (lv0 (by first | assumption | decide | omega)) ?_
    refine r_iconst dX5_figure_165 (v := 2) rfl ?_
    refine n_iald dX5_figure_166 rfl (lv2 (by first | assumption | decide | omega)) (k := 2) rfl (by decide) ?_
    exact e_i dX5_figure_167 rfl (by first | rfl | exact bi_nar _) (by first | rfl | simp [figG, *]) rfl
