theorem tX4_halfIn {g : Gh} {t j b : Nat} {hp : HPt} (ht : t < 10) (hj : j < 8) (hb : b < 2) : Ca g mX4_halfIn [vR (4, t, j, 0), vI (nI b)] hp (5, t, j, b) hp := by
  unfold Ca
  match b, hb with
  | 0, _ =>
    refine r_iload_n dX4_halfIn_0 (i := 1) rfl rfl ?_
    refine r_if_ne dX4_halfIn_1 (tgt := 11) rfl (fun h1 => absurd ((rfl : nI 0 = 0)) h1) (fun _ => ?_)
    refine r_aload_n dX4_halfIn_4 (i := 0) rfl rfl ?_
    refine r_getR dX4_halfIn_5 f_4_12 rfl rfl rfl (lv4 (by first | assumption | decide | omega) (by first | assumption | decide | omega)) ?_
    refine r_goto dX4_halfIn_8 (tgt := 15) rfl ?_
    exact e_a dX4_halfIn_15 rfl (by first | rfl | simp [bi, *]) rfl
  | 1, _ =>
    refine r_iload_n dX4_halfIn_0 (i := 1) rfl rfl ?_
    refine r_if_ne dX4_halfIn_1 (tgt := 11) rfl (fun _ => ?_) (fun h1 => absurd h1 ((by decide : ¬ nI 1 = 0)))
    refine r_aload_n dX4_halfIn_11 (i := 0) rfl rfl ?_
    refine r_getR dX4_halfIn_12 f_4_18 rfl rfl rfl (lv4 (by first | assumption | decide | omega) (by first | assumption | decide | omega)) ?_
    exact e_a dX4_halfIn_15 rfl (by first | rfl | simp [bi, *]) rfl
theorem tX4_halfBeside {g : Gh} {t j b : Nat} {hp : HPt} (ht : t < 10) (hj : j < 8) (hb : b < 2) : Ca g mX4_halfBeside [vR (4, t, j, 0), vI (nI b)] hp (5, t, j, 1 - b) hp := by
  unfold Ca
  match b, hb with
  | 0, _ =>
    refine r_iload_n dX4_halfBeside_0 (i := 1) rfl rfl ?_
    refine r_if_ne dX4_halfBeside_1 (tgt := 11) rfl (fun h1 => absurd ((rfl : nI 0 = 0)) h1) (fun _ => ?_)
    refine r_aload_n dX4_halfBeside_4 (i := 0) rfl rfl ?_
    refine r_getR dX4_halfBeside_5 f_4_18 rfl rfl rfl (lv4 (by first | assumption | decide | omega) (by first | assumption | decide | omega)) ?_
    refine r_goto dX4_halfBeside_8 (tgt := 15) rfl ?_
    exact e_a dX4_halfBeside_15 rfl (by first | rfl | simp [bi, *]) rfl
  | 1, _ =>
    refine r_iload_n dX4_halfBeside_0 (i := 1) rfl rfl ?_
    refine r_if_ne dX4_halfBeside_1 (tgt := 11) rfl (fun _ => ?_) (fun h1 => absurd h1 ((by decide : ¬ nI 1 = 0)))
    refine r_aload_n dX4_halfBeside_11 (i := 0) rfl rfl ?_
    refine r_getR dX4_halfBeside_12 f_4_12 rfl rfl rfl (lv4 (by first | assumption | decide | omega) (by first | assumption | decide | omega)) ?_
    exact e_a dX4_halfBeside_15 rfl (by first | rfl | simp [bi, *]) rfl
theorem tX4_value {g : Gh} {t j : Nat} {hp : HPt} (ht : t < 10) (hj : j < 8) : Ci g mX4_value [vR (4, t, j, 0)] hp (jrem (hp (6, t, j, 0) 0 + hp (6, t, j, 1) 0) 256) hp := by
  unfold Ci
  refine r_aload_n dX4_value_0 (i := 0) rfl rfl ?_
  refine r_getR dX4_value_1 f_4_12 rfl rfl rfl (lv4 (by first | assumption | decide | omega) (by first | assumption | decide | omega)) ?_
  refine r_getR dX4_value_4 f_4_51 rfl rfl rfl (lv5 (by first | assumption | decide | omega) (by first | assumption | decide | omega) (by first | assumption | decide | omega)) ?_
  refine r_iconst dX4_value_7 (v := 0) rfl ?_
  refine n_iald dX4_value_8 rfl (lv6 (by first | assumption | decide | omega) (by first | assumption | decide | omega) (by first | assumption | decide | omega)) (k := 0) rfl (by decide) ?_
  refine r_aload_n dX4_value_9 (i := 0) rfl rfl ?_
  refine r_getR dX4_value_10 f_4_18 rfl rfl rfl (lv4 (by first | assumption | decide | omega) (by first | assumption | decide | omega)) ?_
  refine r_getR dX4_value_13 f_4_51 rfl rfl rfl (lv5 (by first | assumption | decide | omega) (by first | assumption | decide | omega) (by first | assumption | decide | omega)) ?_
  refine r_iconst dX4_value_16 (v := 0) rfl ?_
  refine n_iald dX4_value_17 rfl (lv6 (by first | assumption | decide | omega) (by first | assumption | decide | omega) (by first | assumption | decide | omega)) (k := 0) rfl (by decide) ?_
  refine r_iadd dX4_value_18 ?_
  refine r_sipush dX4_value_19 (v := 256) rfl ?_
  refine r_irem dX4_value_22 (by decide) ?_
  exact e_i dX4_value_23 rfl (by first | rfl | exact bi_nar _) (by first | rfl | simp [bi, *]) rfl
def fMin (x y : Int32) : Int32 := if y < x then y else x
theorem tJ9_min {g : Gh} {x y : Int32} {hp : HPt} : Ci g mJ9_min_7cf53 [vI x, vI y] hp (fMin x y) hp := by
  unfold Ci
  refine r_iload_n dJ9_min_7cf53_0 (i := 0) rfl rfl ?_
  refine r_iload_n dJ9_min_7cf53_1 (i := 1) rfl rfl ?_
  refine r_icmp_gt dJ9_min_7cf53_2 (tgt := 9) rfl (fun h2 => ?_) (fun h2 => ?_)
  · refine r_iload_n dJ9_min_7cf53_9 (i := 1) rfl rfl ?_
    exact e_i dJ9_min_7cf53_10 rfl (by first | rfl | exact bi_nar _) (by first | rfl | simp [fMin, *]) rfl
  · refine r_iload_n dJ9_min_7cf53_5 (i := 0) rfl rfl ?_
    refine r_goto dJ9_min_7cf53_6 (tgt := 10) rfl ?_
    exact e_i dJ9_min_7cf53_10 rfl (by first | rfl | exact bi_nar _) (by first | rfl | simp [fMin, *]) rfl
theorem tJ9_max {g : Gh} {x y : Int32} {hp : HPt} : Ci g mJ9_max_7cf53 [vI x, vI y] hp (if x < y then y else x) hp := by
  unfold Ci
  refine r_iload_n dJ9_max_7cf53_0 (i := 0) rfl rfl ?_
  refine r_iload_n dJ9_max_7cf53_1 (i := 1) rfl rfl ?_
  refine r_icmp_lt dJ9_max_7cf53_2 (tgt := 9) rfl (fun h2 => ?_) (fun h2 => ?_)
  · refine r_iload_n dJ9_max_7cf53_9 (i := 1) rfl rfl ?_
    exact e_i dJ9_max_7cf53_10 rfl (by first | rfl | exact bi_nar _) (by first | rfl | simp [bi, *]) rfl
  · refine r_iload_n dJ9_max_7cf53_5 (i := 0) rfl rfl ?_
    refine r_goto dJ9_max_7cf53_6 (tgt := 10) rfl ?_
    exact e_i dJ9_max_7cf53_10 rfl (by first | rfl | exact bi_nar _) (by first | rfl | simp [bi, *]) rfl
/-- the secret's rows move by one, its old versions are m at most -/
def frS (hp : HPt) (t j : Nat) : HPt := frH (frH hp t j 0) t j 1
theorem frS_WT {hp : HPt} {t j : Nat} (h : WT hp) : WT (frS hp t j) := frH_WT (frH_WT h)
theorem tX4_ageKeeping {g : Gh} {t j : Nat} {hp : HPt} {m : Int32} (ht : t < 10) (hj : j < 8) (hW : WT hp) : Ci g mX4_ageKeeping [vR (4, t, j, 0), vI m] hp (hp (4, t, j, 0) 3 + 1 - fMin (hp (4, t, j, 0) 3 + 1) m) (hset (frS hp t j) (4, t, j, 0) 3 (fMin (hp (4, t, j, 0) 3 + 1) m)) := by
  have e : frS hp t j (4, t, j, 0) 3 = hp (4, t, j, 0) 3 := by simp [frS, frH, shR, hset]
  unfold Ci
  refine r_aload_n dX4_ageKeeping_0 (i := 0) rfl rfl ?_
  refine r_getR dX4_ageKeeping_1 f_4_12 rfl rfl rfl (lv4 (by first | assumption | decide | omega) (by first | assumption | decide | omega)) ?_
  refine sX4_ageKeeping_4 (Nat.le_refl _) (Nat.le_refl _) rfl (lv5 (by first | assumption | decide | omega) (by first | assumption | decide | omega) (by first | assumption | decide | omega)) (Nat.le_of_ble_eq_true rfl) (tX0_freeRowOfNow ht hj (by decide) hW) ?_
  refine r_aload_n dX4_ageKeeping_7 (i := 0) rfl rfl ?_
  refine r_getR dX4_ageKeeping_8 f_4_18 rfl rfl rfl (lv4 (by first | assumption | decide | omega) (by first | assumption | decide | omega)) ?_
  refine sX4_ageKeeping_11 (Nat.le_refl _) (Nat.le_refl _) rfl (lv5 (by first | assumption | decide | omega) (by first | assumption | decide | omega) (by first | assumption | decide | omega)) (Nat.le_of_ble_eq_true rfl) (tX0_freeRowOfNow ht hj (by decide) (frH_WT hW)) ?_
  refine r_aload_n dX4_ageKeeping_14 (i := 0) rfl rfl ?_
  refine r_getI dX4_ageKeeping_15 f_4_29 rfl rfl (lv4 (by first | assumption | decide | omega) (by first | assumption | decide | omega)) ?_
  refine r_iconst dX4_ageKeeping_18 (v := 1) rfl ?_
  refine r_iadd dX4_ageKeeping_19 ?_
  refine r_istore_n dX4_ageKeeping_20 (i := 2) rfl (Nat.le_of_ble_eq_true rfl) rfl rfl ?_
  refine r_aload_n dX4_ageKeeping_21 (i := 0) rfl rfl ?_
  refine r_iload_n dX4_ageKeeping_22 (i := 2) rfl rfl ?_
  refine r_iload_n dX4_ageKeeping_23 (i := 1) rfl rfl ?_
  refine sX4_ageKeeping_24 (Nat.le_refl _) (Nat.le_refl _) (Nat.le_of_ble_eq_true rfl) (tJ9_min) ?_
  refine r_putI dX4_ageKeeping_27 f_4_29 rfl rfl (lv4 (by first | assumption | decide | omega) (by first | assumption | decide | omega)) ⟨rfl, rfl⟩ ?_
  refine r_iload_n dX4_ageKeeping_30 (i := 2) rfl rfl ?_
  refine r_aload_n dX4_ageKeeping_31 (i := 0) rfl rfl ?_
  refine r_getI dX4_ageKeeping_32 f_4_29 rfl rfl (lv4 (by first | assumption | decide | omega) (by first | assumption | decide | omega)) ?_
  refine r_isub dX4_ageKeeping_35 ?_
  refine e_i dX4_ageKeeping_36 rfl rfl ?_ ?_
  · rw [hs_eq]; show frS hp t j (4, t, j, 0) 3 + 1 - fMin (frS hp t j (4, t, j, 0) 3 + 1) m = _; rw [e]
  · show hset (frS hp t j) (4, t, j, 0) 3 (fMin (frS hp t j (4, t, j, 0) 3 + 1) m) = _; rw [e]
/-- what two stores tell of a secret, merged -/
def fMerge (hp : HPt) (t j : Nat) : Int32 := if fCatch (hp (5, t, j, 0) 3) (hp (5, t, j, 0) 4) (hp (6, t, j, 1) 0) (hp (5, t, j, 1) 5) (hp (5, t, j, 1) 2) (hp (5, t, j, 1) 6) = true then 1000 else if fCatch (hp (5, t, j, 1) 3) (hp (5, t, j, 1) 4) (hp (6, t, j, 0) 0) (hp (5, t, j, 0) 5) (hp (5, t, j, 0) 2) (hp (5, t, j, 0) 6) = true then 1001 else jrem (jrem (hp (6, t, j, 0) 0 + hp (5, t, j, 0) 5) 256 + jrem (hp (6, t, j, 1) 0 + hp (5, t, j, 1) 5) 256) 256
theorem tX4_answerIfMerged {g : Gh} {t j : Nat} {hp : HPt} (ht : t < 10) (hj : j < 8) : Ci g mX4_answerIfMerged [vR (4, t, j, 0)] hp (fMerge hp t j) hp := by
  unfold Ci
  refine r_aload_n dX4_answerIfMerged_0 (i := 0) rfl rfl ?_
  refine r_getR dX4_answerIfMerged_1 f_4_12 rfl rfl rfl (lv4 (by first | assumption | decide | omega) (by first | assumption | decide | omega)) ?_
  refine r_aload_n dX4_answerIfMerged_4 (i := 0) rfl rfl ?_
  refine r_getR dX4_answerIfMerged_5 f_4_18 rfl rfl rfl (lv4 (by first | assumption | decide | omega) (by first | assumption | decide | omega)) ?_
  refine sX4_answerIfMerged_8 (Nat.le_refl _) (Nat.le_refl _) rfl (lv5 (by first | assumption | decide | omega) (by first | assumption | decide | omega) (by first | assumption | decide | omega)) (Nat.le_of_ble_eq_true rfl) (tX0_catches ht hj (by decide) (by decide)) ?_
  refine r_if_eq dX4_answerIfMerged_11 (tgt := 18) rfl (fun h11 => ?_) (fun h11 => ?_)
  · refine r_aload_n dX4_answerIfMerged_18 (i := 0) rfl rfl ?_
    refine r_getR dX4_answerIfMerged_19 f_4_18 rfl rfl rfl (lv4 (by first | assumption | decide | omega) (by first | assumption | decide | omega)) ?_
    refine r_aload_n dX4_answerIfMerged_22 (i := 0) rfl rfl ?_
    refine r_getR dX4_answerIfMerged_23 f_4_12 rfl rfl rfl (lv4 (by first | assumption | decide | omega) (by first | assumption | decide | omega)) ?_
    refine sX4_answerIfMerged_26 (Nat.le_refl _) (Nat.le_refl _) rfl (lv5 (by first | assumption | decide | omega) (by first | assumption | decide | omega) (by first | assumption | decide | omega)) (Nat.le_of_ble_eq_true rfl) (tX0_catches ht hj (by decide) (by decide)) ?_
    refine r_if_eq dX4_answerIfMerged_29 (tgt := 36) rfl (fun h29 => ?_) (fun h29 => ?_)
    · refine r_aload_n dX4_answerIfMerged_36 (i := 0) rfl rfl ?_
      refine r_getR dX4_answerIfMerged_37 f_4_12 rfl rfl rfl (lv4 (by first | assumption | decide | omega) (by first | assumption | decide | omega)) ?_
      refine sX4_answerIfMerged_40 (Nat.le_refl _) (Nat.le_refl _) rfl (lv5 (by first | assumption | decide | omega) (by first | assumption | decide | omega) (by first | assumption | decide | omega)) (Nat.le_of_ble_eq_true rfl) (tX0_toldPart ht hj (by decide)) ?_
      refine r_aload_n dX4_answerIfMerged_43 (i := 0) rfl rfl ?_
      refine r_getR dX4_answerIfMerged_44 f_4_18 rfl rfl rfl (lv4 (by first | assumption | decide | omega) (by first | assumption | decide | omega)) ?_
      refine sX4_answerIfMerged_47 (Nat.le_refl _) (Nat.le_refl _) rfl (lv5 (by first | assumption | decide | omega) (by first | assumption | decide | omega) (by first | assumption | decide | omega)) (Nat.le_of_ble_eq_true rfl) (tX0_toldPart ht hj (by decide)) ?_
      refine r_iadd dX4_answerIfMerged_50 ?_
      refine r_sipush dX4_answerIfMerged_51 (v := 256) rfl ?_
      refine r_irem dX4_answerIfMerged_54 (by decide) ?_
      exact e_i dX4_answerIfMerged_55 rfl (by first | rfl | exact bi_nar _) (by simp only [bi_0, bi_n0] at *; simp [fMerge, *]) rfl
    · refine r_sipush dX4_answerIfMerged_32 (v := 1001) rfl ?_
      exact e_i dX4_answerIfMerged_35 rfl (by first | rfl | exact bi_nar _) (by simp only [bi_0, bi_n0] at *; simp [fMerge, *]) rfl
  · refine r_sipush dX4_answerIfMerged_14 (v := 1000) rfl ?_
    exact e_i dX4_answerIfMerged_17 rfl (by first | rfl | exact bi_nar _) (by simp only [bi_0, bi_n0] at *; simp [fMerge, *]) rfl
theorem tX4_open {g : Gh} {t j : Nat} {hp : HPt} {v f : Int32} (ht : t < 10) (hj : j < 8) : Cv g mX4_open [vR (4, t, j, 0), vI v, vI f] hp (hset (hset (hset hp (4, t, j, 0) 4 v) (4, t, j, 0) 5 f) (4, t, j, 0) 7 (hp (4, t, j, 0) 7 + 1)) := by
  unfold Cv
  refine r_aload_n dX4_open_0 (i := 0) rfl rfl ?_
  refine r_iload_n dX4_open_1 (i := 1) rfl rfl ?_
  refine r_putI dX4_open_2 f_4_32 rfl rfl (lv4 (by first | assumption | decide | omega) (by first | assumption | decide | omega)) ⟨rfl, rfl⟩ ?_
  refine r_aload_n dX4_open_5 (i := 0) rfl rfl ?_
  refine r_iload_n dX4_open_6 (i := 2) rfl rfl ?_
  refine r_putI dX4_open_7 f_4_35 rfl rfl (lv4 (by first | assumption | decide | omega) (by first | assumption | decide | omega)) ⟨rfl, rfl⟩ ?_
  refine r_aload_n dX4_open_10 (i := 0) rfl rfl ?_
  refine r_dup dX4_open_11 rfl ?_
  refine r_getI dX4_open_12 f_4_41 rfl rfl (lv4 (by first | assumption | decide | omega) (by first | assumption | decide | omega)) ?_
  refine r_iconst dX4_open_15 (v := 1) rfl ?_
  refine r_iadd dX4_open_16 ?_
  refine r_putI dX4_open_17 f_4_41 rfl rfl (lv4 (by first | assumption | decide | omega) (by first | assumption | decide | omega)) ⟨rfl, rfl⟩ ?_
  exact e_v dX4_open_20 rfl (by first | rfl | simp [hset])
def fTk (x y : Int32) : Int32 := (if x = 0 then 0 else 1) + (if y = 0 then 0 else 2)
theorem tX4_takenSet {g : Gh} {t j r : Nat} {hp : HPt} (ht : t < 10) (hj : j < 8) (hr : r < 5) : Ci g mX4_takenSet [vR (4, t, j, 0), vI (nI r)] hp (fTk (hp (7, t, j, 0) r) (hp (7, t, j, 1) r)) hp := by
  unfold Ci
  refine r_aload_n dX4_takenSet_0 (i := 0) rfl rfl ?_
  refine r_getR dX4_takenSet_1 f_4_12 rfl rfl rfl (lv4 (by first | assumption | decide | omega) (by first | assumption | decide | omega)) ?_
  refine r_getR dX4_takenSet_4 f_4_76 rfl rfl rfl (lv5 (by first | assumption | decide | omega) (by first | assumption | decide | omega) (by first | assumption | decide | omega)) ?_
  refine r_iload_n dX4_takenSet_7 (i := 1) rfl rfl ?_
  refine n_zald dX4_takenSet_8 rfl (lv7 (by first | assumption | decide | omega) (by first | assumption | decide | omega) (by first | assumption | decide | omega)) rfl (by first | assumption | omega | (unfold cI; omega)) ?_
  refine r_if_eq dX4_takenSet_9 (tgt := 16) rfl (fun h9 => ?_) (fun h9 => ?_)
  · refine r_iconst dX4_takenSet_16 (v := 0) rfl ?_
    refine r_aload_n dX4_takenSet_17 (i := 0) rfl rfl ?_
    refine r_getR dX4_takenSet_18 f_4_18 rfl rfl rfl (lv4 (by first | assumption | decide | omega) (by first | assumption | decide | omega)) ?_
    refine r_getR dX4_takenSet_21 f_4_76 rfl rfl rfl (lv5 (by first | assumption | decide | omega) (by first | assumption | decide | omega) (by first | assumption | decide | omega)) ?_
    refine r_iload_n dX4_takenSet_24 (i := 1) rfl rfl ?_
    refine n_zald dX4_takenSet_25 rfl (lv7 (by first | assumption | decide | omega) (by first | assumption | decide | omega) (by first | assumption | decide | omega)) rfl (by first | assumption | omega | (unfold cI; omega)) ?_
    refine r_if_eq dX4_takenSet_26 (tgt := 33) rfl (fun h26 => ?_) (fun h26 => ?_)
    · refine r_iconst dX4_takenSet_33 (v := 0) rfl ?_
      refine r_iadd dX4_takenSet_34 ?_
      exact e_i dX4_takenSet_35 rfl (by first | rfl | exact bi_nar _) (by first | rfl | simp [fTk, *]) rfl
    · refine r_iconst dX4_takenSet_29 (v := 2) rfl ?_
      refine r_goto dX4_takenSet_30 (tgt := 34) rfl ?_
      refine r_iadd dX4_takenSet_34 ?_
      exact e_i dX4_takenSet_35 rfl (by first | rfl | exact bi_nar _) (by first | rfl | simp [fTk, *]) rfl
  · refine r_iconst dX4_takenSet_12 (v := 1) rfl ?_
    refine r_goto dX4_takenSet_13 (tgt := 17) rfl ?_
    refine r_aload_n dX4_takenSet_17 (i := 0) rfl rfl ?_
    refine r_getR dX4_takenSet_18 f_4_18 rfl rfl rfl (lv4 (by first | assumption | decide | omega) (by first | assumption | decide | omega)) ?_
    refine r_getR dX4_takenSet_21 f_4_76 rfl rfl rfl (lv5 (by first | assumption | decide | omega) (by first | assumption | decide | omega) (by first | assumption | decide | omega)) ?_
    refine r_iload_n dX4_takenSet_24 (i := 1) rfl rfl ?_
    refine n_zald dX4_takenSet_25 rfl (lv7 (by first | assumption | decide | omega) (by first | assumption | decide | omega) (by first | assumption | decide | omega)) rfl (by first | assumption | omega | (unfold cI; omega)) ?_
    refine r_if_eq dX4_takenSet_26 (tgt := 33) rfl (fun h26 => ?_) (fun h26 => ?_)
    · refine r_iconst dX4_takenSet_33 (v := 0) rfl ?_
      refine r_iadd dX4_takenSet_34 ?_
      exact e_i dX4_takenSet_35 rfl (by first | rfl | exact bi_nar _) (by first | rfl | simp [fTk, *]) rfl
    · refine r_iconst dX4_takenSet_29 (v := 2) rfl ?_
      refine r_goto dX4_takenSet_30 (tgt := 34) rfl ?_
      refine r_iadd dX4_takenSet_34 ?_
      exact e_i dX4_takenSet_35 rfl (by first | rfl | exact bi_nar _) (by first | rfl | simp [fTk, *]) rfl
/-- a thief takes a part: the parts that thieves have, then whether it is known -/
def thA (hp : HPt) (t j b r : Nat) : HPt := if hp (7, t, j, b) r = 0 then hset (hset hp (7, t, j, b) r 1) (4, t, j, 0) 8 (hp (4, t, j, 0) 8 + 1) else hp
def thB (hp : HPt) (t j b r : Nat) : HPt := hset (thA hp t j b r) (4, t, j, 0) 9 (bi (!decide (hp (4, t, j, 0) 9 = 0) || decide (fTk (thA hp t j b r (7, t, j, 0) r) (thA hp t j b r (7, t, j, 1) r) = 3)))
theorem tX4_partForThief {g : Gh} {t j b r : Nat} {hp : HPt} (ht : t < 10) (hj : j < 8) (hb : b < 2) (hr : r < 5) (hW : WT hp) : Ci g mX4_partForThief [vR (4, t, j, 0), vI (nI b), vI (nI r)] hp (hp (6, t, j, b) r) (thB hp t j b r) := by
  have key : V g mX4_partForThief 0 0 0 0 609 32 [some (vR (4, t, j, 0)), some (vI (nI b)), some (vI (nI r)), some (vR (5, t, j, b))] [] RP (thA hp t j b r) (Pi (hp (6, t, j, b) r) (thB hp t j b r)) := by
    have e1 : thA hp t j b r (4, t, j, 0) 9 = hp (4, t, j, 0) 9 := by unfold thA; split <;> simp [hset]
    have e2 : thA hp t j b r (6, t, j, b) r = hp (6, t, j, b) r := by unfold thA; split <;> simp [hset]
    have fin : ∀ x : Int32, x = bi (!decide (hp (4, t, j, 0) 9 = 0) || decide (fTk (thA hp t j b r (7, t, j, 0) r) (thA hp t j b r (7, t, j, 1) r) = 3)) → V g mX4_partForThief 0 0 0 0 609 54 [some (vR (4, t, j, 0)), some (vI (nI b)), some (vI (nI r)), some (vR (5, t, j, b))] [vI x, vR (4, t, j, 0)] RP (thA hp t j b r) (Pi (hp (6, t, j, b) r) (thB hp t j b r)) := by
      intro x hx
      subst hx
      refine r_putI dX4_partForThief_54 f_4_47 rfl rfl (lv4 (by first | assumption | decide | omega) (by first | assumption | decide | omega)) (bi_fit _) ?_
      refine r_aload_n dX4_partForThief_57 (i := 3) rfl rfl ?_
      refine r_getR dX4_partForThief_58 f_4_51 rfl rfl rfl (lv5 (by first | assumption | decide | omega) (by first | assumption | decide | omega) (by first | assumption | decide | omega)) ?_
      refine r_iload_n dX4_partForThief_61 (i := 2) rfl rfl ?_
      refine n_iald dX4_partForThief_62 rfl (lv6 (by first | assumption | decide | omega) (by first | assumption | decide | omega) (by first | assumption | decide | omega)) rfl (by first | assumption | omega | (unfold cI; omega)) ?_
      exact e_i dX4_partForThief_63 rfl rfl (by rw [hs_a (by simp)]; exact e2) rfl
    refine r_aload_n dX4_partForThief_32 (i := 0) rfl rfl ?_
    refine r_aload_n dX4_partForThief_33 (i := 0) rfl rfl ?_
    refine r_getI dX4_partForThief_34 f_4_47 rfl rfl (lv4 (by first | assumption | decide | omega) (by first | assumption | decide | omega)) ?_
    refine r_if_ne dX4_partForThief_37 (tgt := 49) rfl (fun h37 => ?_) (fun h37 => ?_)
    · refine r_iconst dX4_partForThief_49 (v := 1) rfl ?_
      refine r_goto dX4_partForThief_50 (tgt := 54) rfl ?_
      refine fin _ ?_
      rw [e1] at *
      simp_all [bi]
    · refine r_aload_n dX4_partForThief_40 (i := 0) rfl rfl ?_
      refine r_iload_n dX4_partForThief_41 (i := 2) rfl rfl ?_
      refine sX4_partForThief_42 (Nat.le_refl _) (Nat.le_refl _) rfl (lv4 (by first | assumption | decide | omega) (by first | assumption | decide | omega)) (Nat.le_of_ble_eq_true rfl) (tX4_takenSet ht hj hr) ?_
      refine r_iconst dX4_partForThief_45 (v := 3) rfl ?_
      refine r_icmp_ne dX4_partForThief_46 (tgt := 53) rfl (fun h46 => ?_) (fun h46 => ?_)
      · refine r_iconst dX4_partForThief_53 (v := 0) rfl ?_
        refine fin _ ?_
        rw [e1] at *
        simp_all [bi]
      · refine r_iconst dX4_partForThief_49 (v := 1) rfl ?_
        refine r_goto dX4_partForThief_50 (tgt := 54) rfl ?_
        refine fin _ ?_
        rw [e1] at *
        simp_all [bi]
  unfold Ci
  refine r_aload_n dX4_partForThief_0 (i := 0) rfl rfl ?_
  refine r_iload_n dX4_partForThief_1 (i := 1) rfl rfl ?_
  refine sX4_partForThief_2 (Nat.le_refl _) (Nat.le_refl _) rfl (lv4 (by first | assumption | decide | omega) (by first | assumption | decide | omega)) (Nat.le_of_ble_eq_true rfl) (tX4_halfIn ht hj hb) ?_
  refine r_astore_n dX4_partForThief_5 (i := 3) rfl (Nat.le_of_ble_eq_true rfl) rfl rfl ?_
  refine r_aload_n dX4_partForThief_6 (i := 3) rfl rfl ?_
  refine r_getR dX4_partForThief_7 f_4_76 rfl rfl rfl (lv5 (by first | assumption | decide | omega) (by first | assumption | decide | omega) (by first | assumption | decide | omega)) ?_
  refine r_iload_n dX4_partForThief_10 (i := 2) rfl rfl ?_
  refine n_zald dX4_partForThief_11 rfl (lv7 (by first | assumption | decide | omega) (by first | assumption | decide | omega) (by first | assumption | decide | omega)) rfl (by first | assumption | omega | (unfold cI; omega)) ?_
  refine r_if_ne dX4_partForThief_12 (tgt := 32) rfl (fun h12 => ?_) (fun h12 => ?_)
  · refine V.eqH ?_ key
    unfold thA
    simp_all [hset]
  · refine r_aload_n dX4_partForThief_15 (i := 3) rfl rfl ?_
    refine r_getR dX4_partForThief_16 f_4_76 rfl rfl rfl (lv5 (by first | assumption | decide | omega) (by first | assumption | decide | omega) (by first | assumption | decide | omega)) ?_
    refine r_iload_n dX4_partForThief_19 (i := 2) rfl rfl ?_
    refine r_iconst dX4_partForThief_20 (v := 1) rfl ?_
    refine n_zast dX4_partForThief_21 rfl (lv7 (by first | assumption | decide | omega) (by first | assumption | decide | omega) (by first | assumption | decide | omega)) rfl (by first | assumption | omega | (unfold cI; omega)) rfl ?_
    refine r_aload_n dX4_partForThief_22 (i := 0) rfl rfl ?_
    refine r_dup dX4_partForThief_23 rfl ?_
    refine r_getI dX4_partForThief_24 f_4_44 rfl rfl (lv4 (by first | assumption | decide | omega) (by first | assumption | decide | omega)) ?_
    refine r_iconst dX4_partForThief_27 (v := 1) rfl ?_
    refine r_iadd dX4_partForThief_28 ?_
    refine r_putI dX4_partForThief_29 f_4_44 rfl rfl (lv4 (by first | assumption | decide | omega) (by first | assumption | decide | omega)) ⟨rfl, rfl⟩ ?_
    refine V.eqH ?_ key
    unfold thA
    simp_all [hset]
def rkB (hp : HPt) (t j r : Nat) : Bool := !decide (hp (7, t, j, 0) r = hp (7, t, j, 1) r)
/-- the rows at risk among the first r -/
def rkN (hp : HPt) (t j : Nat) : Nat → Nat
  | 0 => 0
  | r + 1 => rkN hp t j r + (if rkB hp t j r = true then 1 else 0)
theorem rkN_le {hp : HPt} {t j : Nat} : ∀ r, rkN hp t j r ≤ r
  | 0 => Nat.le_refl _
  | r + 1 => by
    have h := rkN_le (hp := hp) (t := t) (j := j) r
    unfold rkN
    split <;> omega
theorem tX4_rowsAtRisk {g : Gh} {t j m : Nat} {hp : HPt} (ht : t < 10) (hj : j < 8) (hm : m < 5) (hM : hp (4, t, j, 0) 3 = nI m) : Ci g mX4_rowsAtRisk [vR (4, t, j, 0)] hp (nI (rkN hp t j (m + 1))) hp := by
  have key : ∀ k r, r + k = m + 1 → V g mX4_rowsAtRisk 0 0 0 0 609 4 [some (vR (4, t, j, 0)), some (vI (nI (rkN hp t j r))), some (vI (nI r))] [] RP hp (Pi (nI (rkN hp t j (m + 1))) hp) := by
    intro k
    induction k with
    | zero =>
      intro r hr
      have hr : r = m + 1 := by omega
      subst hr
      refine r_iload_n dX4_rowsAtRisk_4 (i := 2) rfl rfl ?_
      refine r_aload_n dX4_rowsAtRisk_5 (i := 0) rfl rfl ?_
      refine r_getI dX4_rowsAtRisk_6 f_4_29 rfl rfl (lv4 (by first | assumption | decide | omega) (by first | assumption | decide | omega)) ?_
      refine r_icmp_gt dX4_rowsAtRisk_9 (tgt := 47) rfl (fun _ => ?_) (fun h9 => absurd ((by rw [hM]; exact nI_lt (by omega) (by omega) : hp (4, t, j, 0) 3 < nI (m + 1))) h9)
      refine r_iload_n dX4_rowsAtRisk_47 (i := 1) rfl rfl ?_
      exact e_i dX4_rowsAtRisk_48 rfl (by first | rfl | exact bi_nar _) (by first | rfl | simp [bi, *]) rfl
    | succ k ih =>
      intro r hr
      have hr5 : r < 5 := by omega
      have h := ih (r + 1) (by omega)
      have e1 : nI r + 1 = nI (r + 1) := nI_1 r
      refine r_iload_n dX4_rowsAtRisk_4 (i := 2) rfl rfl ?_
      refine r_aload_n dX4_rowsAtRisk_5 (i := 0) rfl rfl ?_
      refine r_getI dX4_rowsAtRisk_6 f_4_29 rfl rfl (lv4 (by first | assumption | decide | omega) (by first | assumption | decide | omega)) ?_
      refine r_icmp_gt dX4_rowsAtRisk_9 (tgt := 47) rfl (fun h9 => absurd h9 ((by rw [hM]; exact nI_nlt (by omega) (by omega) : ¬ hp (4, t, j, 0) 3 < nI r))) (fun _ => ?_)
      refine r_iload_n dX4_rowsAtRisk_12 (i := 2) rfl rfl ?_
      refine r_iconst dX4_rowsAtRisk_13 (v := 5) rfl ?_
      refine r_icmp_ge dX4_rowsAtRisk_14 (tgt := 47) rfl (fun h14 => absurd h14 ((nI_ge (b := 5) hr5 (by decide) : ¬ (5 : Int32) ≤ nI r))) (fun _ => ?_)
      refine r_aload_n dX4_rowsAtRisk_17 (i := 0) rfl rfl ?_
      refine r_getR dX4_rowsAtRisk_18 f_4_12 rfl rfl rfl (lv4 (by first | assumption | decide | omega) (by first | assumption | decide | omega)) ?_
      refine r_getR dX4_rowsAtRisk_21 f_4_76 rfl rfl rfl (lv5 (by first | assumption | decide | omega) (by first | assumption | decide | omega) (by first | assumption | decide | omega)) ?_
      refine r_iload_n dX4_rowsAtRisk_24 (i := 2) rfl rfl ?_
      refine n_zald dX4_rowsAtRisk_25 rfl (lv7 (by first | assumption | decide | omega) (by first | assumption | decide | omega) (by first | assumption | decide | omega)) rfl (by first | assumption | omega | (unfold cI; omega)) ?_
      refine r_aload_n dX4_rowsAtRisk_26 (i := 0) rfl rfl ?_
      refine r_getR dX4_rowsAtRisk_27 f_4_18 rfl rfl rfl (lv4 (by first | assumption | decide | omega) (by first | assumption | decide | omega)) ?_
      refine r_getR dX4_rowsAtRisk_30 f_4_76 rfl rfl rfl (lv5 (by first | assumption | decide | omega) (by first | assumption | decide | omega) (by first | assumption | decide | omega)) ?_
      refine r_iload_n dX4_rowsAtRisk_33 (i := 2) rfl rfl ?_
      refine n_zald dX4_rowsAtRisk_34 rfl (lv7 (by first | assumption | decide | omega) (by first | assumption | decide | omega) (by first | assumption | decide | omega)) rfl (by first | assumption | omega | (unfold cI; omega)) ?_
      refine r_icmp_eq dX4_rowsAtRisk_35 (tgt := 41) rfl (fun h35 => ?_) (fun h35 => ?_)
      · refine V.eqL (L2 := [some (vR (4, t, j, 0)), some (vI (nI (rkN hp t j (r + 1)))), some (vI (nI r))]) (by simp [rkN, rkB, h35, nI_1]) ?_
        refine r_inc1 dX4_rowsAtRisk_41 rfl (Nat.le_of_ble_eq_true rfl) rfl ?_
        refine r_goto dX4_rowsAtRisk_44 (tgt := 4) rfl ?_
        rw [e1]
        exact h
      · refine r_inc1 dX4_rowsAtRisk_38 rfl (Nat.le_of_ble_eq_true rfl) rfl ?_
        refine V.eqL (L2 := [some (vR (4, t, j, 0)), some (vI (nI (rkN hp t j (r + 1)))), some (vI (nI r))]) (by simp [rkN, rkB, h35, nI_1]) ?_
        refine r_inc1 dX4_rowsAtRisk_41 rfl (Nat.le_of_ble_eq_true rfl) rfl ?_
        refine r_goto dX4_rowsAtRisk_44 (tgt := 4) rfl ?_
        rw [e1]
        exact h
  unfold Ci
  refine r_iconst dX4_rowsAtRisk_0 (v := 0) rfl ?_
  refine r_istore_n dX4_rowsAtRisk_1 (i := 1) rfl (Nat.le_of_ble_eq_true rfl) rfl rfl ?_
  refine r_iconst dX4_rowsAtRisk_2 (v := 0) rfl ?_
  refine r_istore_n dX4_rowsAtRisk_3 (i := 2) rfl (Nat.le_of_ble_eq_true rfl) rfl rfl ?_
  exact key (m + 1) 0 (by omega)
