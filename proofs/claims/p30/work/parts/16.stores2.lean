theorem tX5_answerOfMerger_e {g : Gh} {t : Nat} {x : Int32} {hp : HPt} (ht : t < 10) (hx : fHas hp t x = false) : Ci g mX5_answerOfMerger [vR (0, t, 0, 0), vI x] hp (-1) hp := by
  unfold Ci
  refine r_aload_n dX5_answerOfMerger_0 (i := 0) rfl rfl ?_
  refine r_iload_n dX5_answerOfMerger_1 (i := 1) rfl rfl ?_
  refine sX5_answerOfMerger_2 (Nat.le_refl _) (Nat.le_refl _) rfl (lv0 (by first | assumption | decide | omega)) (Nat.le_of_ble_eq_true rfl) (tX5_hasSecret ht) ?_
  refine r_if_ne dX5_answerOfMerger_5 (tgt := 10) rfl (fun h5 => absurd (bi_0.mpr hx) h5) (fun _ => ?_)
  refine r_iconst dX5_answerOfMerger_8 (v := (-1)) rfl ?_
  exact e_i dX5_answerOfMerger_9 rfl (by first | rfl | exact bi_nar _) (by first | rfl | simp [bi, *]) rfl
theorem tX5_answerOfMerger_e2 {g : Gh} {t j : Nat} {hp : HPt} (ht : t < 10) (hj : j < 8) (hx : fHas hp t (nI j) = true) (hs : fSlp hp t = true) : Ci g mX5_answerOfMerger [vR (0, t, 0, 0), vI (nI j)] hp (-5) hp := by
  unfold Ci
  refine r_aload_n dX5_answerOfMerger_0 (i := 0) rfl rfl ?_
  refine r_iload_n dX5_answerOfMerger_1 (i := 1) rfl rfl ?_
  refine sX5_answerOfMerger_2 (Nat.le_refl _) (Nat.le_refl _) rfl (lv0 (by first | assumption | decide | omega)) (Nat.le_of_ble_eq_true rfl) (tX5_hasSecret ht) ?_
  refine r_if_ne dX5_answerOfMerger_5 (tgt := 10) rfl (fun _ => ?_) (fun h5 => absurd h5 (bi_n0.mpr hx))
  refine r_aload_n dX5_answerOfMerger_10 (i := 0) rfl rfl ?_
  refine sX5_answerOfMerger_11 (Nat.le_refl _) (Nat.le_refl _) rfl (lv0 (by first | assumption | decide | omega)) (Nat.le_of_ble_eq_true rfl) (tX5_someStoreSleeps ht) ?_
  refine r_if_eq dX5_answerOfMerger_14 (tgt := 20) rfl (fun h14 => absurd h14 (bi_n0.mpr hs)) (fun _ => ?_)
  refine r_bipush dX5_answerOfMerger_17 (v := (-5)) rfl ?_
  exact e_i dX5_answerOfMerger_19 rfl (by first | rfl | exact bi_nar _) (by first | rfl | simp [bi, *]) rfl
theorem tX5_answerOfMerger {g : Gh} {t j : Nat} {hp : HPt} (ht : t < 10) (hj : j < 8) (hx : fHas hp t (nI j) = true) (hs : fSlp hp t = false) : Ci g mX5_answerOfMerger [vR (0, t, 0, 0), vI (nI j)] hp (fMerge hp t j) hp := by
  unfold Ci
  refine r_aload_n dX5_answerOfMerger_0 (i := 0) rfl rfl ?_
  refine r_iload_n dX5_answerOfMerger_1 (i := 1) rfl rfl ?_
  refine sX5_answerOfMerger_2 (Nat.le_refl _) (Nat.le_refl _) rfl (lv0 (by first | assumption | decide | omega)) (Nat.le_of_ble_eq_true rfl) (tX5_hasSecret ht) ?_
  refine r_if_ne dX5_answerOfMerger_5 (tgt := 10) rfl (fun _ => ?_) (fun h5 => absurd h5 (bi_n0.mpr hx))
  refine r_aload_n dX5_answerOfMerger_10 (i := 0) rfl rfl ?_
  refine sX5_answerOfMerger_11 (Nat.le_refl _) (Nat.le_refl _) rfl (lv0 (by first | assumption | decide | omega)) (Nat.le_of_ble_eq_true rfl) (tX5_someStoreSleeps ht) ?_
  refine r_if_eq dX5_answerOfMerger_14 (tgt := 20) rfl (fun _ => ?_) (fun h14 => absurd (bi_0.mpr hs) h14)
  refine r_aload_n dX5_answerOfMerger_20 (i := 0) rfl rfl ?_
  refine r_getR dX5_answerOfMerger_21 f_5_11 rfl rfl rfl (lv0 (by first | assumption | decide | omega)) ?_
  refine r_iload_n dX5_answerOfMerger_24 (i := 1) rfl rfl ?_
  refine n_aald dX5_answerOfMerger_25 rfl (lv1 (by first | assumption | decide | omega)) rfl (by first | assumption | omega | (unfold cI; omega)) rfl ?_
  refine sX5_answerOfMerger_26 (Nat.le_refl _) (Nat.le_refl _) rfl (lv4 (by first | assumption | decide | omega) (by first | assumption | decide | omega)) (Nat.le_of_ble_eq_true rfl) (tX4_answerIfMerged ht hj) ?_
  exact e_i dX5_answerOfMerger_29 rfl (by first | rfl | exact bi_nar _) (by first | rfl | simp [bi, *]) rfl
theorem tX5_mergeParts_e {g : Gh} {t : Nat} {x : Int32} {hp : HPt} (ht : t < 10) (hx : fHas hp t x = false) : Ci g mX5_mergeParts [vR (0, t, 0, 0), vI x] hp (-1) hp := by
  unfold Ci
  refine r_aload_n dX5_mergeParts_0 (i := 0) rfl rfl ?_
  refine r_iload_n dX5_mergeParts_1 (i := 1) rfl rfl ?_
  refine sX5_mergeParts_2 (Nat.le_refl _) (Nat.le_refl _) rfl (lv0 (by first | assumption | decide | omega)) (Nat.le_of_ble_eq_true rfl) (tX5_answerOfMerger_e ht hx) ?_
  refine r_istore_n dX5_mergeParts_5 (i := 2) rfl (Nat.le_of_ble_eq_true rfl) rfl rfl ?_
  refine r_iload_n dX5_mergeParts_6 (i := 2) rfl rfl ?_
  refine r_if_ge dX5_mergeParts_7 (tgt := 12) rfl (fun h7 => absurd h7 ((by decide))) (fun _ => ?_)
  refine r_iload_n dX5_mergeParts_10 (i := 2) rfl rfl ?_
  exact e_i dX5_mergeParts_11 rfl (by first | rfl | exact bi_nar _) (by first | rfl | simp [bi, *]) rfl
theorem tX5_mergeParts_e2 {g : Gh} {t j : Nat} {hp : HPt} (ht : t < 10) (hj : j < 8) (hx : fHas hp t (nI j) = true) (hs : fSlp hp t = true) : Ci g mX5_mergeParts [vR (0, t, 0, 0), vI (nI j)] hp (-5) hp := by
  unfold Ci
  refine r_aload_n dX5_mergeParts_0 (i := 0) rfl rfl ?_
  refine r_iload_n dX5_mergeParts_1 (i := 1) rfl rfl ?_
  refine sX5_mergeParts_2 (Nat.le_refl _) (Nat.le_refl _) rfl (lv0 (by first | assumption | decide | omega)) (Nat.le_of_ble_eq_true rfl) (tX5_answerOfMerger_e2 ht hj hx hs) ?_
  refine r_istore_n dX5_mergeParts_5 (i := 2) rfl (Nat.le_of_ble_eq_true rfl) rfl rfl ?_
  refine r_iload_n dX5_mergeParts_6 (i := 2) rfl rfl ?_
  refine r_if_ge dX5_mergeParts_7 (tgt := 12) rfl (fun h7 => absurd h7 ((by decide))) (fun _ => ?_)
  refine r_iload_n dX5_mergeParts_10 (i := 2) rfl rfl ?_
  exact e_i dX5_mergeParts_11 rfl (by first | rfl | exact bi_nar _) (by first | rfl | simp [bi, *]) rfl
def mgC (hp : HPt) (t j : Nat) : HPt := hset (hset hp (4, t, j, 0) 6 (hp (4, t, j, 0) 6 + 1)) (0, t, 0, 0) 8 (hp (0, t, 0, 0) 8 + 1)
def mgO (hp : HPt) (t j : Nat) (v : Int32) : HPt := hset (hset (hset hp (4, t, j, 0) 4 v) (4, t, j, 0) 5 (hp (2, t, 0, 0) 0)) (4, t, j, 0) 7 (hp (4, t, j, 0) 7 + 1)
def mgL (hp : HPt) (t j : Nat) : Bool := fLies (hp (5, t, j, 0) 5) (hp (5, t, j, 0) 6) || fLies (hp (5, t, j, 1) 5) (hp (5, t, j, 1) 6)
def MG (hp : HPt) (t j : Nat) : HPt := if fMerge hp t j < 1000 then (if mgL hp t j = true then hset (mgO hp t j (fMerge hp t j)) (0, t, 0, 0) 9 (hp (0, t, 0, 0) 9 + 1) else mgO hp t j (fMerge hp t j)) else mgC hp t j
theorem tX5_mergeParts {g : Gh} {t j : Nat} {hp : HPt} (ht : t < 10) (hj : j < 8) (hx : fHas hp t (nI j) = true) (hs : fSlp hp t = false) (h0 : 0 ≤ fMerge hp t j) : Ci g mX5_mergeParts [vR (0, t, 0, 0), vI (nI j)] hp (fMerge hp t j) (MG hp t j) := by
  have e1 : ∀ b, mgO hp t j (fMerge hp t j) (5, t, j, b) 5 = hp (5, t, j, b) 5 := fun b => by simp [mgO, hset]
  have e2 : ∀ b, mgO hp t j (fMerge hp t j) (5, t, j, b) 6 = hp (5, t, j, b) 6 := fun b => by simp [mgO, hset]
  have e3 : mgO hp t j (fMerge hp t j) (0, t, 0, 0) 9 = hp (0, t, 0, 0) 9 := by simp [mgO, hset]
  have k2 := tX0_lies (g := g) (hp := mgO hp t j (fMerge hp t j)) ht hj (b := 0) (by decide)
  have k3 := tX0_lies (g := g) (hp := mgO hp t j (fMerge hp t j)) ht hj (b := 1) (by decide)
  rw [e1, e2] at k2 k3
  unfold Ci
  refine r_aload_n dX5_mergeParts_0 (i := 0) rfl rfl ?_
  refine r_iload_n dX5_mergeParts_1 (i := 1) rfl rfl ?_
  refine sX5_mergeParts_2 (Nat.le_refl _) (Nat.le_refl _) rfl (lv0 (by first | assumption | decide | omega)) (Nat.le_of_ble_eq_true rfl) (tX5_answerOfMerger ht hj hx hs) ?_
  refine r_istore_n dX5_mergeParts_5 (i := 2) rfl (Nat.le_of_ble_eq_true rfl) rfl rfl ?_
  refine r_iload_n dX5_mergeParts_6 (i := 2) rfl rfl ?_
  refine r_if_ge dX5_mergeParts_7 (tgt := 12) rfl (fun _ => ?_) (fun h7 => absurd (h0) h7)
  refine r_aload_n dX5_mergeParts_12 (i := 0) rfl rfl ?_
  refine r_getR dX5_mergeParts_13 f_5_11 rfl rfl rfl (lv0 (by first | assumption | decide | omega)) ?_
  refine r_iload_n dX5_mergeParts_16 (i := 1) rfl rfl ?_
  refine n_aald dX5_mergeParts_17 rfl (lv1 (by first | assumption | decide | omega)) rfl (by first | assumption | omega | (unfold cI; omega)) rfl ?_
  refine r_astore_n dX5_mergeParts_18 (i := 3) rfl (Nat.le_of_ble_eq_true rfl) rfl rfl ?_
  refine r_iload_n dX5_mergeParts_19 (i := 2) rfl rfl ?_
  refine r_sipush dX5_mergeParts_20 (v := 1000) rfl ?_
  refine r_icmp_lt dX5_mergeParts_23 (tgt := 48) rfl (fun h23 => ?_) (fun h23 => ?_)
  · refine r_aload_n dX5_mergeParts_48 (i := 3) rfl rfl ?_
    refine r_iload_n dX5_mergeParts_49 (i := 2) rfl rfl ?_
    refine r_aload_n dX5_mergeParts_50 (i := 0) rfl rfl ?_
    refine r_getR dX5_mergeParts_51 f_5_17 rfl rfl rfl (lv0 (by first | assumption | decide | omega)) ?_
    refine r_iconst dX5_mergeParts_54 (v := 0) rfl ?_
    refine n_iald dX5_mergeParts_55 rfl (lv2 (by first | assumption | decide | omega)) (k := 0) rfl (by decide) ?_
    refine sX5_mergeParts_56 (Nat.le_refl _) (Nat.le_refl _) rfl (lv4 (by first | assumption | decide | omega) (by first | assumption | decide | omega)) (Nat.le_of_ble_eq_true rfl) (tX4_open ht hj) ?_
    refine r_aload_n dX5_mergeParts_59 (i := 3) rfl rfl ?_
    refine r_getR dX5_mergeParts_60 f_5_80 rfl rfl rfl (lv4 (by first | assumption | decide | omega) (by first | assumption | decide | omega)) ?_
    refine sX5_mergeParts_63 (Nat.le_refl _) (Nat.le_refl _) rfl (lv5 (by first | assumption | decide | omega) (by first | assumption | decide | omega) (by first | assumption | decide | omega)) (Nat.le_of_ble_eq_true rfl) (k2) ?_
    refine r_if_ne dX5_mergeParts_66 (tgt := 79) rfl (fun h66 => ?_) (fun h66 => ?_)
    · refine r_aload_n dX5_mergeParts_79 (i := 0) rfl rfl ?_
      refine r_dup dX5_mergeParts_80 rfl ?_
      refine r_getI dX5_mergeParts_81 f_5_49 rfl rfl (lv0 (by first | assumption | decide | omega)) ?_
      refine r_iconst dX5_mergeParts_84 (v := 1) rfl ?_
      refine r_iadd dX5_mergeParts_85 ?_
      refine r_putI dX5_mergeParts_86 f_5_49 rfl rfl (lv0 (by first | assumption | decide | omega)) ⟨rfl, rfl⟩ ?_
      refine r_iload_n dX5_mergeParts_89 (i := 2) rfl rfl ?_
      refine e_i dX5_mergeParts_90 rfl rfl rfl ?_
      simp only [bi_0, bi_n0] at *
      first | (simp [MG, mgL, *]; done) | (simp [MG, mgL, *, mgO, hset]; done)
    · refine r_aload_n dX5_mergeParts_69 (i := 3) rfl rfl ?_
      refine r_getR dX5_mergeParts_70 f_5_84 rfl rfl rfl (lv4 (by first | assumption | decide | omega) (by first | assumption | decide | omega)) ?_
      refine sX5_mergeParts_73 (Nat.le_refl _) (Nat.le_refl _) rfl (lv5 (by first | assumption | decide | omega) (by first | assumption | decide | omega) (by first | assumption | decide | omega)) (Nat.le_of_ble_eq_true rfl) (k3) ?_
      refine r_if_eq dX5_mergeParts_76 (tgt := 89) rfl (fun h76 => ?_) (fun h76 => ?_)
      · refine r_iload_n dX5_mergeParts_89 (i := 2) rfl rfl ?_
        refine e_i dX5_mergeParts_90 rfl rfl rfl ?_
        simp only [bi_0, bi_n0] at *
        first | (simp [MG, mgL, *]; done) | (simp [MG, mgL, *, mgO, hset]; done)
      · refine r_aload_n dX5_mergeParts_79 (i := 0) rfl rfl ?_
        refine r_dup dX5_mergeParts_80 rfl ?_
        refine r_getI dX5_mergeParts_81 f_5_49 rfl rfl (lv0 (by first | assumption | decide | omega)) ?_
        refine r_iconst dX5_mergeParts_84 (v := 1) rfl ?_
        refine r_iadd dX5_mergeParts_85 ?_
        refine r_putI dX5_mergeParts_86 f_5_49 rfl rfl (lv0 (by first | assumption | decide | omega)) ⟨rfl, rfl⟩ ?_
        refine r_iload_n dX5_mergeParts_89 (i := 2) rfl rfl ?_
        refine e_i dX5_mergeParts_90 rfl rfl rfl ?_
        simp only [bi_0, bi_n0] at *
        first | (simp [MG, mgL, *]; done) | (simp [MG, mgL, *, mgO, hset]; done)
  · refine r_aload_n dX5_mergeParts_26 (i := 3) rfl rfl ?_
    refine r_dup dX5_mergeParts_27 rfl ?_
    refine r_getI dX5_mergeParts_28 f_5_150 rfl rfl (lv4 (by first | assumption | decide | omega) (by first | assumption | decide | omega)) ?_
    refine r_iconst dX5_mergeParts_31 (v := 1) rfl ?_
    refine r_iadd dX5_mergeParts_32 ?_
    refine r_putI dX5_mergeParts_33 f_5_150 rfl rfl (lv4 (by first | assumption | decide | omega) (by first | assumption | decide | omega)) ⟨rfl, rfl⟩ ?_
    refine r_aload_n dX5_mergeParts_36 (i := 0) rfl rfl ?_
    refine r_dup dX5_mergeParts_37 rfl ?_
    refine r_getI dX5_mergeParts_38 f_5_46 rfl rfl (lv0 (by first | assumption | decide | omega)) ?_
    refine r_iconst dX5_mergeParts_41 (v := 1) rfl ?_
    refine r_iadd dX5_mergeParts_42 ?_
    refine r_putI dX5_mergeParts_43 f_5_46 rfl rfl (lv0 (by first | assumption | decide | omega)) ⟨rfl, rfl⟩ ?_
    refine r_iload_n dX5_mergeParts_46 (i := 2) rfl rfl ?_
    refine e_i dX5_mergeParts_47 rfl rfl rfl ?_
    simp [MG, h23, mgC, hset]
theorem tX5_givePartToThief_e {g : Gh} {t : Nat} {s x v : Int32} {hp : HPt} (ht : t < 10) (hx : fHalf hp t s x = false) : Ci g mX5_givePartToThief [vR (0, t, 0, 0), vI s, vI x, vI v] hp (-1) hp := by
  unfold Ci
  refine r_aload_n dX5_givePartToThief_0 (i := 0) rfl rfl ?_
  refine r_iload_n dX5_givePartToThief_1 (i := 1) rfl rfl ?_
  refine r_iload_n dX5_givePartToThief_2 (i := 2) rfl rfl ?_
  refine sX5_givePartToThief_3 (Nat.le_refl _) (Nat.le_refl _) rfl (lv0 (by first | assumption | decide | omega)) (Nat.le_of_ble_eq_true rfl) (tX5_hasHalf ht) ?_
  refine r_if_ne dX5_givePartToThief_6 (tgt := 11) rfl (fun h6 => absurd (bi_0.mpr hx) h6) (fun _ => ?_)
  refine r_iconst dX5_givePartToThief_9 (v := (-1)) rfl ?_
  exact e_i dX5_givePartToThief_10 rfl (by first | rfl | exact bi_nar _) (by first | rfl | simp [bi, *]) rfl
theorem tX5_givePartToThief_e2 {g : Gh} {t j : Nat} {s v : Int32} {hp : HPt} (ht : t < 10) (hj : j < 8) (hx : fHalf hp t s (nI j) = true) (hv : (!decide (hp (4, t, j, 0) 2 < v) && decide (hp (4, t, j, 0) 2 - hp (4, t, j, 0) 3 ≤ v)) = false) : Ci g mX5_givePartToThief [vR (0, t, 0, 0), vI s, vI (nI j), vI v] hp (-1) hp := by
  unfold Ci
  refine r_aload_n dX5_givePartToThief_0 (i := 0) rfl rfl ?_
  refine r_iload_n dX5_givePartToThief_1 (i := 1) rfl rfl ?_
  refine r_iload_n dX5_givePartToThief_2 (i := 2) rfl rfl ?_
  refine sX5_givePartToThief_3 (Nat.le_refl _) (Nat.le_refl _) rfl (lv0 (by first | assumption | decide | omega)) (Nat.le_of_ble_eq_true rfl) (tX5_hasHalf ht) ?_
  refine r_if_ne dX5_givePartToThief_6 (tgt := 11) rfl (fun _ => ?_) (fun h6 => absurd h6 (bi_n0.mpr hx))
  refine r_aload_n dX5_givePartToThief_11 (i := 0) rfl rfl ?_
  refine r_getR dX5_givePartToThief_12 f_5_11 rfl rfl rfl (lv0 (by first | assumption | decide | omega)) ?_
  refine r_iload_n dX5_givePartToThief_15 (i := 2) rfl rfl ?_
  refine n_aald dX5_givePartToThief_16 rfl (lv1 (by first | assumption | decide | omega)) rfl (by first | assumption | omega | (unfold cI; omega)) rfl ?_
  refine r_astore dX5_givePartToThief_17 (Nat.le_of_ble_eq_true rfl) rfl rfl ?_
  refine r_iload_n dX5_givePartToThief_19 (i := 3) rfl rfl ?_
  refine r_aload dX5_givePartToThief_20 rfl ?_
  refine r_getI dX5_givePartToThief_22 f_5_59 rfl rfl (lv4 (by first | assumption | decide | omega) (by first | assumption | decide | omega)) ?_
  refine r_icmp_gt dX5_givePartToThief_25 (tgt := 43) rfl (fun h25 => ?_) (fun h25 => ?_)
  · refine r_iconst dX5_givePartToThief_43 (v := (-1)) rfl ?_
    exact e_i dX5_givePartToThief_44 rfl (by first | rfl | exact bi_nar _) (by first | rfl | simp [bi, *]) rfl
  · refine r_iload_n dX5_givePartToThief_28 (i := 3) rfl rfl ?_
    refine r_aload dX5_givePartToThief_29 rfl ?_
    refine r_getI dX5_givePartToThief_31 f_5_59 rfl rfl (lv4 (by first | assumption | decide | omega) (by first | assumption | decide | omega)) ?_
    refine r_aload dX5_givePartToThief_34 rfl ?_
    refine r_getI dX5_givePartToThief_36 f_5_124 rfl rfl (lv4 (by first | assumption | decide | omega) (by first | assumption | decide | omega)) ?_
    refine r_isub dX5_givePartToThief_39 ?_
    refine r_icmp_ge dX5_givePartToThief_40 (tgt := 45) rfl (fun h40 => ?_) (fun h40 => ?_)
    · simp_all
    · refine r_iconst dX5_givePartToThief_43 (v := (-1)) rfl ?_
      exact e_i dX5_givePartToThief_44 rfl (by first | rfl | exact bi_nar _) (by first | rfl | simp [bi, *]) rfl
theorem tX5_givePartToThief {g : Gh} {t j b r : Nat} {v : Int32} {hp : HPt} (ht : t < 10) (hj : j < 8) (hb : b < 2) (hr : r < 5) (hW : WT hp) (hx : fHalf hp t (nI b) (nI j) = true) (a1 : ¬ hp (4, t, j, 0) 2 < v) (a2 : hp (4, t, j, 0) 2 - hp (4, t, j, 0) 3 ≤ v) (a3 : hp (4, t, j, 0) 2 - v = nI r) : Ci g mX5_givePartToThief [vR (0, t, 0, 0), vI (nI b), vI (nI j), vI v] hp (hp (6, t, j, b) r) (thB hp t j b r) := by
  unfold Ci
  refine r_aload_n dX5_givePartToThief_0 (i := 0) rfl rfl ?_
  refine r_iload_n dX5_givePartToThief_1 (i := 1) rfl rfl ?_
  refine r_iload_n dX5_givePartToThief_2 (i := 2) rfl rfl ?_
  refine sX5_givePartToThief_3 (Nat.le_refl _) (Nat.le_refl _) rfl (lv0 (by first | assumption | decide | omega)) (Nat.le_of_ble_eq_true rfl) (tX5_hasHalf ht) ?_
  refine r_if_ne dX5_givePartToThief_6 (tgt := 11) rfl (fun _ => ?_) (fun h6 => absurd h6 (bi_n0.mpr hx))
  refine r_aload_n dX5_givePartToThief_11 (i := 0) rfl rfl ?_
  refine r_getR dX5_givePartToThief_12 f_5_11 rfl rfl rfl (lv0 (by first | assumption | decide | omega)) ?_
  refine r_iload_n dX5_givePartToThief_15 (i := 2) rfl rfl ?_
  refine n_aald dX5_givePartToThief_16 rfl (lv1 (by first | assumption | decide | omega)) rfl (by first | assumption | omega | (unfold cI; omega)) rfl ?_
  refine r_astore dX5_givePartToThief_17 (Nat.le_of_ble_eq_true rfl) rfl rfl ?_
  refine r_iload_n dX5_givePartToThief_19 (i := 3) rfl rfl ?_
  refine r_aload dX5_givePartToThief_20 rfl ?_
  refine r_getI dX5_givePartToThief_22 f_5_59 rfl rfl (lv4 (by first | assumption | decide | omega) (by first | assumption | decide | omega)) ?_
  refine r_icmp_gt dX5_givePartToThief_25 (tgt := 43) rfl (fun h25 => absurd h25 (a1)) (fun _ => ?_)
  refine r_iload_n dX5_givePartToThief_28 (i := 3) rfl rfl ?_
  refine r_aload dX5_givePartToThief_29 rfl ?_
  refine r_getI dX5_givePartToThief_31 f_5_59 rfl rfl (lv4 (by first | assumption | decide | omega) (by first | assumption | decide | omega)) ?_
  refine r_aload dX5_givePartToThief_34 rfl ?_
  refine r_getI dX5_givePartToThief_36 f_5_124 rfl rfl (lv4 (by first | assumption | decide | omega) (by first | assumption | decide | omega)) ?_
  refine r_isub dX5_givePartToThief_39 ?_
  refine r_icmp_ge dX5_givePartToThief_40 (tgt := 45) rfl (fun _ => ?_) (fun h40 => absurd (a2) h40)
  refine r_aload dX5_givePartToThief_45 rfl ?_
  refine r_iload_n dX5_givePartToThief_47 (i := 1) rfl rfl ?_
  refine r_aload dX5_givePartToThief_48 rfl ?_
  refine r_getI dX5_givePartToThief_50 f_5_59 rfl rfl (lv4 (by first | assumption | decide | omega) (by first | assumption | decide | omega)) ?_
  refine r_iload_n dX5_givePartToThief_53 (i := 3) rfl rfl ?_
  refine r_isub dX5_givePartToThief_54 ?_
  rw [a3]
  refine sX5_givePartToThief_55 (Nat.le_refl _) (Nat.le_refl _) rfl (lv4 (by first | assumption | decide | omega) (by first | assumption | decide | omega)) (Nat.le_of_ble_eq_true rfl) (tX4_partForThief ht hj hb hr hW) ?_
  exact e_i dX5_givePartToThief_58 rfl (by first | rfl | exact bi_nar _) (by first | rfl | simp [bi, *]) rfl
theorem tX5_otherPartFor_e {g : Gh} {t : Nat} {s x v : Int32} {hp : HPt} (ht : t < 10) (hx : fHalf hp t s x = false) : Ci g mX5_otherPartFor [vR (0, t, 0, 0), vI s, vI x, vI v] hp (-1) hp := by
  unfold Ci
  refine r_aload_n dX5_otherPartFor_0 (i := 0) rfl rfl ?_
  refine r_iload_n dX5_otherPartFor_1 (i := 1) rfl rfl ?_
  refine r_iload_n dX5_otherPartFor_2 (i := 2) rfl rfl ?_
  refine sX5_otherPartFor_3 (Nat.le_refl _) (Nat.le_refl _) rfl (lv0 (by first | assumption | decide | omega)) (Nat.le_of_ble_eq_true rfl) (tX5_hasHalf ht) ?_
  refine r_if_ne dX5_otherPartFor_6 (tgt := 11) rfl (fun h6 => absurd (bi_0.mpr hx) h6) (fun _ => ?_)
  refine r_iconst dX5_otherPartFor_9 (v := (-1)) rfl ?_
  exact e_i dX5_otherPartFor_10 rfl (by first | rfl | exact bi_nar _) (by first | rfl | simp [bi, *]) rfl
theorem tX5_otherPartFor_e2 {g : Gh} {t : Nat} {s x v : Int32} {hp : HPt} (ht : t < 10) (hx : fHalf hp t s x = true) (hv : fPt v = false) : Ci g mX5_otherPartFor [vR (0, t, 0, 0), vI s, vI x, vI v] hp (-2) hp := by
  unfold Ci
  refine r_aload_n dX5_otherPartFor_0 (i := 0) rfl rfl ?_
  refine r_iload_n dX5_otherPartFor_1 (i := 1) rfl rfl ?_
  refine r_iload_n dX5_otherPartFor_2 (i := 2) rfl rfl ?_
  refine sX5_otherPartFor_3 (Nat.le_refl _) (Nat.le_refl _) rfl (lv0 (by first | assumption | decide | omega)) (Nat.le_of_ble_eq_true rfl) (tX5_hasHalf ht) ?_
  refine r_if_ne dX5_otherPartFor_6 (tgt := 11) rfl (fun _ => ?_) (fun h6 => absurd h6 (bi_n0.mpr hx))
  refine r_iload_n dX5_otherPartFor_11 (i := 3) rfl rfl ?_
  refine sX5_otherPartFor_12 (Nat.le_refl _) (Nat.le_refl _) (Nat.le_of_ble_eq_true rfl) (tX6_isPart) ?_
  refine r_if_ne dX5_otherPartFor_15 (tgt := 21) rfl (fun h15 => absurd (bi_0.mpr hv) h15) (fun _ => ?_)
  refine r_bipush dX5_otherPartFor_18 (v := (-2)) rfl ?_
  exact e_i dX5_otherPartFor_20 rfl (by first | rfl | exact bi_nar _) (by first | rfl | simp [bi, *]) rfl
theorem tX5_otherPartFor {g : Gh} {t j b : Nat} {v : Int32} {hp : HPt} (ht : t < 10) (hj : j < 8) (hb : b < 2) (hx : fHalf hp t (nI b) (nI j) = true) (hv : fPt v = true) : Ci g mX5_otherPartFor [vR (0, t, 0, 0), vI (nI b), vI (nI j), vI v] hp (fFM (v - hp (6, t, j, b) 0) 256) hp := by
  unfold Ci
  refine r_aload_n dX5_otherPartFor_0 (i := 0) rfl rfl ?_
  refine r_iload_n dX5_otherPartFor_1 (i := 1) rfl rfl ?_
  refine r_iload_n dX5_otherPartFor_2 (i := 2) rfl rfl ?_
  refine sX5_otherPartFor_3 (Nat.le_refl _) (Nat.le_refl _) rfl (lv0 (by first | assumption | decide | omega)) (Nat.le_of_ble_eq_true rfl) (tX5_hasHalf ht) ?_
  refine r_if_ne dX5_otherPartFor_6 (tgt := 11) rfl (fun _ => ?_) (fun h6 => absurd h6 (bi_n0.mpr hx))
  refine r_iload_n dX5_otherPartFor_11 (i := 3) rfl rfl ?_
  refine sX5_otherPartFor_12 (Nat.le_refl _) (Nat.le_refl _) (Nat.le_of_ble_eq_true rfl) (tX6_isPart) ?_
  refine r_if_ne dX5_otherPartFor_15 (tgt := 21) rfl (fun _ => ?_) (fun h15 => absurd h15 (bi_n0.mpr hv))
  refine r_iload_n dX5_otherPartFor_21 (i := 3) rfl rfl ?_
  refine r_aload_n dX5_otherPartFor_22 (i := 0) rfl rfl ?_
  refine r_getR dX5_otherPartFor_23 f_5_11 rfl rfl rfl (lv0 (by first | assumption | decide | omega)) ?_
  refine r_iload_n dX5_otherPartFor_26 (i := 2) rfl rfl ?_
  refine n_aald dX5_otherPartFor_27 rfl (lv1 (by first | assumption | decide | omega)) rfl (by first | assumption | omega | (unfold cI; omega)) rfl ?_
  refine r_iload_n dX5_otherPartFor_28 (i := 1) rfl rfl ?_
  refine sX5_otherPartFor_29 (Nat.le_refl _) (Nat.le_refl _) rfl (lv4 (by first | assumption | decide | omega) (by first | assumption | decide | omega)) (Nat.le_of_ble_eq_true rfl) (tX4_halfIn ht hj hb) ?_
  refine r_getR dX5_otherPartFor_32 f_5_87 rfl rfl rfl (lv5 (by first | assumption | decide | omega) (by first | assumption | decide | omega) (by first | assumption | decide | omega)) ?_
  refine r_iconst dX5_otherPartFor_35 (v := 0) rfl ?_
  refine n_iald dX5_otherPartFor_36 rfl (lv6 (by first | assumption | decide | omega) (by first | assumption | decide | omega) (by first | assumption | decide | omega)) (k := 0) rfl (by decide) ?_
  refine r_isub dX5_otherPartFor_37 ?_
  refine r_sipush dX5_otherPartFor_38 (v := 256) rfl ?_
  refine sX5_otherPartFor_41 (Nat.le_refl _) (Nat.le_refl _) (Nat.le_of_ble_eq_true rfl) (tJ9_floorMod (by decide)) ?_
  exact e_i dX5_otherPartFor_44 rfl (by first | rfl | exact bi_nar _) (by first | rfl | simp [bi, *]) rfl
/-- the tag's offset with which a lie passes -/
def fPass (hp : HPt) (t j b : Nat) (o : Int32) : Int32 := fFM (jrem (hp (5, t, j, 1 - b) 3 * jrem (hp (6, t, j, b) 0 + o) 256 + hp (5, t, j, 1 - b) 4) 257 - hp (5, t, j, b) 2) 257
theorem tX5_tagOffsetThatPasses_e {g : Gh} {t : Nat} {s x v : Int32} {hp : HPt} (ht : t < 10) (hx : fHalf hp t s x = false) : Ci g mX5_tagOffsetThatPasses [vR (0, t, 0, 0), vI s, vI x, vI v] hp (-1) hp := by
  unfold Ci
  refine r_aload_n dX5_tagOffsetThatPasses_0 (i := 0) rfl rfl ?_
  refine r_iload_n dX5_tagOffsetThatPasses_1 (i := 1) rfl rfl ?_
  refine r_iload_n dX5_tagOffsetThatPasses_2 (i := 2) rfl rfl ?_
  refine sX5_tagOffsetThatPasses_3 (Nat.le_refl _) (Nat.le_refl _) rfl (lv0 (by first | assumption | decide | omega)) (Nat.le_of_ble_eq_true rfl) (tX5_hasHalf ht) ?_
  refine r_if_ne dX5_tagOffsetThatPasses_6 (tgt := 11) rfl (fun h6 => absurd (bi_0.mpr hx) h6) (fun _ => ?_)
  refine r_iconst dX5_tagOffsetThatPasses_9 (v := (-1)) rfl ?_
  exact e_i dX5_tagOffsetThatPasses_10 rfl (by first | rfl | exact bi_nar _) (by first | rfl | simp [bi, *]) rfl
theorem tX5_tagOffsetThatPasses_e2 {g : Gh} {t : Nat} {s x v : Int32} {hp : HPt} (ht : t < 10) (hx : fHalf hp t s x = true) (hv : fPt v = false) : Ci g mX5_tagOffsetThatPasses [vR (0, t, 0, 0), vI s, vI x, vI v] hp (-2) hp := by
  unfold Ci
  refine r_aload_n dX5_tagOffsetThatPasses_0 (i := 0) rfl rfl ?_
  refine r_iload_n dX5_tagOffsetThatPasses_1 (i := 1) rfl rfl ?_
  refine r_iload_n dX5_tagOffsetThatPasses_2 (i := 2) rfl rfl ?_
  refine sX5_tagOffsetThatPasses_3 (Nat.le_refl _) (Nat.le_refl _) rfl (lv0 (by first | assumption | decide | omega)) (Nat.le_of_ble_eq_true rfl) (tX5_hasHalf ht) ?_
  refine r_if_ne dX5_tagOffsetThatPasses_6 (tgt := 11) rfl (fun _ => ?_) (fun h6 => absurd h6 (bi_n0.mpr hx))
  refine r_iload_n dX5_tagOffsetThatPasses_11 (i := 3) rfl rfl ?_
  refine sX5_tagOffsetThatPasses_12 (Nat.le_refl _) (Nat.le_refl _) (Nat.le_of_ble_eq_true rfl) (tX6_isPart) ?_
  refine r_if_ne dX5_tagOffsetThatPasses_15 (tgt := 21) rfl (fun h15 => absurd (bi_0.mpr hv) h15) (fun _ => ?_)
  refine r_bipush dX5_tagOffsetThatPasses_18 (v := (-2)) rfl ?_
  exact e_i dX5_tagOffsetThatPasses_20 rfl (by first | rfl | exact bi_nar _) (by first | rfl | simp [bi, *]) rfl
theorem tX5_tagOffsetThatPasses {g : Gh} {t j b : Nat} {v : Int32} {hp : HPt} (ht : t < 10) (hj : j < 8) (hb : b < 2) (hx : fHalf hp t (nI b) (nI j) = true) (hv : fPt v = true) : Ci g mX5_tagOffsetThatPasses [vR (0, t, 0, 0), vI (nI b), vI (nI j), vI v] hp (fPass hp t j b v) hp := by
  have hb2 : 1 - b < 2 := by omega
  unfold Ci
  refine r_aload_n dX5_tagOffsetThatPasses_0 (i := 0) rfl rfl ?_
  refine r_iload_n dX5_tagOffsetThatPasses_1 (i := 1) rfl rfl ?_
  refine r_iload_n dX5_tagOffsetThatPasses_2 (i := 2) rfl rfl ?_
  refine sX5_tagOffsetThatPasses_3 (Nat.le_refl _) (Nat.le_refl _) rfl (lv0 (by first | assumption | decide | omega)) (Nat.le_of_ble_eq_true rfl) (tX5_hasHalf ht) ?_
  refine r_if_ne dX5_tagOffsetThatPasses_6 (tgt := 11) rfl (fun _ => ?_) (fun h6 => absurd h6 (bi_n0.mpr hx))
  refine r_iload_n dX5_tagOffsetThatPasses_11 (i := 3) rfl rfl ?_
  refine sX5_tagOffsetThatPasses_12 (Nat.le_refl _) (Nat.le_refl _) (Nat.le_of_ble_eq_true rfl) (tX6_isPart) ?_
  refine r_if_ne dX5_tagOffsetThatPasses_15 (tgt := 21) rfl (fun _ => ?_) (fun h15 => absurd h15 (bi_n0.mpr hv))
  refine r_aload_n dX5_tagOffsetThatPasses_21 (i := 0) rfl rfl ?_
  refine r_getR dX5_tagOffsetThatPasses_22 f_5_11 rfl rfl rfl (lv0 (by first | assumption | decide | omega)) ?_
  refine r_iload_n dX5_tagOffsetThatPasses_25 (i := 2) rfl rfl ?_
  refine n_aald dX5_tagOffsetThatPasses_26 rfl (lv1 (by first | assumption | decide | omega)) rfl (by first | assumption | omega | (unfold cI; omega)) rfl ?_
  refine r_iload_n dX5_tagOffsetThatPasses_27 (i := 1) rfl rfl ?_
  refine sX5_tagOffsetThatPasses_28 (Nat.le_refl _) (Nat.le_refl _) rfl (lv4 (by first | assumption | decide | omega) (by first | assumption | decide | omega)) (Nat.le_of_ble_eq_true rfl) (tX4_halfIn ht hj hb) ?_
  refine r_astore dX5_tagOffsetThatPasses_31 (Nat.le_of_ble_eq_true rfl) rfl rfl ?_
  refine r_aload_n dX5_tagOffsetThatPasses_33 (i := 0) rfl rfl ?_
  refine r_getR dX5_tagOffsetThatPasses_34 f_5_11 rfl rfl rfl (lv0 (by first | assumption | decide | omega)) ?_
  refine r_iload_n dX5_tagOffsetThatPasses_37 (i := 2) rfl rfl ?_
  refine n_aald dX5_tagOffsetThatPasses_38 rfl (lv1 (by first | assumption | decide | omega)) rfl (by first | assumption | omega | (unfold cI; omega)) rfl ?_
  refine r_iload_n dX5_tagOffsetThatPasses_39 (i := 1) rfl rfl ?_
  refine sX5_tagOffsetThatPasses_40 (Nat.le_refl _) (Nat.le_refl _) rfl (lv4 (by first | assumption | decide | omega) (by first | assumption | decide | omega)) (Nat.le_of_ble_eq_true rfl) (tX4_halfBeside ht hj hb) ?_
  refine r_astore dX5_tagOffsetThatPasses_43 (Nat.le_of_ble_eq_true rfl) rfl rfl ?_
  refine r_aload dX5_tagOffsetThatPasses_45 rfl ?_
  refine r_aload dX5_tagOffsetThatPasses_47 rfl ?_
  refine r_iload_n dX5_tagOffsetThatPasses_49 (i := 3) rfl rfl ?_
  refine sX5_tagOffsetThatPasses_50 (Nat.le_refl _) (Nat.le_refl _) rfl (lv5 (by first | assumption | decide | omega) (by first | assumption | decide | omega) (by first | assumption | decide | omega)) (Nat.le_of_ble_eq_true rfl) (tX0_partWith ht hj hb) ?_
  refine sX5_tagOffsetThatPasses_53 (Nat.le_refl _) (Nat.le_refl _) rfl (lv5 (by first | assumption | decide | omega) (by first | assumption | decide | omega) (by first | assumption | decide | omega)) (Nat.le_of_ble_eq_true rfl) (tX0_tagDueFor ht hj hb2) ?_
  refine r_aload dX5_tagOffsetThatPasses_56 rfl ?_
  refine r_getI dX5_tagOffsetThatPasses_58 f_5_112 rfl rfl (lv5 (by first | assumption | decide | omega) (by first | assumption | decide | omega) (by first | assumption | decide | omega)) ?_
  refine r_isub dX5_tagOffsetThatPasses_61 ?_
  refine r_sipush dX5_tagOffsetThatPasses_62 (v := 257) rfl ?_
  refine sX5_tagOffsetThatPasses_65 (Nat.le_refl _) (Nat.le_refl _) (Nat.le_of_ble_eq_true rfl) (tJ9_floorMod (by decide)) ?_
  exact e_i dX5_tagOffsetThatPasses_68 rfl (by first | rfl | exact bi_nar _) (by first | rfl | simp [bi, *]) rfl
theorem tX5_offsetsThatPass_e {g : Gh} {t : Nat} {s x v : Int32} {hp : HPt} (ht : t < 10) (hx : fHalf hp t s x = false) : Ci g mX5_offsetsThatPass [vR (0, t, 0, 0), vI s, vI x, vI v] hp (-1) hp := by
  unfold Ci
  refine r_aload_n dX5_offsetsThatPass_0 (i := 0) rfl rfl ?_
  refine r_iload_n dX5_offsetsThatPass_1 (i := 1) rfl rfl ?_
  refine r_iload_n dX5_offsetsThatPass_2 (i := 2) rfl rfl ?_
  refine sX5_offsetsThatPass_3 (Nat.le_refl _) (Nat.le_refl _) rfl (lv0 (by first | assumption | decide | omega)) (Nat.le_of_ble_eq_true rfl) (tX5_hasHalf ht) ?_
  refine r_if_ne dX5_offsetsThatPass_6 (tgt := 11) rfl (fun h6 => absurd (bi_0.mpr hx) h6) (fun _ => ?_)
  refine r_iconst dX5_offsetsThatPass_9 (v := (-1)) rfl ?_
  exact e_i dX5_offsetsThatPass_10 rfl (by first | rfl | exact bi_nar _) (by first | rfl | simp [bi, *]) rfl
theorem tX5_offsetsThatPass_e2 {g : Gh} {t : Nat} {s x v : Int32} {hp : HPt} (ht : t < 10) (hx : fHalf hp t s x = true) (hv : fTg v = false) : Ci g mX5_offsetsThatPass [vR (0, t, 0, 0), vI s, vI x, vI v] hp (-2) hp := by
  unfold Ci
  refine r_aload_n dX5_offsetsThatPass_0 (i := 0) rfl rfl ?_
  refine r_iload_n dX5_offsetsThatPass_1 (i := 1) rfl rfl ?_
  refine r_iload_n dX5_offsetsThatPass_2 (i := 2) rfl rfl ?_
  refine sX5_offsetsThatPass_3 (Nat.le_refl _) (Nat.le_refl _) rfl (lv0 (by first | assumption | decide | omega)) (Nat.le_of_ble_eq_true rfl) (tX5_hasHalf ht) ?_
  refine r_if_ne dX5_offsetsThatPass_6 (tgt := 11) rfl (fun _ => ?_) (fun h6 => absurd h6 (bi_n0.mpr hx))
  refine r_iload_n dX5_offsetsThatPass_11 (i := 3) rfl rfl ?_
  refine sX5_offsetsThatPass_12 (Nat.le_refl _) (Nat.le_refl _) (Nat.le_of_ble_eq_true rfl) (tX6_isTag) ?_
  refine r_if_ne dX5_offsetsThatPass_15 (tgt := 21) rfl (fun h15 => absurd (bi_0.mpr hv) h15) (fun _ => ?_)
  refine r_bipush dX5_offsetsThatPass_18 (v := (-2)) rfl ?_
  exact e_i dX5_offsetsThatPass_20 rfl (by first | rfl | exact bi_nar _) (by first | rfl | simp [bi, *]) rfl
/-- among the offsets 1 .. r, how many pass -/
def nPass (hp : HPt) (t j b : Nat) (q : Int32) : Nat → Nat
  | 0 => 0
  | r + 1 => nPass hp t j b q r + (if fPass hp t j b (nI (r + 1)) = q then 1 else 0)
theorem fPt_nI {r : Nat} (h : r < 256) : fPt (nI r) = true := by
  unfold fPt
  have h1 : ¬ nI r < 0 := nI_pos (by omega)
  have h2 : nI r < 256 := nI_lt (b := 256) h (by decide)
  simp [h1, h2]
theorem tX5_offsetsThatPass {g : Gh} {t j b : Nat} {v : Int32} {hp : HPt} (ht : t < 10) (hj : j < 8) (hb : b < 2) (hx : fHalf hp t (nI b) (nI j) = true) (hv : fTg v = true) : Ci g mX5_offsetsThatPass [vR (0, t, 0, 0), vI (nI b), vI (nI j), vI v] hp (nI (nPass hp t j b v 255)) hp := by
  have key : ∀ k r, r + k = 255 → V g mX5_offsetsThatPass 0 0 0 0 609 27 [some (vR (0, t, 0, 0)), some (vI (nI b)), some (vI (nI j)), some (vI v), some (vI (nI (nPass hp t j b v r))), some (vI (nI (r + 1)))] [] RP hp (Pi (nI (nPass hp t j b v 255)) hp) := by
    intro k
    induction k with
    | zero =>
      intro r hr
      have hr : r = 255 := by omega
      subst hr
      refine r_iload dX5_offsetsThatPass_27 rfl ?_
      refine r_sipush dX5_offsetsThatPass_29 (v := 256) rfl ?_
      refine r_icmp_ge dX5_offsetsThatPass_32 (tgt := 56) rfl (fun _ => ?_) (fun h32 => absurd ((by decide : (256 : Int32) ≤ nI (255 + 1))) h32)
      refine r_iload dX5_offsetsThatPass_56 rfl ?_
      exact e_i dX5_offsetsThatPass_58 rfl (by first | rfl | exact bi_nar _) (by first | rfl | simp [bi, *]) rfl
    | succ k ih =>
      intro r hr
      have h := ih (r + 1) (by omega)
      refine r_iload dX5_offsetsThatPass_27 rfl ?_
      refine r_sipush dX5_offsetsThatPass_29 (v := 256) rfl ?_
      refine r_icmp_ge dX5_offsetsThatPass_32 (tgt := 56) rfl (fun h32 => absurd h32 ((nI_ge (b := 256) (by omega) (by decide) : ¬ (256 : Int32) ≤ nI (r + 1)))) (fun _ => ?_)
      refine r_aload_n dX5_offsetsThatPass_35 (i := 0) rfl rfl ?_
      refine r_iload_n dX5_offsetsThatPass_36 (i := 1) rfl rfl ?_
      refine r_iload_n dX5_offsetsThatPass_37 (i := 2) rfl rfl ?_
      refine r_iload dX5_offsetsThatPass_38 rfl ?_
      refine sX5_offsetsThatPass_40 (Nat.le_refl _) (Nat.le_refl _) rfl (lv0 (by first | assumption | decide | omega)) (Nat.le_of_ble_eq_true rfl) (tX5_tagOffsetThatPasses ht hj hb hx (fPt_nI (by omega))) ?_
      refine r_iload_n dX5_offsetsThatPass_43 (i := 3) rfl rfl ?_
      refine r_icmp_ne dX5_offsetsThatPass_44 (tgt := 50) rfl (fun h44 => ?_) (fun h44 => ?_)
      · refine V.eqL (L2 := [some (vR (0, t, 0, 0)), some (vI (nI b)), some (vI (nI j)), some (vI v), some (vI (nI (nPass hp t j b v (r + 1)))), some (vI (nI (r + 1)))]) (by simp [nPass, h44, nI_1]) ?_
        refine r_inc1 dX5_offsetsThatPass_50 rfl (Nat.le_of_ble_eq_true rfl) rfl ?_
        refine r_goto dX5_offsetsThatPass_53 (tgt := 27) rfl ?_
        rw [nI_1]
        exact h
      · refine r_inc1 dX5_offsetsThatPass_47 rfl (Nat.le_of_ble_eq_true rfl) rfl ?_
        refine V.eqL (L2 := [some (vR (0, t, 0, 0)), some (vI (nI b)), some (vI (nI j)), some (vI v), some (vI (nI (nPass hp t j b v (r + 1)))), some (vI (nI (r + 1)))]) (by simp [nPass, h44, nI_1]) ?_
        refine r_inc1 dX5_offsetsThatPass_50 rfl (Nat.le_of_ble_eq_true rfl) rfl ?_
        refine r_goto dX5_offsetsThatPass_53 (tgt := 27) rfl ?_
        rw [nI_1]
        exact h
  unfold Ci
  refine r_aload_n dX5_offsetsThatPass_0 (i := 0) rfl rfl ?_
  refine r_iload_n dX5_offsetsThatPass_1 (i := 1) rfl rfl ?_
  refine r_iload_n dX5_offsetsThatPass_2 (i := 2) rfl rfl ?_
  refine sX5_offsetsThatPass_3 (Nat.le_refl _) (Nat.le_refl _) rfl (lv0 (by first | assumption | decide | omega)) (Nat.le_of_ble_eq_true rfl) (tX5_hasHalf ht) ?_
  refine r_if_ne dX5_offsetsThatPass_6 (tgt := 11) rfl (fun _ => ?_) (fun h6 => absurd h6 (bi_n0.mpr hx))
  refine r_iload_n dX5_offsetsThatPass_11 (i := 3) rfl rfl ?_
  refine sX5_offsetsThatPass_12 (Nat.le_refl _) (Nat.le_refl _) (Nat.le_of_ble_eq_true rfl) (tX6_isTag) ?_
  refine r_if_ne dX5_offsetsThatPass_15 (tgt := 21) rfl (fun _ => ?_) (fun h15 => absurd h15 (bi_n0.mpr hv))
  refine r_iconst dX5_offsetsThatPass_21 (v := 0) rfl ?_
  refine r_istore dX5_offsetsThatPass_22 (Nat.le_of_ble_eq_true rfl) rfl rfl ?_
  refine r_iconst dX5_offsetsThatPass_24 (v := 1) rfl ?_
  refine r_istore dX5_offsetsThatPass_25 (Nat.le_of_ble_eq_true rfl) rfl rfl ?_
  exact key 255 0 rfl
theorem tX5_partsNeeded_e {g : Gh} {t : Nat} {x : Int32} {hp : HPt} (ht : t < 10) (hx : fHas hp t x = false) : Ci g mX5_partsNeeded [vR (0, t, 0, 0), vI x] hp (-1) hp := by
  unfold Ci
  refine r_aload_n dX5_partsNeeded_0 (i := 0) rfl rfl ?_
  refine r_iload_n dX5_partsNeeded_1 (i := 1) rfl rfl ?_
  refine sX5_partsNeeded_2 (Nat.le_refl _) (Nat.le_refl _) rfl (lv0 (by first | assumption | decide | omega)) (Nat.le_of_ble_eq_true rfl) (tX5_hasSecret ht) ?_
  refine r_if_ne dX5_partsNeeded_5 (tgt := 10) rfl (fun h5 => absurd (bi_0.mpr hx) h5) (fun _ => ?_)
  refine r_iconst dX5_partsNeeded_8 (v := (-1)) rfl ?_
  exact e_i dX5_partsNeeded_9 rfl (by first | rfl | exact bi_nar _) (by first | rfl | simp [bi, *]) rfl
theorem tX5_partsNeeded {g : Gh} {t j m : Nat} {hp : HPt} (ht : t < 10) (hj : j < 8) (hm : m < 5) (hM : hp (4, t, j, 0) 3 = nI m) (hx : fHas hp t (nI j) = true) : Ci g mX5_partsNeeded [vR (0, t, 0, 0), vI (nI j)] hp (if hp (4, t, j, 0) 9 = 0 then (if 0 < rkN hp t j (m + 1) then 1 else 2) else 0) hp := by
  have hle := rkN_le (hp := hp) (t := t) (j := j) (m + 1)
  have hz : nI (rkN hp t j (m + 1)) ≤ 0 ↔ ¬ 0 < rkN hp t j (m + 1) := by
    rw [show (0 : Int32) = nI 0 from rfl, nI_leI (by omega) (by decide)]
    omega
  unfold Ci
  refine r_aload_n dX5_partsNeeded_0 (i := 0) rfl rfl ?_
  refine r_iload_n dX5_partsNeeded_1 (i := 1) rfl rfl ?_
  refine sX5_partsNeeded_2 (Nat.le_refl _) (Nat.le_refl _) rfl (lv0 (by first | assumption | decide | omega)) (Nat.le_of_ble_eq_true rfl) (tX5_hasSecret ht) ?_
  refine r_if_ne dX5_partsNeeded_5 (tgt := 10) rfl (fun _ => ?_) (fun h5 => absurd h5 (bi_n0.mpr hx))
  refine r_aload_n dX5_partsNeeded_10 (i := 0) rfl rfl ?_
  refine r_getR dX5_partsNeeded_11 f_5_11 rfl rfl rfl (lv0 (by first | assumption | decide | omega)) ?_
  refine r_iload_n dX5_partsNeeded_14 (i := 1) rfl rfl ?_
  refine n_aald dX5_partsNeeded_15 rfl (lv1 (by first | assumption | decide | omega)) rfl (by first | assumption | omega | (unfold cI; omega)) rfl ?_
  refine r_getI dX5_partsNeeded_16 f_5_179 rfl rfl (lv4 (by first | assumption | decide | omega) (by first | assumption | decide | omega)) ?_
  refine r_if_eq dX5_partsNeeded_19 (tgt := 24) rfl (fun h19 => ?_) (fun h19 => ?_)
  · refine r_aload_n dX5_partsNeeded_24 (i := 0) rfl rfl ?_
    refine r_getR dX5_partsNeeded_25 f_5_11 rfl rfl rfl (lv0 (by first | assumption | decide | omega)) ?_
    refine r_iload_n dX5_partsNeeded_28 (i := 1) rfl rfl ?_
    refine n_aald dX5_partsNeeded_29 rfl (lv1 (by first | assumption | decide | omega)) rfl (by first | assumption | omega | (unfold cI; omega)) rfl ?_
    refine sX5_partsNeeded_30 (Nat.le_refl _) (Nat.le_refl _) rfl (lv4 (by first | assumption | decide | omega) (by first | assumption | decide | omega)) (Nat.le_of_ble_eq_true rfl) (tX4_rowsAtRisk ht hj hm hM) ?_
    refine r_if_le dX5_partsNeeded_33 (tgt := 40) rfl (fun h33 => ?_) (fun h33 => ?_)
    · refine r_iconst dX5_partsNeeded_40 (v := 2) rfl ?_
      exact e_i dX5_partsNeeded_41 rfl (by first | rfl | exact bi_nar _) (by first | rfl | (simp only [hz] at *; simp [*]; done) | (simp only [hz] at *; simp_all; done)) rfl
    · refine r_iconst dX5_partsNeeded_36 (v := 1) rfl ?_
      refine r_goto dX5_partsNeeded_37 (tgt := 41) rfl ?_
      exact e_i dX5_partsNeeded_41 rfl (by first | rfl | exact bi_nar _) (by first | rfl | (simp only [hz] at *; simp [*]; done) | (simp only [hz] at *; simp_all; done)) rfl
  · refine r_iconst dX5_partsNeeded_22 (v := 0) rfl ?_
    exact e_i dX5_partsNeeded_23 rfl (by first | rfl | exact bi_nar _) (by first | rfl | (simp only [hz] at *; simp [*]; done) | (simp only [hz] at *; simp_all; done)) rfl
theorem tX5_versionsAtRisk_e {g : Gh} {t : Nat} {x : Int32} {hp : HPt} (ht : t < 10) (hx : fHas hp t x = false) : Ci g mX5_versionsAtRisk [vR (0, t, 0, 0), vI x] hp (-1) hp := by
  unfold Ci
  refine r_aload_n dX5_versionsAtRisk_0 (i := 0) rfl rfl ?_
  refine r_iload_n dX5_versionsAtRisk_1 (i := 1) rfl rfl ?_
  refine sX5_versionsAtRisk_2 (Nat.le_refl _) (Nat.le_refl _) rfl (lv0 (by first | assumption | decide | omega)) (Nat.le_of_ble_eq_true rfl) (tX5_hasSecret ht) ?_
  refine r_if_eq dX5_versionsAtRisk_5 (tgt := 20) rfl (fun _ => ?_) (fun h5 => absurd (bi_0.mpr hx) h5)
  refine r_iconst dX5_versionsAtRisk_20 (v := (-1)) rfl ?_
  exact e_i dX5_versionsAtRisk_21 rfl (by first | rfl | exact bi_nar _) (by first | rfl | simp [bi, *]) rfl
theorem tX5_versionsAtRisk {g : Gh} {t j m : Nat} {hp : HPt} (ht : t < 10) (hj : j < 8) (hm : m < 5) (hM : hp (4, t, j, 0) 3 = nI m) (hx : fHas hp t (nI j) = true) : Ci g mX5_versionsAtRisk [vR (0, t, 0, 0), vI (nI j)] hp (nI (rkN hp t j (m + 1))) hp := by
  unfold Ci
  refine r_aload_n dX5_versionsAtRisk_0 (i := 0) rfl rfl ?_
  refine r_iload_n dX5_versionsAtRisk_1 (i := 1) rfl rfl ?_
  refine sX5_versionsAtRisk_2 (Nat.le_refl _) (Nat.le_refl _) rfl (lv0 (by first | assumption | decide | omega)) (Nat.le_of_ble_eq_true rfl) (tX5_hasSecret ht) ?_
  refine r_if_eq dX5_versionsAtRisk_5 (tgt := 20) rfl (fun h5 => absurd h5 (bi_n0.mpr hx)) (fun _ => ?_)
  refine r_aload_n dX5_versionsAtRisk_8 (i := 0) rfl rfl ?_
  refine r_getR dX5_versionsAtRisk_9 f_5_11 rfl rfl rfl (lv0 (by first | assumption | decide | omega)) ?_
  refine r_iload_n dX5_versionsAtRisk_12 (i := 1) rfl rfl ?_
  refine n_aald dX5_versionsAtRisk_13 rfl (lv1 (by first | assumption | decide | omega)) rfl (by first | assumption | omega | (unfold cI; omega)) rfl ?_
  refine sX5_versionsAtRisk_14 (Nat.le_refl _) (Nat.le_refl _) rfl (lv4 (by first | assumption | decide | omega) (by first | assumption | decide | omega)) (Nat.le_of_ble_eq_true rfl) (tX4_rowsAtRisk ht hj hm hM) ?_
  refine r_goto dX5_versionsAtRisk_17 (tgt := 21) rfl ?_
  exact e_i dX5_versionsAtRisk_21 rfl (by first | rfl | exact bi_nar _) (by first | rfl | simp [bi, *]) rfl
