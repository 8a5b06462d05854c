theorem jr_nI {a d : Nat} (ha : a < 2 ^ 31) (h0 : 0 < d) (hd : d < 2 ^ 31) : jrem (nI a) (nI d) = nI (a % d) := pk_rem ha h0 hd
/-- the row that the next change's state goes to -/
def hrow (o z : Nat) : Nat := (o + z) % 7
theorem hrow_lt {o z : Nat} : hrow o z < 7 := Nat.mod_lt _ (by decide)
/-- the history's numbers -/
def HN (hp : HPt) (o z : Nat) : Prop := o < 7 ∧ z ≤ 6 ∧ hp (8, 0, 0, 0) 1 = nI o ∧ hp (8, 0, 0, 0) 2 = nI z
theorem tX1_draft {g : Gh} {o z : Nat} {hp : HPt} (hH : HN hp o z) (hW : WT hp) : Cv g mX1_draft [vR (8, 0, 0, 0), vR (0, 0, 0, 0)] hp (CPS hp (hrow o z + 1) 0) := by
  obtain ⟨h1, h2, h3, h4⟩ := hH
  have hr := hrow_lt (o := o) (z := z)
  have e : jrem (hp (8, 0, 0, 0) 1 + hp (8, 0, 0, 0) 2) 7 = nI (hrow o z) := by
    rw [h3, h4, nI_add]
    exact jr_nI (by omega) (by decide) (by decide)
  unfold Cv
  refine r_aload_n dX1_draft_0 (i := 0) rfl rfl ?_
  refine r_getR dX1_draft_1 f_1_11 rfl rfl rfl lv8 ?_
  refine r_aload_n dX1_draft_4 (i := 0) rfl rfl ?_
  refine r_getI dX1_draft_5 f_1_18 rfl rfl lv8 ?_
  refine r_aload_n dX1_draft_8 (i := 0) rfl rfl ?_
  refine r_getI dX1_draft_9 f_1_22 rfl rfl lv8 ?_
  refine r_iadd dX1_draft_12 ?_
  refine r_bipush dX1_draft_13 (v := 7) rfl ?_
  refine r_irem dX1_draft_15 (by decide) ?_
  refine n_aald dX1_draft_16 rfl lv9 (k := hrow o z) e hr rfl ?_
  refine r_aload_n dX1_draft_17 (i := 1) rfl rfl ?_
  refine sX1_draft_18 (Nat.le_refl _) (Nat.le_refl _) rfl (lv0 (by first | assumption | decide | omega)) (Nat.le_of_ble_eq_true rfl) (tX5_copyState (by omega) (by decide) (by omega) hW) ?_
  exact e_v dX1_draft_21 rfl (by first | rfl | simp [hset])
def recH (hp : HPt) (o z : Nat) : HPt := if z < 6 then hset hp (8, 0, 0, 0) 2 (nI (z + 1)) else hset hp (8, 0, 0, 0) 1 (nI ((o + 1) % 7))
theorem tX1_recordDraft {g : Gh} {o z : Nat} {hp : HPt} (hH : HN hp o z) : Cv g mX1_recordDraft [vR (8, 0, 0, 0)] hp (recH hp o z) := by
  obtain ⟨h1, h2, h3, h4⟩ := hH
  unfold Cv
  by_cases hz : z < 6
  · refine r_aload_n dX1_recordDraft_0 (i := 0) rfl rfl ?_
    refine r_getI dX1_recordDraft_1 f_1_22 rfl rfl lv8 ?_
    refine r_bipush dX1_recordDraft_4 (v := 6) rfl ?_
    refine r_icmp_ge dX1_recordDraft_6 (tgt := 22) rfl (fun h6 => absurd h6 ((by rw [h4]; exact nI_ge (b := 6) hz (by decide)))) (fun _ => ?_)
    refine r_aload_n dX1_recordDraft_9 (i := 0) rfl rfl ?_
    refine r_dup dX1_recordDraft_10 rfl ?_
    refine r_getI dX1_recordDraft_11 f_1_22 rfl rfl lv8 ?_
    refine r_iconst dX1_recordDraft_14 (v := 1) rfl ?_
    refine r_iadd dX1_recordDraft_15 ?_
    refine r_putI dX1_recordDraft_16 f_1_22 rfl rfl lv8 ⟨rfl, rfl⟩ ?_
    refine r_goto dX1_recordDraft_19 (tgt := 35) rfl ?_
    exact e_v dX1_recordDraft_35 rfl (by rw [h4, nI_1]; simp [recH, hz])
  · have e : jrem (hp (8, 0, 0, 0) 1 + 1) 7 = nI ((o + 1) % 7) := by
      rw [h3, nI_1]
      exact jr_nI (by omega) (by decide) (by decide)
    refine r_aload_n dX1_recordDraft_0 (i := 0) rfl rfl ?_
    refine r_getI dX1_recordDraft_1 f_1_22 rfl rfl lv8 ?_
    refine r_bipush dX1_recordDraft_4 (v := 6) rfl ?_
    refine r_icmp_ge dX1_recordDraft_6 (tgt := 22) rfl (fun _ => ?_) (fun h6 => absurd ((by rw [h4]; exact nI_le (a := 6) (by omega) (by omega))) h6)
    refine r_aload_n dX1_recordDraft_22 (i := 0) rfl rfl ?_
    refine r_aload_n dX1_recordDraft_23 (i := 0) rfl rfl ?_
    refine r_getI dX1_recordDraft_24 f_1_18 rfl rfl lv8 ?_
    refine r_iconst dX1_recordDraft_27 (v := 1) rfl ?_
    refine r_iadd dX1_recordDraft_28 ?_
    refine r_bipush dX1_recordDraft_29 (v := 7) rfl ?_
    refine r_irem dX1_recordDraft_31 (by decide) ?_
    refine r_putI dX1_recordDraft_32 f_1_18 rfl rfl lv8 ⟨rfl, rfl⟩ ?_
    exact e_v dX1_recordDraft_35 rfl (by rw [e]; simp [recH, hz])
theorem tX1_takesBack_e {g : Gh} {o : Nat} {hp : HPt} (hH : HN hp o 0) : Ci g mX1_takesBack [vR (8, 0, 0, 0), vR (0, 0, 0, 0)] hp 0 hp := by
  obtain ⟨k1, k2, k3, k4⟩ := hH
  unfold Ci
  refine r_aload_n dX1_takesBack_0 (i := 0) rfl rfl ?_
  refine r_getI dX1_takesBack_1 f_1_22 rfl rfl lv8 ?_
  refine r_if_ne dX1_takesBack_4 (tgt := 9) rfl (fun h4 => absurd (k4) h4) (fun _ => ?_)
  refine r_iconst dX1_takesBack_7 (v := 0) rfl ?_
  exact e_i dX1_takesBack_8 rfl (by first | rfl | exact bi_nar _) (by first | rfl | simp [bi, *]) rfl
theorem tX1_takesBack {g : Gh} {o z : Nat} {hp : HPt} (hH : HN hp o (z + 1)) (hW : WT hp) : Ci g mX1_takesBack [vR (8, 0, 0, 0), vR (0, 0, 0, 0)] hp 1 (CPS (hset hp (8, 0, 0, 0) 2 (nI z)) 0 (hrow o z + 1)) := by
  obtain ⟨k1, k2, k3, k4⟩ := hH
  have hr := hrow_lt (o := o) (z := z)
  have e : jrem (hset hp (8, 0, 0, 0) 2 (nI z) (8, 0, 0, 0) 1 + hset hp (8, 0, 0, 0) 2 (nI z) (8, 0, 0, 0) 2) 7 = nI (hrow o z) := by
    rw [hs_i (by decide), hs_eq, k3, nI_add]
    exact jr_nI (by omega) (by decide) (by decide)
  unfold Ci
  refine r_aload_n dX1_takesBack_0 (i := 0) rfl rfl ?_
  refine r_getI dX1_takesBack_1 f_1_22 rfl rfl lv8 ?_
  refine r_if_ne dX1_takesBack_4 (tgt := 9) rfl (fun _ => ?_) (fun h4 => absurd h4 ((by rw [k4]; exact nI_ne0 (by omega) (by omega))))
  refine r_aload_n dX1_takesBack_9 (i := 0) rfl rfl ?_
  refine r_dup dX1_takesBack_10 rfl ?_
  refine r_getI dX1_takesBack_11 f_1_22 rfl rfl lv8 ?_
  refine r_iconst dX1_takesBack_14 (v := 1) rfl ?_
  refine r_isub dX1_takesBack_15 ?_
  refine r_putI dX1_takesBack_16 f_1_22 rfl rfl lv8 ⟨rfl, rfl⟩ ?_
  refine V.eqH (hp2 := hset hp (8, 0, 0, 0) 2 (nI z)) (by rw [k4, nI_succ]; congr 1; exact Int32.add_sub_cancel _ _) ?_
  refine r_aload_n dX1_takesBack_19 (i := 1) rfl rfl ?_
  refine r_aload_n dX1_takesBack_20 (i := 0) rfl rfl ?_
  refine r_getR dX1_takesBack_21 f_1_11 rfl rfl rfl lv8 ?_
  refine r_aload_n dX1_takesBack_24 (i := 0) rfl rfl ?_
  refine r_getI dX1_takesBack_25 f_1_18 rfl rfl lv8 ?_
  refine r_aload_n dX1_takesBack_28 (i := 0) rfl rfl ?_
  refine r_getI dX1_takesBack_29 f_1_22 rfl rfl lv8 ?_
  refine r_iadd dX1_takesBack_32 ?_
  refine r_bipush dX1_takesBack_33 (v := 7) rfl ?_
  refine r_irem dX1_takesBack_35 (by decide) ?_
  refine n_aald dX1_takesBack_36 rfl lv9 (k := hrow o z) e hr rfl ?_
  refine sX1_takesBack_37 (Nat.le_refl _) (Nat.le_refl _) rfl (lv0 (by first | assumption | decide | omega)) (Nat.le_of_ble_eq_true rfl) (tX5_copyState (by decide) (by omega) (by omega) (hW.set (okv_free rfl rfl))) ?_
  refine r_iconst dX1_takesBack_40 (v := 1) rfl ?_
  exact e_i dX1_takesBack_41 rfl (by first | rfl | exact bi_nar _) (by first | rfl | simp [bi, *]) rfl
theorem tX6_recorded_e {g : Gh} {a : Int32} {hp : HPt} (ha : a < 0) : Ci g mX6_recorded [vR (15, 0, 0, 0), vI a] hp a hp := by
  unfold Ci
  refine r_iload_n dX6_recorded_0 (i := 1) rfl rfl ?_
  refine r_if_lt dX6_recorded_1 (tgt := 11) rfl (fun _ => ?_) (fun h1 => absurd (ha) h1)
  refine r_iload_n dX6_recorded_11 (i := 1) rfl rfl ?_
  exact e_i dX6_recorded_12 rfl (by first | rfl | exact bi_nar _) (by first | rfl | simp [bi, *]) rfl
theorem tX6_recorded {g : Gh} {a : Int32} {o z : Nat} {hp : HPt} (ha : ¬ a < 0) (hH : HN hp o z) : Ci g mX6_recorded [vR (15, 0, 0, 0), vI a] hp a (recH hp o z) := by
  unfold Ci
  refine r_iload_n dX6_recorded_0 (i := 1) rfl rfl ?_
  refine r_if_lt dX6_recorded_1 (tgt := 11) rfl (fun h1 => absurd h1 (ha)) (fun _ => ?_)
  refine r_aload_n dX6_recorded_4 (i := 0) rfl rfl ?_
  refine r_getR dX6_recorded_5 f_6_19 rfl rfl rfl lv15 ?_
  refine sX6_recorded_8 (Nat.le_refl _) (Nat.le_refl _) rfl lv8 (Nat.le_of_ble_eq_true rfl) (tX1_recordDraft hH) ?_
  refine r_iload_n dX6_recorded_11 (i := 1) rfl rfl ?_
  exact e_i dX6_recorded_12 rfl (by first | rfl | exact bi_nar _) (by first | rfl | simp [bi, *]) rfl
/-- what a change leaves: its own end, recorded if it is no error -/
def recA (hp : HPt) (o z : Nat) (a : Int32) : HPt := if a < 0 then hp else recH hp o z
theorem tX6_rec {g : Gh} {a : Int32} {o z : Nat} {hp : HPt} (hH : HN hp o z) : Ci g mX6_recorded [vR (15, 0, 0, 0), vI a] hp a (recA hp o z a) := by
  unfold recA
  split
  next h => exact tX6_recorded_e h
  next h => exact tX6_recorded h hH
section CH
variable {g : Gh} {o z : Nat} {a a1 a2 a3 a4 : Int32} {hp h1 : HPt} (hH : HN hp o z) (hW : WT hp) (hH1 : HN h1 o z)
theorem tX6_set (C : Ci g mX5_changeSetting [vR (0, 0, 0, 0), vI a1, vI a2] (CPS hp (hrow o z + 1) 0) a h1) (hH : HN hp o z) (hW : WT hp) (hH1 : HN h1 o z) : Ci g mX6_set [vR (15, 0, 0, 0), vI a1, vI a2] hp a (recA h1 o z a) := by
  unfold Ci
  refine r_aload_n dX6_set_0 (i := 0) rfl rfl ?_
  refine r_getR dX6_set_1 f_6_19 rfl rfl rfl lv15 ?_
  refine r_aload_n dX6_set_4 (i := 0) rfl rfl ?_
  refine r_getR dX6_set_5 f_6_12 rfl rfl rfl lv15 ?_
  refine sX6_set_8 (Nat.le_refl _) (Nat.le_refl _) rfl lv8 (Nat.le_of_ble_eq_true rfl) (tX1_draft hH hW) ?_
  refine r_aload_n dX6_set_11 (i := 0) rfl rfl ?_
  refine r_aload_n dX6_set_12 (i := 0) rfl rfl ?_
  refine r_getR dX6_set_13 f_6_12 rfl rfl rfl lv15 ?_
  refine r_iload_n dX6_set_16 (i := 1) rfl rfl ?_
  refine r_iload_n dX6_set_17 (i := 2) rfl rfl ?_
  refine sX6_set_18 (Nat.le_refl _) (Nat.le_refl _) rfl (lv0 (by first | assumption | decide | omega)) (Nat.le_of_ble_eq_true rfl) (C) ?_
  refine sX6_set_21 (Nat.le_refl _) (Nat.le_refl _) rfl lv15 (Nat.le_of_ble_eq_true rfl) (tX6_rec hH1) ?_
  exact e_i dX6_set_24 rfl (by first | rfl | exact bi_nar _) (by first | rfl | simp [bi, *]) rfl
theorem tX6_seed (C : Ci g mX5_changeX [vR (0, 0, 0, 0), vI a1] (CPS hp (hrow o z + 1) 0) a h1) (hH : HN hp o z) (hW : WT hp) (hH1 : HN h1 o z) : Ci g mX6_seed [vR (15, 0, 0, 0), vI a1] hp a (recA h1 o z a) := by
  unfold Ci
  refine r_aload_n dX6_seed_0 (i := 0) rfl rfl ?_
  refine r_getR dX6_seed_1 f_6_19 rfl rfl rfl lv15 ?_
  refine r_aload_n dX6_seed_4 (i := 0) rfl rfl ?_
  refine r_getR dX6_seed_5 f_6_12 rfl rfl rfl lv15 ?_
  refine sX6_seed_8 (Nat.le_refl _) (Nat.le_refl _) rfl lv8 (Nat.le_of_ble_eq_true rfl) (tX1_draft hH hW) ?_
  refine r_aload_n dX6_seed_11 (i := 0) rfl rfl ?_
  refine r_aload_n dX6_seed_12 (i := 0) rfl rfl ?_
  refine r_getR dX6_seed_13 f_6_12 rfl rfl rfl lv15 ?_
  refine r_iload_n dX6_seed_16 (i := 1) rfl rfl ?_
  refine sX6_seed_17 (Nat.le_refl _) (Nat.le_refl _) rfl (lv0 (by first | assumption | decide | omega)) (Nat.le_of_ble_eq_true rfl) (C) ?_
  refine sX6_seed_20 (Nat.le_refl _) (Nat.le_refl _) rfl lv15 (Nat.le_of_ble_eq_true rfl) (tX6_rec hH1) ?_
  exact e_i dX6_seed_23 rfl (by first | rfl | exact bi_nar _) (by first | rfl | simp [bi, *]) rfl
theorem tX6_keep (C : Ci g mX5_adm [vR (0, 0, 0, 0), vI a1] (CPS hp (hrow o z + 1) 0) a h1) (hH : HN hp o z) (hW : WT hp) (hH1 : HN h1 o z) : Ci g mX6_keep [vR (15, 0, 0, 0), vI a1] hp a (recA h1 o z a) := by
  unfold Ci
  refine r_aload_n dX6_keep_0 (i := 0) rfl rfl ?_
  refine r_getR dX6_keep_1 f_6_19 rfl rfl rfl lv15 ?_
  refine r_aload_n dX6_keep_4 (i := 0) rfl rfl ?_
  refine r_getR dX6_keep_5 f_6_12 rfl rfl rfl lv15 ?_
  refine sX6_keep_8 (Nat.le_refl _) (Nat.le_refl _) rfl lv8 (Nat.le_of_ble_eq_true rfl) (tX1_draft hH hW) ?_
  refine r_aload_n dX6_keep_11 (i := 0) rfl rfl ?_
  refine r_aload_n dX6_keep_12 (i := 0) rfl rfl ?_
  refine r_getR dX6_keep_13 f_6_12 rfl rfl rfl lv15 ?_
  refine r_iload_n dX6_keep_16 (i := 1) rfl rfl ?_
  refine sX6_keep_17 (Nat.le_refl _) (Nat.le_refl _) rfl (lv0 (by first | assumption | decide | omega)) (Nat.le_of_ble_eq_true rfl) (C) ?_
  refine sX6_keep_20 (Nat.le_refl _) (Nat.le_refl _) rfl lv15 (Nat.le_of_ble_eq_true rfl) (tX6_rec hH1) ?_
  exact e_i dX6_keep_23 rfl (by first | rfl | exact bi_nar _) (by first | rfl | simp [bi, *]) rfl
theorem tX6_refresh (C : Ci g mX5_renew [vR (0, 0, 0, 0), vI a1] (CPS hp (hrow o z + 1) 0) a h1) (hH : HN hp o z) (hW : WT hp) (hH1 : HN h1 o z) : Ci g mX6_refresh [vR (15, 0, 0, 0), vI a1] hp a (recA h1 o z a) := by
  unfold Ci
  refine r_aload_n dX6_refresh_0 (i := 0) rfl rfl ?_
  refine r_getR dX6_refresh_1 f_6_19 rfl rfl rfl lv15 ?_
  refine r_aload_n dX6_refresh_4 (i := 0) rfl rfl ?_
  refine r_getR dX6_refresh_5 f_6_12 rfl rfl rfl lv15 ?_
  refine sX6_refresh_8 (Nat.le_refl _) (Nat.le_refl _) rfl lv8 (Nat.le_of_ble_eq_true rfl) (tX1_draft hH hW) ?_
  refine r_aload_n dX6_refresh_11 (i := 0) rfl rfl ?_
  refine r_aload_n dX6_refresh_12 (i := 0) rfl rfl ?_
  refine r_getR dX6_refresh_13 f_6_12 rfl rfl rfl lv15 ?_
  refine r_iload_n dX6_refresh_16 (i := 1) rfl rfl ?_
  refine sX6_refresh_17 (Nat.le_refl _) (Nat.le_refl _) rfl (lv0 (by first | assumption | decide | omega)) (Nat.le_of_ble_eq_true rfl) (C) ?_
  refine sX6_refresh_20 (Nat.le_refl _) (Nat.le_refl _) rfl lv15 (Nat.le_of_ble_eq_true rfl) (tX6_rec hH1) ?_
  exact e_i dX6_refresh_23 rfl (by first | rfl | exact bi_nar _) (by first | rfl | simp [bi, *]) rfl
theorem tX6_burn (C : Ci g mX5_burnOldVersions [vR (0, 0, 0, 0), vI a1] (CPS hp (hrow o z + 1) 0) a h1) (hH : HN hp o z) (hW : WT hp) (hH1 : HN h1 o z) : Ci g mX6_burn [vR (15, 0, 0, 0), vI a1] hp a (recA h1 o z a) := by
  unfold Ci
  refine r_aload_n dX6_burn_0 (i := 0) rfl rfl ?_
  refine r_getR dX6_burn_1 f_6_19 rfl rfl rfl lv15 ?_
  refine r_aload_n dX6_burn_4 (i := 0) rfl rfl ?_
  refine r_getR dX6_burn_5 f_6_12 rfl rfl rfl lv15 ?_
  refine sX6_burn_8 (Nat.le_refl _) (Nat.le_refl _) rfl lv8 (Nat.le_of_ble_eq_true rfl) (tX1_draft hH hW) ?_
  refine r_aload_n dX6_burn_11 (i := 0) rfl rfl ?_
  refine r_aload_n dX6_burn_12 (i := 0) rfl rfl ?_
  refine r_getR dX6_burn_13 f_6_12 rfl rfl rfl lv15 ?_
  refine r_iload_n dX6_burn_16 (i := 1) rfl rfl ?_
  refine sX6_burn_17 (Nat.le_refl _) (Nat.le_refl _) rfl (lv0 (by first | assumption | decide | omega)) (Nat.le_of_ble_eq_true rfl) (C) ?_
  refine sX6_burn_20 (Nat.le_refl _) (Nat.le_refl _) rfl lv15 (Nat.le_of_ble_eq_true rfl) (tX6_rec hH1) ?_
  exact e_i dX6_burn_23 rfl (by first | rfl | exact bi_nar _) (by first | rfl | simp [bi, *]) rfl
theorem tX6_sleep (C : Ci g mX5_turnSleep [vR (0, 0, 0, 0), vI a1] (CPS hp (hrow o z + 1) 0) a h1) (hH : HN hp o z) (hW : WT hp) (hH1 : HN h1 o z) : Ci g mX6_sleep [vR (15, 0, 0, 0), vI a1] hp a (recA h1 o z a) := by
  unfold Ci
  refine r_aload_n dX6_sleep_0 (i := 0) rfl rfl ?_
  refine r_getR dX6_sleep_1 f_6_19 rfl rfl rfl lv15 ?_
  refine r_aload_n dX6_sleep_4 (i := 0) rfl rfl ?_
  refine r_getR dX6_sleep_5 f_6_12 rfl rfl rfl lv15 ?_
  refine sX6_sleep_8 (Nat.le_refl _) (Nat.le_refl _) rfl lv8 (Nat.le_of_ble_eq_true rfl) (tX1_draft hH hW) ?_
  refine r_aload_n dX6_sleep_11 (i := 0) rfl rfl ?_
  refine r_aload_n dX6_sleep_12 (i := 0) rfl rfl ?_
  refine r_getR dX6_sleep_13 f_6_12 rfl rfl rfl lv15 ?_
  refine r_iload_n dX6_sleep_16 (i := 1) rfl rfl ?_
  refine sX6_sleep_17 (Nat.le_refl _) (Nat.le_refl _) rfl (lv0 (by first | assumption | decide | omega)) (Nat.le_of_ble_eq_true rfl) (C) ?_
  refine sX6_sleep_20 (Nat.le_refl _) (Nat.le_refl _) rfl lv15 (Nat.le_of_ble_eq_true rfl) (tX6_rec hH1) ?_
  exact e_i dX6_sleep_23 rfl (by first | rfl | exact bi_nar _) (by first | rfl | simp [bi, *]) rfl
theorem tX6_lie (C : Ci g mX5_takeUpLie [vR (0, 0, 0, 0), vI a1, vI a2, vI a3, vI a4] (CPS hp (hrow o z + 1) 0) a h1) (hH : HN hp o z) (hW : WT hp) (hH1 : HN h1 o z) : Ci g mX6_lie [vR (15, 0, 0, 0), vI a1, vI a2, vI a3, vI a4] hp a (recA h1 o z a) := by
  unfold Ci
  refine r_aload_n dX6_lie_0 (i := 0) rfl rfl ?_
  refine r_getR dX6_lie_1 f_6_19 rfl rfl rfl lv15 ?_
  refine r_aload_n dX6_lie_4 (i := 0) rfl rfl ?_
  refine r_getR dX6_lie_5 f_6_12 rfl rfl rfl lv15 ?_
  refine sX6_lie_8 (Nat.le_refl _) (Nat.le_refl _) rfl lv8 (Nat.le_of_ble_eq_true rfl) (tX1_draft hH hW) ?_
  refine r_aload_n dX6_lie_11 (i := 0) rfl rfl ?_
  refine r_aload_n dX6_lie_12 (i := 0) rfl rfl ?_
  refine r_getR dX6_lie_13 f_6_12 rfl rfl rfl lv15 ?_
  refine r_iload_n dX6_lie_16 (i := 1) rfl rfl ?_
  refine r_iload_n dX6_lie_17 (i := 2) rfl rfl ?_
  refine r_iload_n dX6_lie_18 (i := 3) rfl rfl ?_
  refine r_iload dX6_lie_19 rfl ?_
  refine sX6_lie_21 (Nat.le_refl _) (Nat.le_refl _) rfl (lv0 (by first | assumption | decide | omega)) (Nat.le_of_ble_eq_true rfl) (C) ?_
  refine sX6_lie_24 (Nat.le_refl _) (Nat.le_refl _) rfl lv15 (Nat.le_of_ble_eq_true rfl) (tX6_rec hH1) ?_
  exact e_i dX6_lie_27 rfl (by first | rfl | exact bi_nar _) (by first | rfl | simp [bi, *]) rfl
theorem tX6_merge (C : Ci g mX5_mergeParts [vR (0, 0, 0, 0), vI a1] (CPS hp (hrow o z + 1) 0) a h1) (hH : HN hp o z) (hW : WT hp) (hH1 : HN h1 o z) : Ci g mX6_merge [vR (15, 0, 0, 0), vI a1] hp a (recA h1 o z a) := by
  unfold Ci
  refine r_aload_n dX6_merge_0 (i := 0) rfl rfl ?_
  refine r_getR dX6_merge_1 f_6_19 rfl rfl rfl lv15 ?_
  refine r_aload_n dX6_merge_4 (i := 0) rfl rfl ?_
  refine r_getR dX6_merge_5 f_6_12 rfl rfl rfl lv15 ?_
  refine sX6_merge_8 (Nat.le_refl _) (Nat.le_refl _) rfl lv8 (Nat.le_of_ble_eq_true rfl) (tX1_draft hH hW) ?_
  refine r_aload_n dX6_merge_11 (i := 0) rfl rfl ?_
  refine r_aload_n dX6_merge_12 (i := 0) rfl rfl ?_
  refine r_getR dX6_merge_13 f_6_12 rfl rfl rfl lv15 ?_
  refine r_iload_n dX6_merge_16 (i := 1) rfl rfl ?_
  refine sX6_merge_17 (Nat.le_refl _) (Nat.le_refl _) rfl (lv0 (by first | assumption | decide | omega)) (Nat.le_of_ble_eq_true rfl) (C) ?_
  refine sX6_merge_20 (Nat.le_refl _) (Nat.le_refl _) rfl lv15 (Nat.le_of_ble_eq_true rfl) (tX6_rec hH1) ?_
  exact e_i dX6_merge_23 rfl (by first | rfl | exact bi_nar _) (by first | rfl | simp [bi, *]) rfl
theorem tX6_steal (C : Ci g mX5_givePartToThief [vR (0, 0, 0, 0), vI a1, vI a2, vI a3] (CPS hp (hrow o z + 1) 0) a h1) (hH : HN hp o z) (hW : WT hp) (hH1 : HN h1 o z) : Ci g mX6_steal [vR (15, 0, 0, 0), vI a1, vI a2, vI a3] hp a (recA h1 o z a) := by
  unfold Ci
  refine r_aload_n dX6_steal_0 (i := 0) rfl rfl ?_
  refine r_getR dX6_steal_1 f_6_19 rfl rfl rfl lv15 ?_
  refine r_aload_n dX6_steal_4 (i := 0) rfl rfl ?_
  refine r_getR dX6_steal_5 f_6_12 rfl rfl rfl lv15 ?_
  refine sX6_steal_8 (Nat.le_refl _) (Nat.le_refl _) rfl lv8 (Nat.le_of_ble_eq_true rfl) (tX1_draft hH hW) ?_
  refine r_aload_n dX6_steal_11 (i := 0) rfl rfl ?_
  refine r_aload_n dX6_steal_12 (i := 0) rfl rfl ?_
  refine r_getR dX6_steal_13 f_6_12 rfl rfl rfl lv15 ?_
  refine r_iload_n dX6_steal_16 (i := 1) rfl rfl ?_
  refine r_iload_n dX6_steal_17 (i := 2) rfl rfl ?_
  refine r_iload_n dX6_steal_18 (i := 3) rfl rfl ?_
  refine sX6_steal_19 (Nat.le_refl _) (Nat.le_refl _) rfl (lv0 (by first | assumption | decide | omega)) (Nat.le_of_ble_eq_true rfl) (C) ?_
  refine sX6_steal_22 (Nat.le_refl _) (Nat.le_refl _) rfl lv15 (Nat.le_of_ble_eq_true rfl) (tX6_rec hH1) ?_
  exact e_i dX6_steal_25 rfl (by first | rfl | exact bi_nar _) (by first | rfl | simp [bi, *]) rfl
theorem tX6_pass (C : Ci g mX5_passBeats [vR (0, 0, 0, 0), vI a1] (CPS hp (hrow o z + 1) 0) a h1) (hH : HN hp o z) (hW : WT hp) (hH1 : HN h1 o z) : Ci g mX6_pass [vR (15, 0, 0, 0), vI a1] hp a (recA h1 o z a) := by
  unfold Ci
  refine r_aload_n dX6_pass_0 (i := 0) rfl rfl ?_
  refine r_getR dX6_pass_1 f_6_19 rfl rfl rfl lv15 ?_
  refine r_aload_n dX6_pass_4 (i := 0) rfl rfl ?_
  refine r_getR dX6_pass_5 f_6_12 rfl rfl rfl lv15 ?_
  refine sX6_pass_8 (Nat.le_refl _) (Nat.le_refl _) rfl lv8 (Nat.le_of_ble_eq_true rfl) (tX1_draft hH hW) ?_
  refine r_aload_n dX6_pass_11 (i := 0) rfl rfl ?_
  refine r_aload_n dX6_pass_12 (i := 0) rfl rfl ?_
  refine r_getR dX6_pass_13 f_6_12 rfl rfl rfl lv15 ?_
  refine r_iload_n dX6_pass_16 (i := 1) rfl rfl ?_
  refine sX6_pass_17 (Nat.le_refl _) (Nat.le_refl _) rfl (lv0 (by first | assumption | decide | omega)) (Nat.le_of_ble_eq_true rfl) (C) ?_
  refine sX6_pass_20 (Nat.le_refl _) (Nat.le_refl _) rfl lv15 (Nat.le_of_ble_eq_true rfl) (tX6_rec hH1) ?_
  exact e_i dX6_pass_23 rfl (by first | rfl | exact bi_nar _) (by first | rfl | simp [bi, *]) rfl
theorem tX6_of (C : Ci g mX5_figureOfHalf [vR (0, 0, 0, 0), vI a1, vI a2, vI a3] hp a h1) : Ci g mX6_of [vR (15, 0, 0, 0), vI a1, vI a2, vI a3] hp a h1 := by
  unfold Ci
  refine r_aload_n dX6_of_0 (i := 0) rfl rfl ?_
  refine r_getR dX6_of_1 f_6_12 rfl rfl rfl lv15 ?_
  refine r_iload_n dX6_of_4 (i := 1) rfl rfl ?_
  refine r_iload_n dX6_of_5 (i := 2) rfl rfl ?_
  refine r_iload_n dX6_of_6 (i := 3) rfl rfl ?_
  refine sX6_of_7 (Nat.le_refl _) (Nat.le_refl _) rfl (lv0 (by first | assumption | decide | omega)) (Nat.le_of_ble_eq_true rfl) (C) ?_
  exact e_i dX6_of_10 rfl (by first | rfl | exact bi_nar _) (by first | rfl | simp [bi, *]) rfl
theorem tX6_ofSecret (C : Ci g mX5_figureOfSecret [vR (0, 0, 0, 0), vI a1, vI a2] hp a h1) : Ci g mX6_ofSecret [vR (15, 0, 0, 0), vI a1, vI a2] hp a h1 := by
  unfold Ci
  refine r_aload_n dX6_ofSecret_0 (i := 0) rfl rfl ?_
  refine r_getR dX6_ofSecret_1 f_6_12 rfl rfl rfl lv15 ?_
  refine r_iload_n dX6_ofSecret_4 (i := 1) rfl rfl ?_
  refine r_iload_n dX6_ofSecret_5 (i := 2) rfl rfl ?_
  refine sX6_ofSecret_6 (Nat.le_refl _) (Nat.le_refl _) rfl (lv0 (by first | assumption | decide | omega)) (Nat.le_of_ble_eq_true rfl) (C) ?_
  exact e_i dX6_ofSecret_9 rfl (by first | rfl | exact bi_nar _) (by first | rfl | simp [bi, *]) rfl
theorem tX6_old (C : Ci g mX5_figureOfOldVersion [vR (0, 0, 0, 0), vI a1, vI a2, vI a3] hp a h1) : Ci g mX6_old [vR (15, 0, 0, 0), vI a1, vI a2, vI a3] hp a h1 := by
  unfold Ci
  refine r_aload_n dX6_old_0 (i := 0) rfl rfl ?_
  refine r_getR dX6_old_1 f_6_12 rfl rfl rfl lv15 ?_
  refine r_iload_n dX6_old_4 (i := 1) rfl rfl ?_
  refine r_iload_n dX6_old_5 (i := 2) rfl rfl ?_
  refine r_iload_n dX6_old_6 (i := 3) rfl rfl ?_
  refine sX6_old_7 (Nat.le_refl _) (Nat.le_refl _) rfl (lv0 (by first | assumption | decide | omega)) (Nat.le_of_ble_eq_true rfl) (C) ?_
  exact e_i dX6_old_10 rfl (by first | rfl | exact bi_nar _) (by first | rfl | simp [bi, *]) rfl
theorem tX6_otherwise (C : Ci g mX5_otherPartFor [vR (0, 0, 0, 0), vI a1, vI a2, vI a3] hp a h1) : Ci g mX6_otherwise [vR (15, 0, 0, 0), vI a1, vI a2, vI a3] hp a h1 := by
  unfold Ci
  refine r_aload_n dX6_otherwise_0 (i := 0) rfl rfl ?_
  refine r_getR dX6_otherwise_1 f_6_12 rfl rfl rfl lv15 ?_
  refine r_iload_n dX6_otherwise_4 (i := 1) rfl rfl ?_
  refine r_iload_n dX6_otherwise_5 (i := 2) rfl rfl ?_
  refine r_iload_n dX6_otherwise_6 (i := 3) rfl rfl ?_
  refine sX6_otherwise_7 (Nat.le_refl _) (Nat.le_refl _) rfl (lv0 (by first | assumption | decide | omega)) (Nat.le_of_ble_eq_true rfl) (C) ?_
  exact e_i dX6_otherwise_10 rfl (by first | rfl | exact bi_nar _) (by first | rfl | simp [bi, *]) rfl
theorem tX6_passing (C : Ci g mX5_tagOffsetThatPasses [vR (0, 0, 0, 0), vI a1, vI a2, vI a3] hp a h1) : Ci g mX6_passing [vR (15, 0, 0, 0), vI a1, vI a2, vI a3] hp a h1 := by
  unfold Ci
  refine r_aload_n dX6_passing_0 (i := 0) rfl rfl ?_
  refine r_getR dX6_passing_1 f_6_12 rfl rfl rfl lv15 ?_
  refine r_iload_n dX6_passing_4 (i := 1) rfl rfl ?_
  refine r_iload_n dX6_passing_5 (i := 2) rfl rfl ?_
  refine r_iload_n dX6_passing_6 (i := 3) rfl rfl ?_
  refine sX6_passing_7 (Nat.le_refl _) (Nat.le_refl _) rfl (lv0 (by first | assumption | decide | omega)) (Nat.le_of_ble_eq_true rfl) (C) ?_
  exact e_i dX6_passing_10 rfl (by first | rfl | exact bi_nar _) (by first | rfl | simp [bi, *]) rfl
theorem tX6_passes (C : Ci g mX5_offsetsThatPass [vR (0, 0, 0, 0), vI a1, vI a2, vI a3] hp a h1) : Ci g mX6_passes [vR (15, 0, 0, 0), vI a1, vI a2, vI a3] hp a h1 := by
  unfold Ci
  refine r_aload_n dX6_passes_0 (i := 0) rfl rfl ?_
  refine r_getR dX6_passes_1 f_6_12 rfl rfl rfl lv15 ?_
  refine r_iload_n dX6_passes_4 (i := 1) rfl rfl ?_
  refine r_iload_n dX6_passes_5 (i := 2) rfl rfl ?_
  refine r_iload_n dX6_passes_6 (i := 3) rfl rfl ?_
  refine sX6_passes_7 (Nat.le_refl _) (Nat.le_refl _) rfl (lv0 (by first | assumption | decide | omega)) (Nat.le_of_ble_eq_true rfl) (C) ?_
  exact e_i dX6_passes_10 rfl (by first | rfl | exact bi_nar _) (by first | rfl | simp [bi, *]) rfl
theorem tX6_needed (C : Ci g mX5_partsNeeded [vR (0, 0, 0, 0), vI a1] hp a h1) : Ci g mX6_needed [vR (15, 0, 0, 0), vI a1] hp a h1 := by
  unfold Ci
  refine r_aload_n dX6_needed_0 (i := 0) rfl rfl ?_
  refine r_getR dX6_needed_1 f_6_12 rfl rfl rfl lv15 ?_
  refine r_iload_n dX6_needed_4 (i := 1) rfl rfl ?_
  refine sX6_needed_5 (Nat.le_refl _) (Nat.le_refl _) rfl (lv0 (by first | assumption | decide | omega)) (Nat.le_of_ble_eq_true rfl) (C) ?_
  exact e_i dX6_needed_8 rfl (by first | rfl | exact bi_nar _) (by first | rfl | simp [bi, *]) rfl
theorem tX6_atRisk (C : Ci g mX5_versionsAtRisk [vR (0, 0, 0, 0), vI a1] hp a h1) : Ci g mX6_atRisk [vR (15, 0, 0, 0), vI a1] hp a h1 := by
  unfold Ci
  refine r_aload_n dX6_atRisk_0 (i := 0) rfl rfl ?_
  refine r_getR dX6_atRisk_1 f_6_12 rfl rfl rfl lv15 ?_
  refine r_iload_n dX6_atRisk_4 (i := 1) rfl rfl ?_
  refine sX6_atRisk_5 (Nat.le_refl _) (Nat.le_refl _) rfl (lv0 (by first | assumption | decide | omega)) (Nat.le_of_ble_eq_true rfl) (C) ?_
  exact e_i dX6_atRisk_8 rfl (by first | rfl | exact bi_nar _) (by first | rfl | simp [bi, *]) rfl
theorem tX6_ifMerged (C : Ci g mX5_answerOfMerger [vR (0, 0, 0, 0), vI a1] hp a h1) : Ci g mX6_ifMerged [vR (15, 0, 0, 0), vI a1] hp a h1 := by
  unfold Ci
  refine r_aload_n dX6_ifMerged_0 (i := 0) rfl rfl ?_
  refine r_getR dX6_ifMerged_1 f_6_12 rfl rfl rfl lv15 ?_
  refine r_iload_n dX6_ifMerged_4 (i := 1) rfl rfl ?_
  refine sX6_ifMerged_5 (Nat.le_refl _) (Nat.le_refl _) rfl (lv0 (by first | assumption | decide | omega)) (Nat.le_of_ble_eq_true rfl) (C) ?_
  exact e_i dX6_ifMerged_8 rfl (by first | rfl | exact bi_nar _) (by first | rfl | simp [bi, *]) rfl
theorem tX6_count_p {w : Int32} (hw : w = 14) : Ci g mX6_count [vR (15, 0, 0, 0), vI w] hp (hp (12, 0, 0, 0) 1) hp := by
  subst hw
  unfold Ci
  refine r_iload_n dX6_count_0 (i := 1) rfl rfl ?_
  refine r_bipush dX6_count_1 (v := 14) rfl ?_
  refine r_icmp_ne dX6_count_3 (tgt := 14) rfl (fun h3 => absurd (rfl) h3) (fun _ => ?_)
  refine r_aload_n dX6_count_6 (i := 0) rfl rfl ?_
  refine r_getR dX6_count_7 f_6_34 rfl rfl rfl lv15 ?_
  refine r_getI dX6_count_10 f_6_97 rfl rfl lv12 ?_
  exact e_i dX6_count_13 rfl (by first | rfl | exact bi_nar _) (by first | rfl | simp [bi, *]) rfl
theorem tX6_count_u {w : Int32} (hw : w = 15) : Ci g mX6_count [vR (15, 0, 0, 0), vI w] hp (hp (8, 0, 0, 0) 2) hp := by
  subst hw
  unfold Ci
  refine r_iload_n dX6_count_0 (i := 1) rfl rfl ?_
  refine r_bipush dX6_count_1 (v := 14) rfl ?_
  refine r_icmp_ne dX6_count_3 (tgt := 14) rfl (fun _ => ?_) (fun h3 => absurd h3 ((by decide)))
  refine r_iload_n dX6_count_14 (i := 1) rfl rfl ?_
  refine r_bipush dX6_count_15 (v := 15) rfl ?_
  refine r_icmp_ne dX6_count_17 (tgt := 28) rfl (fun h17 => absurd (rfl) h17) (fun _ => ?_)
  refine r_aload_n dX6_count_20 (i := 0) rfl rfl ?_
  refine r_getR dX6_count_21 f_6_19 rfl rfl rfl lv15 ?_
  refine r_getI dX6_count_24 f_6_101 rfl rfl lv8 ?_
  exact e_i dX6_count_27 rfl (by first | rfl | exact bi_nar _) (by first | rfl | simp [bi, *]) rfl
theorem tX6_count {w : Int32} (h14 : ¬ w = 14) (h15 : ¬ w = 15) (C : Ci g mX5_figure [vR (0, 0, 0, 0), vI w] hp a h1) : Ci g mX6_count [vR (15, 0, 0, 0), vI w] hp a h1 := by
  unfold Ci
  refine r_iload_n dX6_count_0 (i := 1) rfl rfl ?_
  refine r_bipush dX6_count_1 (v := 14) rfl ?_
  refine r_icmp_ne dX6_count_3 (tgt := 14) rfl (fun _ => ?_) (fun h3 => absurd h3 (h14))
  refine r_iload_n dX6_count_14 (i := 1) rfl rfl ?_
  refine r_bipush dX6_count_15 (v := 15) rfl ?_
  refine r_icmp_ne dX6_count_17 (tgt := 28) rfl (fun _ => ?_) (fun h17 => absurd h17 (h15))
  refine r_aload_n dX6_count_28 (i := 0) rfl rfl ?_
  refine r_getR dX6_count_29 f_6_12 rfl rfl rfl lv15 ?_
  refine r_iload_n dX6_count_32 (i := 1) rfl rfl ?_
  refine sX6_count_33 (Nat.le_refl _) (Nat.le_refl _) rfl (lv0 (by first | assumption | decide | omega)) (Nat.le_of_ble_eq_true rfl) (C) ?_
  exact e_i dX6_count_36 rfl (by first | rfl | exact bi_nar _) (by first | rfl | simp [bi, *]) rfl
theorem tX6_undo_e (hH : HN hp o 0) : Ci g mX6_undo [vR (15, 0, 0, 0)] hp (-5) hp := by
  unfold Ci
  refine r_aload_n dX6_undo_0 (i := 0) rfl rfl ?_
  refine r_getR dX6_undo_1 f_6_19 rfl rfl rfl lv15 ?_
  refine r_aload_n dX6_undo_4 (i := 0) rfl rfl ?_
  refine r_getR dX6_undo_5 f_6_12 rfl rfl rfl lv15 ?_
  refine sX6_undo_8 (Nat.le_refl _) (Nat.le_refl _) rfl lv8 (Nat.le_of_ble_eq_true rfl) (tX1_takesBack_e hH) ?_
  refine r_if_eq dX6_undo_11 (tgt := 24) rfl (fun _ => ?_) (fun h11 => absurd (rfl) h11)
  refine r_bipush dX6_undo_24 (v := (-5)) rfl ?_
  exact e_i dX6_undo_26 rfl (by first | rfl | exact bi_nar _) (by first | rfl | simp [bi, *]) rfl
theorem tX6_undo (hH : HN hp o (z + 1)) (hW : WT hp) : Ci g mX6_undo [vR (15, 0, 0, 0)] hp (nI z) (CPS (hset hp (8, 0, 0, 0) 2 (nI z)) 0 (hrow o z + 1)) := by
  unfold Ci
  refine r_aload_n dX6_undo_0 (i := 0) rfl rfl ?_
  refine r_getR dX6_undo_1 f_6_19 rfl rfl rfl lv15 ?_
  refine r_aload_n dX6_undo_4 (i := 0) rfl rfl ?_
  refine r_getR dX6_undo_5 f_6_12 rfl rfl rfl lv15 ?_
  refine sX6_undo_8 (Nat.le_refl _) (Nat.le_refl _) rfl lv8 (Nat.le_of_ble_eq_true rfl) (tX1_takesBack hH hW) ?_
  refine r_if_eq dX6_undo_11 (tgt := 24) rfl (fun h11 => absurd h11 ((by decide))) (fun _ => ?_)
  refine r_aload_n dX6_undo_14 (i := 0) rfl rfl ?_
  refine r_getR dX6_undo_15 f_6_19 rfl rfl rfl lv15 ?_
  refine r_getI dX6_undo_18 f_6_101 rfl rfl lv8 ?_
  refine r_goto dX6_undo_21 (tgt := 26) rfl ?_
  exact e_i dX6_undo_26 rfl (by first | rfl | exact bi_nar _) (by rw [CPS_off (Or.inr (by decide)), hs_eq]) rfl
theorem fSt_nI {b : Nat} (hb : b < 2) : fSt (nI b) = true := by
  match b, hb with
  | 0, _ => decide
  | 1, _ => decide
def rsH (hp : HPt) (o z b : Nat) : HPt := CPS (CPS hp (hrow o z + 1) 0) 0 (b + 8)
end CH
