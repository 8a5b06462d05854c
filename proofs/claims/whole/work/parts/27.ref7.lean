theorem tX7_undo_e {g : Gh} {hp : HPt} (hZ : hp (16, 0, 0, 0) 2 = nI 0) : Ci g mX7_undo [vR (16, 0, 0, 0)] hp (-5) hp := by
  unfold Ci
  refine r_aload_n dX7_undo_0 (i := 0) rfl rfl ?_
  refine r_getI dX7_undo_1 f_7_44 rfl rfl lv16 ?_
  refine r_if_ne dX7_undo_4 (tgt := 10) rfl (fun h4 => absurd (hZ) h4) (fun _ => ?_)
  refine r_bipush dX7_undo_7 (v := (-5)) rfl ?_
  exact e_i dX7_undo_9 rfl (by first | rfl | exact bi_nar _) (by first | rfl | simp [bi, *]) rfl
def ruA (hp : HPt) (z : Nat) : HPt := hset hp (16, 0, 0, 0) 2 (nI z)
def RU (hp : HPt) (z : Nat) : HPt := cpK (ruA hp z) (17, 0, 0, 0) 0 (18, 0, 0, 0) (292 * z) 292
theorem tX7_undo {g : Gh} {z : Nat} {hp : HPt} (hz : z < 6) (hZ : hp (16, 0, 0, 0) 2 = nI (z + 1)) : Ci g mX7_undo [vR (16, 0, 0, 0)] hp (nI z) (RU hp z) := by
  have e0 : (292 : Int32) * nI z = nI (292 * z) := pk_mul 292 z
  have e1 : ∀ r, cpK (ruA hp z) (17, 0, 0, 0) 0 (18, 0, 0, 0) (292 * z) r (16, 0, 0, 0) 2 = nI z := fun r => by rw [cpK_off (Or.inl (by decide))]; exact hs_eq
  have key : ∀ k r, r + k = 292 → V g mX7_undo 0 0 0 0 616 22 [some (vR (16, 0, 0, 0)), some (vI (nI r))] [] RP (cpK (ruA hp z) (17, 0, 0, 0) 0 (18, 0, 0, 0) (292 * z) r) (Pi (nI z) (RU hp z)) := by
    intro k
    induction k with
    | zero =>
      intro r hr
      have hr : r = 292 := by omega
      subst hr
      refine r_iload_n dX7_undo_22 (i := 1) rfl rfl ?_
      refine r_sipush dX7_undo_23 (v := 292) rfl ?_
      refine r_icmp_ge dX7_undo_26 (tgt := 56) rfl (fun _ => ?_) (fun h26 => absurd ((by decide : (292 : Int32) ≤ nI 292)) h26)
      refine r_aload_n dX7_undo_56 (i := 0) rfl rfl ?_
      refine r_getI dX7_undo_57 f_7_44 rfl rfl lv16 ?_
      exact e_i dX7_undo_60 rfl rfl (e1 _) rfl
    | succ k ih =>
      intro r hr
      have hr2 : r < 292 := by omega
      have h := ih (r + 1) (by omega)
      rw [nI_succ] at h
      have e := cpK_set (hp := ruA hp z) (d := (17, 0, 0, 0)) (s := (18, 0, 0, 0)) (dO := 0) (sO := 292 * z) (n := r) (Or.inl (by decide))
      rw [Nat.zero_add] at e
      refine r_iload_n dX7_undo_22 (i := 1) rfl rfl ?_
      refine r_sipush dX7_undo_23 (v := 292) rfl ?_
      refine r_icmp_ge dX7_undo_26 (tgt := 56) rfl (fun h26 => absurd h26 ((nI_ge (b := 292) hr2 (by decide) : ¬ (292 : Int32) ≤ nI r))) (fun _ => ?_)
      refine r_aload_n dX7_undo_29 (i := 0) rfl rfl ?_
      refine r_getR dX7_undo_30 f_7_7 rfl rfl rfl lv16 ?_
      refine r_iload_n dX7_undo_33 (i := 1) rfl rfl ?_
      refine r_aload_n dX7_undo_34 (i := 0) rfl rfl ?_
      refine r_getR dX7_undo_35 f_7_13 rfl rfl rfl lv16 ?_
      refine r_sipush dX7_undo_38 (v := 292) rfl ?_
      refine r_aload_n dX7_undo_41 (i := 0) rfl rfl ?_
      refine r_getI dX7_undo_42 f_7_44 rfl rfl lv16 ?_
      refine r_imul dX7_undo_45 ?_
      refine r_iload_n dX7_undo_46 (i := 1) rfl rfl ?_
      refine r_iadd dX7_undo_47 ?_
      refine n_iald dX7_undo_48 rfl lv18 (k := 292 * z + r) (by rw [e1, e0, nI_add]) (by omega) ?_
      refine n_iast dX7_undo_49 rfl lv17 rfl (by first | assumption | omega | (unfold cI; omega)) ?_
      refine V.eqH e ?_
      refine r_inc1 dX7_undo_50 rfl (Nat.le_of_ble_eq_true rfl) rfl ?_
      refine r_goto dX7_undo_53 (tgt := 22) rfl ?_
      exact h
  unfold Ci
  have hne : ¬ hp (16, 0, 0, 0) 2 = 0 := by rw [hZ]; exact nI_ne0 (by omega) (by omega)
  have h := key 292 0 rfl
  rw [cpK_0] at h
  refine r_aload_n dX7_undo_0 (i := 0) rfl rfl ?_
  refine r_getI dX7_undo_1 f_7_44 rfl rfl lv16 ?_
  refine r_if_ne dX7_undo_4 (tgt := 10) rfl (fun _ => ?_) (fun h4 => absurd h4 (hne))
  refine r_aload_n dX7_undo_10 (i := 0) rfl rfl ?_
  refine r_dup dX7_undo_11 rfl ?_
  refine r_getI dX7_undo_12 f_7_44 rfl rfl lv16 ?_
  refine r_iconst dX7_undo_15 (v := 1) rfl ?_
  refine r_isub dX7_undo_16 ?_
  refine r_putI dX7_undo_17 f_7_44 rfl rfl lv16 ⟨rfl, rfl⟩ ?_
  refine V.eqH (hp2 := ruA hp z) (by unfold ruA; rw [hZ, nI_pred]) ?_
  refine r_iconst dX7_undo_20 (v := 0) rfl ?_
  refine r_istore_n dX7_undo_21 (i := 1) rfl (Nat.le_of_ble_eq_true rfl) rfl rfl ?_
  exact h
theorem tX7_save_e {g : Gh} {x : Int32} {hp : HPt} (hx : fIn x 0 1 = false) : Ci g mX7_save [vR (16, 0, 0, 0), vI x] hp (-2) hp := by
  unfold Ci
  refine r_iload_n dX7_save_0 (i := 1) rfl rfl ?_
  refine r_iconst dX7_save_1 (v := 0) rfl ?_
  refine r_iconst dX7_save_2 (v := 1) rfl ?_
  refine sX7_save_3 (Nat.le_refl _) (Nat.le_refl _) (Nat.le_of_ble_eq_true rfl) (tX7_in) ?_
  refine r_if_ne dX7_save_6 (tgt := 12) rfl (fun h6 => absurd (bi_0.mpr hx) h6) (fun _ => ?_)
  refine r_bipush dX7_save_9 (v := (-2)) rfl ?_
  exact e_i dX7_save_11 rfl (by first | rfl | exact bi_nar _) (by first | rfl | simp [bi, *]) rfl
def RSv (hp : HPt) (b : Nat) : HPt := hset (cpK hp (19, 0, 0, 0) (292 * b) (17, 0, 0, 0) 0 292) (20, 0, 0, 0) b 1
theorem tX7_save {g : Gh} {b : Nat} {hp : HPt} (hb : b < 2) : Ci g mX7_save [vR (16, 0, 0, 0), vI (nI b)] hp (hp (17, 0, 0, 0) 5) (RSv hp b) := by
  have e0 : (292 : Int32) * nI b = nI (292 * b) := pk_mul 292 b
  have key : ∀ k r, r + k = 292 → V g mX7_save 0 0 0 0 616 14 [some (vR (16, 0, 0, 0)), some (vI (nI b)), some (vI (nI r))] [] RP (cpK hp (19, 0, 0, 0) (292 * b) (17, 0, 0, 0) 0 r) (Pi (hp (17, 0, 0, 0) 5) (RSv hp b)) := by
    intro k
    induction k with
    | zero =>
      intro r hr
      have hr : r = 292 := by omega
      subst hr
      refine r_iload_n dX7_save_14 (i := 2) rfl rfl ?_
      refine r_sipush dX7_save_15 (v := 292) rfl ?_
      refine r_icmp_ge dX7_save_18 (tgt := 45) rfl (fun _ => ?_) (fun h18 => absurd ((by decide : (292 : Int32) ≤ nI 292)) h18)
      refine r_aload_n dX7_save_45 (i := 0) rfl rfl ?_
      refine r_getR dX7_save_46 f_7_19 rfl rfl rfl lv16 ?_
      refine r_iload_n dX7_save_49 (i := 1) rfl rfl ?_
      refine r_iconst dX7_save_50 (v := 1) rfl ?_
      refine n_zast dX7_save_51 rfl lv20 rfl (by first | assumption | omega | (unfold cI; omega)) rfl ?_
      refine r_aload_n dX7_save_52 (i := 0) rfl rfl ?_
      refine r_getR dX7_save_53 f_7_7 rfl rfl rfl lv16 ?_
      refine r_iconst dX7_save_56 (v := 5) rfl ?_
      refine n_iald dX7_save_57 rfl lv17 (k := 5) rfl (by decide) ?_
      exact e_i dX7_save_58 rfl rfl (by rw [hs_a (by decide), cpK_off (Or.inl (by decide))]) rfl
    | succ k ih =>
      intro r hr
      have hr2 : r < 292 := by omega
      have h := ih (r + 1) (by omega)
      rw [nI_succ] at h
      have e := cpK_set (hp := hp) (d := (19, 0, 0, 0)) (s := (17, 0, 0, 0)) (dO := 292 * b) (sO := 0) (n := r) (Or.inl (by decide))
      rw [Nat.zero_add] at e
      refine r_iload_n dX7_save_14 (i := 2) rfl rfl ?_
      refine r_sipush dX7_save_15 (v := 292) rfl ?_
      refine r_icmp_ge dX7_save_18 (tgt := 45) rfl (fun h18 => absurd h18 ((nI_ge (b := 292) hr2 (by decide) : ¬ (292 : Int32) ≤ nI r))) (fun _ => ?_)
      refine r_aload_n dX7_save_21 (i := 0) rfl rfl ?_
      refine r_getR dX7_save_22 f_7_16 rfl rfl rfl lv16 ?_
      refine r_sipush dX7_save_25 (v := 292) rfl ?_
      refine r_iload_n dX7_save_28 (i := 1) rfl rfl ?_
      refine r_imul dX7_save_29 ?_
      refine r_iload_n dX7_save_30 (i := 2) rfl rfl ?_
      refine r_iadd dX7_save_31 ?_
      refine r_aload_n dX7_save_32 (i := 0) rfl rfl ?_
      refine r_getR dX7_save_33 f_7_7 rfl rfl rfl lv16 ?_
      refine r_iload_n dX7_save_36 (i := 2) rfl rfl ?_
      refine n_iald dX7_save_37 rfl lv17 rfl (by first | assumption | omega | (unfold cI; omega)) ?_
      refine n_iast dX7_save_38 rfl lv19 (k := 292 * b + r) (by rw [e0, nI_add]) (by omega) ?_
      refine V.eqH e ?_
      refine r_inc1 dX7_save_39 rfl (Nat.le_of_ble_eq_true rfl) rfl ?_
      refine r_goto dX7_save_42 (tgt := 14) rfl ?_
      exact h
  unfold Ci
  have h := key 292 0 rfl
  rw [cpK_0] at h
  refine r_iload_n dX7_save_0 (i := 1) rfl rfl ?_
  refine r_iconst dX7_save_1 (v := 0) rfl ?_
  refine r_iconst dX7_save_2 (v := 1) rfl ?_
  refine sX7_save_3 (Nat.le_refl _) (Nat.le_refl _) (Nat.le_of_ble_eq_true rfl) (tX7_in) ?_
  refine r_if_ne dX7_save_6 (tgt := 12) rfl (fun _ => ?_) (fun h6 => absurd h6 (bi_n0.mpr (fIn_nI (l := 1) (by omega) (by decide))))
  refine r_iconst dX7_save_12 (v := 0) rfl ?_
  refine r_istore_n dX7_save_13 (i := 2) rfl (Nat.le_of_ble_eq_true rfl) rfl rfl ?_
  exact h
theorem tX7_restore_e {g : Gh} {x : Int32} {hp : HPt} (hx : fIn x 0 1 = false) : Ci g mX7_restore [vR (16, 0, 0, 0), vI x] hp (-2) hp := by
  unfold Ci
  refine r_iload_n dX7_restore_0 (i := 1) rfl rfl ?_
  refine r_iconst dX7_restore_1 (v := 0) rfl ?_
  refine r_iconst dX7_restore_2 (v := 1) rfl ?_
  refine sX7_restore_3 (Nat.le_refl _) (Nat.le_refl _) (Nat.le_of_ble_eq_true rfl) (tX7_in) ?_
  refine r_if_ne dX7_restore_6 (tgt := 12) rfl (fun h6 => absurd (bi_0.mpr hx) h6) (fun _ => ?_)
  refine r_bipush dX7_restore_9 (v := (-2)) rfl ?_
  exact e_i dX7_restore_11 rfl (by first | rfl | exact bi_nar _) (by first | rfl | simp [bi, *]) rfl
theorem tX7_restore_e2 {g : Gh} {b : Nat} {hp : HPt} (hb : b < 2) (hs : hp (20, 0, 0, 0) b = 0) : Ci g mX7_restore [vR (16, 0, 0, 0), vI (nI b)] hp (-5) hp := by
  unfold Ci
  refine r_iload_n dX7_restore_0 (i := 1) rfl rfl ?_
  refine r_iconst dX7_restore_1 (v := 0) rfl ?_
  refine r_iconst dX7_restore_2 (v := 1) rfl ?_
  refine sX7_restore_3 (Nat.le_refl _) (Nat.le_refl _) (Nat.le_of_ble_eq_true rfl) (tX7_in) ?_
  refine r_if_ne dX7_restore_6 (tgt := 12) rfl (fun _ => ?_) (fun h6 => absurd h6 (bi_n0.mpr (fIn_nI (l := 1) (by omega) (by decide))))
  refine r_aload_n dX7_restore_12 (i := 0) rfl rfl ?_
  refine r_getR dX7_restore_13 f_7_19 rfl rfl rfl lv16 ?_
  refine r_iload_n dX7_restore_16 (i := 1) rfl rfl ?_
  refine n_zald dX7_restore_17 rfl lv20 rfl (by first | assumption | omega | (unfold cI; omega)) ?_
  refine r_if_ne dX7_restore_18 (tgt := 24) rfl (fun h18 => absurd (hs) h18) (fun _ => ?_)
  refine r_bipush dX7_restore_21 (v := (-5)) rfl ?_
  exact e_i dX7_restore_23 rfl (by first | rfl | exact bi_nar _) (by first | rfl | simp [bi, *]) rfl
def RRs (hp : HPt) (z b : Nat) : HPt := cpK (RPu (lkH hp) z) (17, 0, 0, 0) 0 (19, 0, 0, 0) (292 * b) 292
theorem tX7_restore {g : Gh} {b z : Nat} {hp : HPt} (hb : b < 2) (hs : ¬ hp (20, 0, 0, 0) b = 0) (hz : z ≤ 6) (hZ : hp (16, 0, 0, 0) 2 = nI z) : Ci g mX7_restore [vR (16, 0, 0, 0), vI (nI b)] hp (RRs hp z b (17, 0, 0, 0) 5) (RRs hp z b) := by
  have e0 : (292 : Int32) * nI b = nI (292 * b) := pk_mul 292 b
  have key : ∀ k r, r + k = 292 → V g mX7_restore 0 0 0 0 616 30 [some (vR (16, 0, 0, 0)), some (vI (nI b)), some (vI (nI r))] [] RP (cpK (RPu (lkH hp) z) (17, 0, 0, 0) 0 (19, 0, 0, 0) (292 * b) r) (Pi (RRs hp z b (17, 0, 0, 0) 5) (RRs hp z b)) := by
    intro k
    induction k with
    | zero =>
      intro r hr
      have hr : r = 292 := by omega
      subst hr
      refine r_iload_n dX7_restore_30 (i := 2) rfl rfl ?_
      refine r_sipush dX7_restore_31 (v := 292) rfl ?_
      refine r_icmp_ge dX7_restore_34 (tgt := 61) rfl (fun _ => ?_) (fun h34 => absurd ((by decide : (292 : Int32) ≤ nI 292)) h34)
      refine r_aload_n dX7_restore_61 (i := 0) rfl rfl ?_
      refine r_getR dX7_restore_62 f_7_7 rfl rfl rfl lv16 ?_
      refine r_iconst dX7_restore_65 (v := 5) rfl ?_
      refine n_iald dX7_restore_66 rfl lv17 (k := 5) rfl (by decide) ?_
      exact e_i dX7_restore_67 rfl (by first | rfl | exact bi_nar _) (by first | rfl | simp [bi, *]) rfl
    | succ k ih =>
      intro r hr
      have hr2 : r < 292 := by omega
      have h := ih (r + 1) (by omega)
      rw [nI_succ] at h
      have e := cpK_set (hp := RPu (lkH hp) z) (d := (17, 0, 0, 0)) (s := (19, 0, 0, 0)) (dO := 0) (sO := 292 * b) (n := r) (Or.inl (by decide))
      rw [Nat.zero_add] at e
      refine r_iload_n dX7_restore_30 (i := 2) rfl rfl ?_
      refine r_sipush dX7_restore_31 (v := 292) rfl ?_
      refine r_icmp_ge dX7_restore_34 (tgt := 61) rfl (fun h34 => absurd h34 ((nI_ge (b := 292) hr2 (by decide) : ¬ (292 : Int32) ≤ nI r))) (fun _ => ?_)
      refine r_aload_n dX7_restore_37 (i := 0) rfl rfl ?_
      refine r_getR dX7_restore_38 f_7_7 rfl rfl rfl lv16 ?_
      refine r_iload_n dX7_restore_41 (i := 2) rfl rfl ?_
      refine r_aload_n dX7_restore_42 (i := 0) rfl rfl ?_
      refine r_getR dX7_restore_43 f_7_16 rfl rfl rfl lv16 ?_
      refine r_sipush dX7_restore_46 (v := 292) rfl ?_
      refine r_iload_n dX7_restore_49 (i := 1) rfl rfl ?_
      refine r_imul dX7_restore_50 ?_
      refine r_iload_n dX7_restore_51 (i := 2) rfl rfl ?_
      refine r_iadd dX7_restore_52 ?_
      refine n_iald dX7_restore_53 rfl lv19 (k := 292 * b + r) (by rw [e0, nI_add]) (by omega) ?_
      refine n_iast dX7_restore_54 rfl lv17 rfl (by first | assumption | omega | (unfold cI; omega)) ?_
      refine V.eqH e ?_
      refine r_inc1 dX7_restore_55 rfl (Nat.le_of_ble_eq_true rfl) rfl ?_
      refine r_goto dX7_restore_58 (tgt := 30) rfl ?_
      exact h
  unfold Ci
  have h := key 292 0 rfl
  rw [cpK_0] at h
  refine r_iload_n dX7_restore_0 (i := 1) rfl rfl ?_
  refine r_iconst dX7_restore_1 (v := 0) rfl ?_
  refine r_iconst dX7_restore_2 (v := 1) rfl ?_
  refine sX7_restore_3 (Nat.le_refl _) (Nat.le_refl _) (Nat.le_of_ble_eq_true rfl) (tX7_in) ?_
  refine r_if_ne dX7_restore_6 (tgt := 12) rfl (fun _ => ?_) (fun h6 => absurd h6 (bi_n0.mpr (fIn_nI (l := 1) (by omega) (by decide))))
  refine r_aload_n dX7_restore_12 (i := 0) rfl rfl ?_
  refine r_getR dX7_restore_13 f_7_19 rfl rfl rfl lv16 ?_
  refine r_iload_n dX7_restore_16 (i := 1) rfl rfl ?_
  refine n_zald dX7_restore_17 rfl lv20 rfl (by first | assumption | omega | (unfold cI; omega)) ?_
  refine r_if_ne dX7_restore_18 (tgt := 24) rfl (fun _ => ?_) (fun h18 => absurd h18 (hs))
  refine r_aload_n dX7_restore_24 (i := 0) rfl rfl ?_
  refine sX7_restore_25 (Nat.le_refl _) (Nat.le_refl _) rfl lv16 (Nat.le_of_ble_eq_true rfl) (tX7_record hz hZ) ?_
  refine r_iconst dX7_restore_28 (v := 0) rfl ?_
  refine r_istore_n dX7_restore_29 (i := 2) rfl (Nat.le_of_ble_eq_true rfl) rfl rfl ?_
  exact h
