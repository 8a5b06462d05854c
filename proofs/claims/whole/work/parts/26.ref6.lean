/-- k beats of the reference, with n secrets -/
def rbt (hp : HPt) (n : Nat) : Nat → HPt
  | 0 => hp
  | k + 1 => RPB (rbt hp n k) n
theorem RI.rbts {hp : HPt} {n : Nat} (h : RI hp n) : ∀ k, RI (rbt hp n k) n
  | 0 => h
  | k + 1 => (RI.rbts h k).bt
theorem tX7_passes_e {g : Gh} {x : Int32} {hp : HPt} (hx : fIn x 1 99 = false) : Ci g mX7_passes [vR (16, 0, 0, 0), vI x] hp (-2) hp := by
  unfold Ci
  refine r_iload_n dX7_passes_0 (i := 1) rfl rfl ?_
  refine r_iconst dX7_passes_1 (v := 1) rfl ?_
  refine r_bipush dX7_passes_2 (v := 99) rfl ?_
  refine sX7_passes_4 (Nat.le_refl _) (Nat.le_refl _) (Nat.le_of_ble_eq_true rfl) (tX7_in) ?_
  refine r_if_ne dX7_passes_7 (tgt := 13) rfl (fun h7 => absurd (bi_0.mpr hx) h7) (fun _ => ?_)
  refine r_bipush dX7_passes_10 (v := (-2)) rfl ?_
  exact e_i dX7_passes_12 rfl (by first | rfl | exact bi_nar _) (by first | rfl | simp [bi, *]) rfl
theorem tX7_passes_e2 {g : Gh} {x : Int32} {hp : HPt} (hx : fIn x 1 99 = true) (hb : ¬ hp (17, 0, 0, 0) 4 + x ≤ 9999) : Ci g mX7_passes [vR (16, 0, 0, 0), vI x] hp (-5) hp := by
  unfold Ci
  refine r_iload_n dX7_passes_0 (i := 1) rfl rfl ?_
  refine r_iconst dX7_passes_1 (v := 1) rfl ?_
  refine r_bipush dX7_passes_2 (v := 99) rfl ?_
  refine sX7_passes_4 (Nat.le_refl _) (Nat.le_refl _) (Nat.le_of_ble_eq_true rfl) (tX7_in) ?_
  refine r_if_ne dX7_passes_7 (tgt := 13) rfl (fun _ => ?_) (fun h7 => absurd h7 (bi_n0.mpr hx))
  refine r_aload_n dX7_passes_13 (i := 0) rfl rfl ?_
  refine r_getR dX7_passes_14 f_7_7 rfl rfl rfl lv16 ?_
  refine r_iconst dX7_passes_17 (v := 4) rfl ?_
  refine n_iald dX7_passes_18 rfl lv17 (k := 4) rfl (by decide) ?_
  refine r_iload_n dX7_passes_19 (i := 1) rfl rfl ?_
  refine r_iadd dX7_passes_20 ?_
  refine r_sipush dX7_passes_21 (v := 9999) rfl ?_
  refine r_icmp_le dX7_passes_24 (tgt := 30) rfl (fun h24 => absurd h24 (hb)) (fun _ => ?_)
  refine r_bipush dX7_passes_27 (v := (-5)) rfl ?_
  exact e_i dX7_passes_29 rfl (by first | rfl | exact bi_nar _) (by first | rfl | simp [bi, *]) rfl
theorem tX7_passes {g : Gh} {n q : Nat} {hp : HPt} (hI : RI hp n) (hq : q < 2 ^ 31) (hx : fIn (nI q) 1 99 = true) (hb : hp (17, 0, 0, 0) 4 + nI q ≤ 9999) : Ci g mX7_passes [vR (16, 0, 0, 0), vI (nI q)] hp (rbt hp n q (17, 0, 0, 0) 8 - hp (17, 0, 0, 0) 8) (rbt hp n q) := by
  have key : ∀ k r, r + k = q → V g mX7_passes 0 0 0 0 616 40 [some (vR (16, 0, 0, 0)), some (vI (nI q)), some (vI (hp (17, 0, 0, 0) 8)), some (vI (nI r))] [] RP (rbt hp n r) (Pi (rbt hp n q (17, 0, 0, 0) 8 - hp (17, 0, 0, 0) 8) (rbt hp n q)) := by
    intro k
    induction k with
    | zero =>
      intro r hr
      have hr : r = q := by omega
      subst hr
      refine r_iload_n dX7_passes_40 (i := 3) rfl rfl ?_
      refine r_iload_n dX7_passes_41 (i := 1) rfl rfl ?_
      refine r_icmp_ge dX7_passes_42 (tgt := 55) rfl (fun _ => ?_) (fun h42 => absurd (Int32.le_refl _) h42)
      refine r_aload_n dX7_passes_55 (i := 0) rfl rfl ?_
      refine r_getR dX7_passes_56 f_7_7 rfl rfl rfl lv16 ?_
      refine r_bipush dX7_passes_59 (v := 8) rfl ?_
      refine n_iald dX7_passes_61 rfl lv17 (k := 8) rfl (by decide) ?_
      refine r_iload_n dX7_passes_62 (i := 2) rfl rfl ?_
      refine r_isub dX7_passes_63 ?_
      exact e_i dX7_passes_64 rfl (by first | rfl | exact bi_nar _) (by first | rfl | simp [bi, *]) rfl
    | succ k ih =>
      intro r hr
      have h := ih (r + 1) (by omega)
      rw [nI_succ] at h
      refine r_iload_n dX7_passes_40 (i := 3) rfl rfl ?_
      refine r_iload_n dX7_passes_41 (i := 1) rfl rfl ?_
      refine r_icmp_ge dX7_passes_42 (tgt := 55) rfl (fun h42 => absurd h42 (nI_ge (by omega) hq)) (fun _ => ?_)
      refine r_aload_n dX7_passes_45 (i := 0) rfl rfl ?_
      refine sX7_passes_46 (Nat.le_refl _) (Nat.le_refl _) rfl lv16 (Nat.le_of_ble_eq_true rfl) (tX7_beat (hI.rbts r)) ?_
      refine r_inc1 dX7_passes_49 rfl (Nat.le_of_ble_eq_true rfl) rfl ?_
      refine r_goto dX7_passes_52 (tgt := 40) rfl ?_
      exact h
  unfold Ci
  refine r_iload_n dX7_passes_0 (i := 1) rfl rfl ?_
  refine r_iconst dX7_passes_1 (v := 1) rfl ?_
  refine r_bipush dX7_passes_2 (v := 99) rfl ?_
  refine sX7_passes_4 (Nat.le_refl _) (Nat.le_refl _) (Nat.le_of_ble_eq_true rfl) (tX7_in) ?_
  refine r_if_ne dX7_passes_7 (tgt := 13) rfl (fun _ => ?_) (fun h7 => absurd h7 (bi_n0.mpr hx))
  refine r_aload_n dX7_passes_13 (i := 0) rfl rfl ?_
  refine r_getR dX7_passes_14 f_7_7 rfl rfl rfl lv16 ?_
  refine r_iconst dX7_passes_17 (v := 4) rfl ?_
  refine n_iald dX7_passes_18 rfl lv17 (k := 4) rfl (by decide) ?_
  refine r_iload_n dX7_passes_19 (i := 1) rfl rfl ?_
  refine r_iadd dX7_passes_20 ?_
  refine r_sipush dX7_passes_21 (v := 9999) rfl ?_
  refine r_icmp_le dX7_passes_24 (tgt := 30) rfl (fun _ => ?_) (fun h24 => absurd (hb) h24)
  refine r_aload_n dX7_passes_30 (i := 0) rfl rfl ?_
  refine r_getR dX7_passes_31 f_7_7 rfl rfl rfl lv16 ?_
  refine r_bipush dX7_passes_34 (v := 8) rfl ?_
  refine n_iald dX7_passes_36 rfl lv17 (k := 8) rfl (by decide) ?_
  refine r_istore_n dX7_passes_37 (i := 2) rfl (Nat.le_of_ble_eq_true rfl) rfl rfl ?_
  refine r_iconst dX7_passes_38 (v := 0) rfl ?_
  refine r_istore_n dX7_passes_39 (i := 3) rfl (Nat.le_of_ble_eq_true rfl) rfl rfl ?_
  exact key q 0 (by omega)
def rSet (x v : Int32) : Bool := if x = 0 then fIn v 1 20 else if x = 1 then fIn v 0 99 else (decide (x = 2) && fIn v 0 4)
theorem tX7_set_e {g : Gh} {x v : Int32} {hp : HPt} (hx : rSet x v = false) : Ci g mX7_set [vR (16, 0, 0, 0), vI x, vI v] hp (-2) hp := by
  unfold Ci
  refine r_iload_n dX7_set_0 (i := 1) rfl rfl ?_
  refine r_if_ne dX7_set_1 (tgt := 14) rfl (fun h1 => ?_) (fun h1 => ?_)
  · refine r_iload_n dX7_set_14 (i := 1) rfl rfl ?_
    refine r_iconst dX7_set_15 (v := 1) rfl ?_
    refine r_icmp_ne dX7_set_16 (tgt := 29) rfl (fun h16 => ?_) (fun h16 => ?_)
    · refine r_iload_n dX7_set_29 (i := 1) rfl rfl ?_
      refine r_iconst dX7_set_30 (v := 2) rfl ?_
      refine r_icmp_ne dX7_set_31 (tgt := 47) rfl (fun h31 => ?_) (fun h31 => ?_)
      · refine r_iconst dX7_set_47 (v := 0) rfl ?_
        refine r_istore_n dX7_set_48 (i := 3) rfl (Nat.le_of_ble_eq_true rfl) rfl rfl ?_
        refine r_iload_n dX7_set_49 (i := 3) rfl rfl ?_
        refine r_if_ne dX7_set_50 (tgt := 56) rfl (fun h50 => ?_) (fun h50 => ?_)
        · exfalso
          simp_all [rSet, bi_0, bi_n0]
        · refine r_bipush dX7_set_53 (v := (-2)) rfl ?_
          exact e_i dX7_set_55 rfl (by first | rfl | exact bi_nar _) (by first | rfl | simp [bi, *]) rfl
      · refine r_iload_n dX7_set_34 (i := 2) rfl rfl ?_
        refine r_iconst dX7_set_35 (v := 0) rfl ?_
        refine r_iconst dX7_set_36 (v := 4) rfl ?_
        refine sX7_set_37 (Nat.le_refl _) (Nat.le_refl _) (Nat.le_of_ble_eq_true rfl) (tX7_in) ?_
        refine r_if_eq dX7_set_40 (tgt := 47) rfl (fun h40 => ?_) (fun h40 => ?_)
        · refine r_iconst dX7_set_47 (v := 0) rfl ?_
          refine r_istore_n dX7_set_48 (i := 3) rfl (Nat.le_of_ble_eq_true rfl) rfl rfl ?_
          refine r_iload_n dX7_set_49 (i := 3) rfl rfl ?_
          refine r_if_ne dX7_set_50 (tgt := 56) rfl (fun h50 => ?_) (fun h50 => ?_)
          · exfalso
            simp_all [rSet, bi_0, bi_n0]
          · refine r_bipush dX7_set_53 (v := (-2)) rfl ?_
            exact e_i dX7_set_55 rfl (by first | rfl | exact bi_nar _) (by first | rfl | simp [bi, *]) rfl
        · refine r_iconst dX7_set_43 (v := 1) rfl ?_
          refine r_goto dX7_set_44 (tgt := 48) rfl ?_
          refine r_istore_n dX7_set_48 (i := 3) rfl (Nat.le_of_ble_eq_true rfl) rfl rfl ?_
          refine r_iload_n dX7_set_49 (i := 3) rfl rfl ?_
          refine r_if_ne dX7_set_50 (tgt := 56) rfl (fun h50 => ?_) (fun h50 => ?_)
          · exfalso
            simp_all [rSet, bi_0, bi_n0]
          · refine r_bipush dX7_set_53 (v := (-2)) rfl ?_
            exact e_i dX7_set_55 rfl (by first | rfl | exact bi_nar _) (by first | rfl | simp [bi, *]) rfl
    · refine r_iload_n dX7_set_19 (i := 2) rfl rfl ?_
      refine r_iconst dX7_set_20 (v := 0) rfl ?_
      refine r_bipush dX7_set_21 (v := 99) rfl ?_
      refine sX7_set_23 (Nat.le_refl _) (Nat.le_refl _) (Nat.le_of_ble_eq_true rfl) (tX7_in) ?_
      refine r_goto dX7_set_26 (tgt := 48) rfl ?_
      refine r_istore_n dX7_set_48 (i := 3) rfl (Nat.le_of_ble_eq_true rfl) rfl rfl ?_
      refine r_iload_n dX7_set_49 (i := 3) rfl rfl ?_
      refine r_if_ne dX7_set_50 (tgt := 56) rfl (fun h50 => ?_) (fun h50 => ?_)
      · exfalso
        simp_all [rSet, bi_0, bi_n0]
      · refine r_bipush dX7_set_53 (v := (-2)) rfl ?_
        exact e_i dX7_set_55 rfl (by first | rfl | exact bi_nar _) (by first | rfl | simp [bi, *]) rfl
  · refine r_iload_n dX7_set_4 (i := 2) rfl rfl ?_
    refine r_iconst dX7_set_5 (v := 1) rfl ?_
    refine r_bipush dX7_set_6 (v := 20) rfl ?_
    refine sX7_set_8 (Nat.le_refl _) (Nat.le_refl _) (Nat.le_of_ble_eq_true rfl) (tX7_in) ?_
    refine r_goto dX7_set_11 (tgt := 48) rfl ?_
    refine r_istore_n dX7_set_48 (i := 3) rfl (Nat.le_of_ble_eq_true rfl) rfl rfl ?_
    refine r_iload_n dX7_set_49 (i := 3) rfl rfl ?_
    refine r_if_ne dX7_set_50 (tgt := 56) rfl (fun h50 => ?_) (fun h50 => ?_)
    · exfalso
      simp_all [rSet, bi_0, bi_n0]
    · refine r_bipush dX7_set_53 (v := (-2)) rfl ?_
      exact e_i dX7_set_55 rfl (by first | rfl | exact bi_nar _) (by first | rfl | simp [bi, *]) rfl
theorem tX7_set {g : Gh} {k z : Nat} {v : Int32} {hp : HPt} (hk : k < 3) (hx : rSet (nI k) v = true) (hz : z ≤ 6) (hZ : hp (16, 0, 0, 0) 2 = nI z) : Ci g mX7_set [vR (16, 0, 0, 0), vI (nI k), vI v] hp (RPu (lkH hp) z (17, 0, 0, 0) k) (hset (RPu (lkH hp) z) (17, 0, 0, 0) k v) := by
  have hk2 : k < 292 := by omega
  unfold Ci
  refine r_iload_n dX7_set_0 (i := 1) rfl rfl ?_
  refine r_if_ne dX7_set_1 (tgt := 14) rfl (fun h1 => ?_) (fun h1 => ?_)
  · refine r_iload_n dX7_set_14 (i := 1) rfl rfl ?_
    refine r_iconst dX7_set_15 (v := 1) rfl ?_
    refine r_icmp_ne dX7_set_16 (tgt := 29) rfl (fun h16 => ?_) (fun h16 => ?_)
    · refine r_iload_n dX7_set_29 (i := 1) rfl rfl ?_
      refine r_iconst dX7_set_30 (v := 2) rfl ?_
      refine r_icmp_ne dX7_set_31 (tgt := 47) rfl (fun h31 => ?_) (fun h31 => ?_)
      · refine r_iconst dX7_set_47 (v := 0) rfl ?_
        refine r_istore_n dX7_set_48 (i := 3) rfl (Nat.le_of_ble_eq_true rfl) rfl rfl ?_
        refine r_iload_n dX7_set_49 (i := 3) rfl rfl ?_
        refine r_if_ne dX7_set_50 (tgt := 56) rfl (fun h50 => ?_) (fun h50 => ?_)
        · refine r_aload_n dX7_set_56 (i := 0) rfl rfl ?_
          refine sX7_set_57 (Nat.le_refl _) (Nat.le_refl _) rfl lv16 (Nat.le_of_ble_eq_true rfl) (tX7_record hz hZ) ?_
          refine r_aload_n dX7_set_60 (i := 0) rfl rfl ?_
          refine r_getR dX7_set_61 f_7_7 rfl rfl rfl lv16 ?_
          refine r_iload_n dX7_set_64 (i := 1) rfl rfl ?_
          refine n_iald dX7_set_65 rfl lv17 rfl (by first | assumption | omega | (unfold cI; omega)) ?_
          refine r_istore dX7_set_66 (Nat.le_of_ble_eq_true rfl) rfl rfl ?_
          refine r_aload_n dX7_set_68 (i := 0) rfl rfl ?_
          refine r_getR dX7_set_69 f_7_7 rfl rfl rfl lv16 ?_
          refine r_iload_n dX7_set_72 (i := 1) rfl rfl ?_
          refine r_iload_n dX7_set_73 (i := 2) rfl rfl ?_
          refine n_iast dX7_set_74 rfl lv17 rfl (by first | assumption | omega | (unfold cI; omega)) ?_
          refine r_iload dX7_set_75 rfl ?_
          exact e_i dX7_set_77 rfl (by first | rfl | exact bi_nar _) (by first | rfl | simp [bi, *]) rfl
        · exfalso
          simp_all [rSet, bi_0, bi_n0]
      · refine r_iload_n dX7_set_34 (i := 2) rfl rfl ?_
        refine r_iconst dX7_set_35 (v := 0) rfl ?_
        refine r_iconst dX7_set_36 (v := 4) rfl ?_
        refine sX7_set_37 (Nat.le_refl _) (Nat.le_refl _) (Nat.le_of_ble_eq_true rfl) (tX7_in) ?_
        refine r_if_eq dX7_set_40 (tgt := 47) rfl (fun h40 => ?_) (fun h40 => ?_)
        · refine r_iconst dX7_set_47 (v := 0) rfl ?_
          refine r_istore_n dX7_set_48 (i := 3) rfl (Nat.le_of_ble_eq_true rfl) rfl rfl ?_
          refine r_iload_n dX7_set_49 (i := 3) rfl rfl ?_
          refine r_if_ne dX7_set_50 (tgt := 56) rfl (fun h50 => ?_) (fun h50 => ?_)
          · refine r_aload_n dX7_set_56 (i := 0) rfl rfl ?_
            refine sX7_set_57 (Nat.le_refl _) (Nat.le_refl _) rfl lv16 (Nat.le_of_ble_eq_true rfl) (tX7_record hz hZ) ?_
            refine r_aload_n dX7_set_60 (i := 0) rfl rfl ?_
            refine r_getR dX7_set_61 f_7_7 rfl rfl rfl lv16 ?_
            refine r_iload_n dX7_set_64 (i := 1) rfl rfl ?_
            refine n_iald dX7_set_65 rfl lv17 rfl (by first | assumption | omega | (unfold cI; omega)) ?_
            refine r_istore dX7_set_66 (Nat.le_of_ble_eq_true rfl) rfl rfl ?_
            refine r_aload_n dX7_set_68 (i := 0) rfl rfl ?_
            refine r_getR dX7_set_69 f_7_7 rfl rfl rfl lv16 ?_
            refine r_iload_n dX7_set_72 (i := 1) rfl rfl ?_
            refine r_iload_n dX7_set_73 (i := 2) rfl rfl ?_
            refine n_iast dX7_set_74 rfl lv17 rfl (by first | assumption | omega | (unfold cI; omega)) ?_
            refine r_iload dX7_set_75 rfl ?_
            exact e_i dX7_set_77 rfl (by first | rfl | exact bi_nar _) (by first | rfl | simp [bi, *]) rfl
          · exfalso
            simp_all [rSet, bi_0, bi_n0]
        · refine r_iconst dX7_set_43 (v := 1) rfl ?_
          refine r_goto dX7_set_44 (tgt := 48) rfl ?_
          refine r_istore_n dX7_set_48 (i := 3) rfl (Nat.le_of_ble_eq_true rfl) rfl rfl ?_
          refine r_iload_n dX7_set_49 (i := 3) rfl rfl ?_
          refine r_if_ne dX7_set_50 (tgt := 56) rfl (fun h50 => ?_) (fun h50 => ?_)
          · refine r_aload_n dX7_set_56 (i := 0) rfl rfl ?_
            refine sX7_set_57 (Nat.le_refl _) (Nat.le_refl _) rfl lv16 (Nat.le_of_ble_eq_true rfl) (tX7_record hz hZ) ?_
            refine r_aload_n dX7_set_60 (i := 0) rfl rfl ?_
            refine r_getR dX7_set_61 f_7_7 rfl rfl rfl lv16 ?_
            refine r_iload_n dX7_set_64 (i := 1) rfl rfl ?_
            refine n_iald dX7_set_65 rfl lv17 rfl (by first | assumption | omega | (unfold cI; omega)) ?_
            refine r_istore dX7_set_66 (Nat.le_of_ble_eq_true rfl) rfl rfl ?_
            refine r_aload_n dX7_set_68 (i := 0) rfl rfl ?_
            refine r_getR dX7_set_69 f_7_7 rfl rfl rfl lv16 ?_
            refine r_iload_n dX7_set_72 (i := 1) rfl rfl ?_
            refine r_iload_n dX7_set_73 (i := 2) rfl rfl ?_
            refine n_iast dX7_set_74 rfl lv17 rfl (by first | assumption | omega | (unfold cI; omega)) ?_
            refine r_iload dX7_set_75 rfl ?_
            exact e_i dX7_set_77 rfl (by first | rfl | exact bi_nar _) (by first | rfl | simp [bi, *]) rfl
          · exfalso
            simp_all [rSet, bi_0, bi_n0]
    · refine r_iload_n dX7_set_19 (i := 2) rfl rfl ?_
      refine r_iconst dX7_set_20 (v := 0) rfl ?_
      refine r_bipush dX7_set_21 (v := 99) rfl ?_
      refine sX7_set_23 (Nat.le_refl _) (Nat.le_refl _) (Nat.le_of_ble_eq_true rfl) (tX7_in) ?_
      refine r_goto dX7_set_26 (tgt := 48) rfl ?_
      refine r_istore_n dX7_set_48 (i := 3) rfl (Nat.le_of_ble_eq_true rfl) rfl rfl ?_
      refine r_iload_n dX7_set_49 (i := 3) rfl rfl ?_
      refine r_if_ne dX7_set_50 (tgt := 56) rfl (fun h50 => ?_) (fun h50 => ?_)
      · refine r_aload_n dX7_set_56 (i := 0) rfl rfl ?_
        refine sX7_set_57 (Nat.le_refl _) (Nat.le_refl _) rfl lv16 (Nat.le_of_ble_eq_true rfl) (tX7_record hz hZ) ?_
        refine r_aload_n dX7_set_60 (i := 0) rfl rfl ?_
        refine r_getR dX7_set_61 f_7_7 rfl rfl rfl lv16 ?_
        refine r_iload_n dX7_set_64 (i := 1) rfl rfl ?_
        refine n_iald dX7_set_65 rfl lv17 rfl (by first | assumption | omega | (unfold cI; omega)) ?_
        refine r_istore dX7_set_66 (Nat.le_of_ble_eq_true rfl) rfl rfl ?_
        refine r_aload_n dX7_set_68 (i := 0) rfl rfl ?_
        refine r_getR dX7_set_69 f_7_7 rfl rfl rfl lv16 ?_
        refine r_iload_n dX7_set_72 (i := 1) rfl rfl ?_
        refine r_iload_n dX7_set_73 (i := 2) rfl rfl ?_
        refine n_iast dX7_set_74 rfl lv17 rfl (by first | assumption | omega | (unfold cI; omega)) ?_
        refine r_iload dX7_set_75 rfl ?_
        exact e_i dX7_set_77 rfl (by first | rfl | exact bi_nar _) (by first | rfl | simp [bi, *]) rfl
      · exfalso
        simp_all [rSet, bi_0, bi_n0]
  · refine r_iload_n dX7_set_4 (i := 2) rfl rfl ?_
    refine r_iconst dX7_set_5 (v := 1) rfl ?_
    refine r_bipush dX7_set_6 (v := 20) rfl ?_
    refine sX7_set_8 (Nat.le_refl _) (Nat.le_refl _) (Nat.le_of_ble_eq_true rfl) (tX7_in) ?_
    refine r_goto dX7_set_11 (tgt := 48) rfl ?_
    refine r_istore_n dX7_set_48 (i := 3) rfl (Nat.le_of_ble_eq_true rfl) rfl rfl ?_
    refine r_iload_n dX7_set_49 (i := 3) rfl rfl ?_
    refine r_if_ne dX7_set_50 (tgt := 56) rfl (fun h50 => ?_) (fun h50 => ?_)
    · refine r_aload_n dX7_set_56 (i := 0) rfl rfl ?_
      refine sX7_set_57 (Nat.le_refl _) (Nat.le_refl _) rfl lv16 (Nat.le_of_ble_eq_true rfl) (tX7_record hz hZ) ?_
      refine r_aload_n dX7_set_60 (i := 0) rfl rfl ?_
      refine r_getR dX7_set_61 f_7_7 rfl rfl rfl lv16 ?_
      refine r_iload_n dX7_set_64 (i := 1) rfl rfl ?_
      refine n_iald dX7_set_65 rfl lv17 rfl (by first | assumption | omega | (unfold cI; omega)) ?_
      refine r_istore dX7_set_66 (Nat.le_of_ble_eq_true rfl) rfl rfl ?_
      refine r_aload_n dX7_set_68 (i := 0) rfl rfl ?_
      refine r_getR dX7_set_69 f_7_7 rfl rfl rfl lv16 ?_
      refine r_iload_n dX7_set_72 (i := 1) rfl rfl ?_
      refine r_iload_n dX7_set_73 (i := 2) rfl rfl ?_
      refine n_iast dX7_set_74 rfl lv17 rfl (by first | assumption | omega | (unfold cI; omega)) ?_
      refine r_iload dX7_set_75 rfl ?_
      exact e_i dX7_set_77 rfl (by first | rfl | exact bi_nar _) (by first | rfl | simp [bi, *]) rfl
    · exfalso
      simp_all [rSet, bi_0, bi_n0]
theorem tX7_seed_e {g : Gh} {x : Int32} {hp : HPt} (hx : fIn x 0 9999 = false) : Ci g mX7_seed [vR (16, 0, 0, 0), vI x] hp (-2) hp := by
  unfold Ci
  refine r_iload_n dX7_seed_0 (i := 1) rfl rfl ?_
  refine r_iconst dX7_seed_1 (v := 0) rfl ?_
  refine r_sipush dX7_seed_2 (v := 9999) rfl ?_
  refine sX7_seed_5 (Nat.le_refl _) (Nat.le_refl _) (Nat.le_of_ble_eq_true rfl) (tX7_in) ?_
  refine r_if_ne dX7_seed_8 (tgt := 14) rfl (fun h8 => absurd (bi_0.mpr hx) h8) (fun _ => ?_)
  refine r_bipush dX7_seed_11 (v := (-2)) rfl ?_
  exact e_i dX7_seed_13 rfl (by first | rfl | exact bi_nar _) (by first | rfl | simp [bi, *]) rfl
theorem tX7_seed {g : Gh} {z : Nat} {x : Int32} {hp : HPt} (hx : fIn x 0 9999 = true) (hz : z ≤ 6) (hZ : hp (16, 0, 0, 0) 2 = nI z) : Ci g mX7_seed [vR (16, 0, 0, 0), vI x] hp (RPu (lkH hp) z (17, 0, 0, 0) 3) (hset (RPu (lkH hp) z) (17, 0, 0, 0) 3 x) := by
  unfold Ci
  refine r_iload_n dX7_seed_0 (i := 1) rfl rfl ?_
  refine r_iconst dX7_seed_1 (v := 0) rfl ?_
  refine r_sipush dX7_seed_2 (v := 9999) rfl ?_
  refine sX7_seed_5 (Nat.le_refl _) (Nat.le_refl _) (Nat.le_of_ble_eq_true rfl) (tX7_in) ?_
  refine r_if_ne dX7_seed_8 (tgt := 14) rfl (fun _ => ?_) (fun h8 => absurd h8 (bi_n0.mpr hx))
  refine r_aload_n dX7_seed_14 (i := 0) rfl rfl ?_
  refine sX7_seed_15 (Nat.le_refl _) (Nat.le_refl _) rfl lv16 (Nat.le_of_ble_eq_true rfl) (tX7_record hz hZ) ?_
  refine r_aload_n dX7_seed_18 (i := 0) rfl rfl ?_
  refine r_getR dX7_seed_19 f_7_7 rfl rfl rfl lv16 ?_
  refine r_iconst dX7_seed_22 (v := 3) rfl ?_
  refine n_iald dX7_seed_23 rfl lv17 (k := 3) rfl (by decide) ?_
  refine r_istore_n dX7_seed_24 (i := 2) rfl (Nat.le_of_ble_eq_true rfl) rfl rfl ?_
  refine r_aload_n dX7_seed_25 (i := 0) rfl rfl ?_
  refine r_getR dX7_seed_26 f_7_7 rfl rfl rfl lv16 ?_
  refine r_iconst dX7_seed_29 (v := 3) rfl ?_
  refine r_iload_n dX7_seed_30 (i := 1) rfl rfl ?_
  refine n_iast dX7_seed_31 rfl lv17 (k := 3) rfl (by decide) ?_
  refine r_iload_n dX7_seed_32 (i := 2) rfl rfl ?_
  exact e_i dX7_seed_33 rfl (by first | rfl | exact bi_nar _) (by first | rfl | simp [bi, *]) rfl
theorem tX7_of_e {g : Gh} {s x w : Int32} {hp : HPt} (hx : (fIn s 0 1 && rHas hp x) = false) : Ci g mX7_of [vR (16, 0, 0, 0), vI s, vI x, vI w] hp (-1) hp := by
  unfold Ci
  refine r_iload_n dX7_of_0 (i := 1) rfl rfl ?_
  refine sX7_of_1 (Nat.le_refl _) (Nat.le_refl _) (Nat.le_of_ble_eq_true rfl) (tX7_isStore) ?_
  refine r_if_eq dX7_of_4 (tgt := 15) rfl (fun h4 => ?_) (fun h4 => ?_)
  · refine r_iconst dX7_of_15 (v := (-1)) rfl ?_
    exact e_i dX7_of_16 rfl (by first | rfl | exact bi_nar _) (by first | rfl | simp [bi, *]) rfl
  · refine r_aload_n dX7_of_7 (i := 0) rfl rfl ?_
    refine r_iload_n dX7_of_8 (i := 2) rfl rfl ?_
    refine sX7_of_9 (Nat.le_refl _) (Nat.le_refl _) rfl lv16 (Nat.le_of_ble_eq_true rfl) (tX7_isSecret) ?_
    refine r_if_ne dX7_of_12 (tgt := 17) rfl (fun h12 => ?_) (fun h12 => ?_)
    · exfalso
      simp_all [bi_0, bi_n0]
    · refine r_iconst dX7_of_15 (v := (-1)) rfl ?_
      exact e_i dX7_of_16 rfl (by first | rfl | exact bi_nar _) (by first | rfl | simp [bi, *]) rfl
theorem tX7_of_e2 {g : Gh} {j b : Nat} {w : Int32} {hp : HPt} (hj : j < 8) (hb : b < 2) (hx : rHas hp (nI j) = true) (hw : (!decide (w < 0) && decide (w < nI 8)) = false) : Ci g mX7_of [vR (16, 0, 0, 0), vI (nI b), vI (nI j), vI w] hp (-2) hp := by
  unfold Ci
  refine r_iload_n dX7_of_0 (i := 1) rfl rfl ?_
  refine sX7_of_1 (Nat.le_refl _) (Nat.le_refl _) (Nat.le_of_ble_eq_true rfl) (tX7_isStore) ?_
  refine r_if_eq dX7_of_4 (tgt := 15) rfl (fun h4 => absurd h4 (bi_n0.mpr (fIn_nI (l := 1) (by omega) (by decide)))) (fun _ => ?_)
  refine r_aload_n dX7_of_7 (i := 0) rfl rfl ?_
  refine r_iload_n dX7_of_8 (i := 2) rfl rfl ?_
  refine sX7_of_9 (Nat.le_refl _) (Nat.le_refl _) rfl lv16 (Nat.le_of_ble_eq_true rfl) (tX7_isSecret) ?_
  refine r_if_ne dX7_of_12 (tgt := 17) rfl (fun _ => ?_) (fun h12 => absurd h12 (bi_n0.mpr hx))
  refine r_aload_n dX7_of_17 (i := 0) rfl rfl ?_
  refine r_getR dX7_of_18 f_7_7 rfl rfl rfl lv16 ?_
  refine r_iload_n dX7_of_21 (i := 2) rfl rfl ?_
  refine r_bipush dX7_of_22 (v := 7) rfl ?_
  refine r_iload_n dX7_of_24 (i := 1) rfl rfl ?_
  refine r_iadd dX7_of_25 ?_
  refine sX7_of_26 (Nat.le_refl _) (Nat.le_refl _) (Nat.le_of_ble_eq_true rfl) (tX7_cell rfl (nI_add 7 _)) ?_
  refine n_iald dX7_of_29 rfl lv17 rfl (by first | assumption | omega | (unfold cI; omega)) ?_
  refine r_istore dX7_of_30 (Nat.le_of_ble_eq_true rfl) rfl rfl ?_
  refine r_aload_n dX7_of_32 (i := 0) rfl rfl ?_
  refine r_getR dX7_of_33 f_7_7 rfl rfl rfl lv16 ?_
  refine r_iload_n dX7_of_36 (i := 2) rfl rfl ?_
  refine r_bipush dX7_of_37 (v := 9) rfl ?_
  refine r_iload_n dX7_of_39 (i := 1) rfl rfl ?_
  refine r_iadd dX7_of_40 ?_
  refine sX7_of_41 (Nat.le_refl _) (Nat.le_refl _) (Nat.le_of_ble_eq_true rfl) (tX7_cell rfl (nI_add 9 _)) ?_
  refine n_iald dX7_of_44 rfl lv17 rfl (by first | assumption | omega | (unfold cI; omega)) ?_
  refine r_istore dX7_of_45 (Nat.le_of_ble_eq_true rfl) rfl rfl ?_
  refine r_iload_n dX7_of_47 (i := 3) rfl rfl ?_
  refine r_tabOut dX7_of_48 (tgt := 167) (out_wd hw (by decide) rfl) rfl ?_
  refine r_bipush dX7_of_167 (v := (-2)) rfl ?_
  exact e_i dX7_of_169 rfl (by first | rfl | exact bi_nar _) (by first | rfl | simp [bi, *]) rfl
def rfH (hp : HPt) (j b : Nat) (k : Nat) : Int32 := match k with
  | 0 => hp (17, 0, 0, 0) (cI j (16 + b))
  | 1 => rTag hp j b
  | 2 => hp (17, 0, 0, 0) (cI j (12 - b))
  | 3 => hp (17, 0, 0, 0) (cI j (14 - b))
  | 4 => hp (17, 0, 0, 0) (cI j (7 + b))
  | 5 => hp (17, 0, 0, 0) (cI j (9 + b))
  | 6 => rTold hp j b (hp (17, 0, 0, 0) (cI j (7 + b)))
  | _ => jrem (rTag hp j b + hp (17, 0, 0, 0) (cI j (9 + b))) 257
theorem tX7_of {g : Gh} {j b k : Nat} {hp : HPt} (hj : j < 8) (hb : b < 2) (hx : rHas hp (nI j) = true) (hk : k < 8) : Ci g mX7_of [vR (16, 0, 0, 0), vI (nI b), vI (nI j), vI (nI k)] hp (rfH hp j b k) hp := by
  unfold Ci
  match k, hk with
  | 0, _ =>
    refine r_iload_n dX7_of_0 (i := 1) rfl rfl ?_
    refine sX7_of_1 (Nat.le_refl _) (Nat.le_refl _) (Nat.le_of_ble_eq_true rfl) (tX7_isStore) ?_
    refine r_if_eq dX7_of_4 (tgt := 15) rfl (fun h4 => absurd h4 (bi_n0.mpr (fIn_nI (l := 1) (by omega) (by decide)))) (fun _ => ?_)
    refine r_aload_n dX7_of_7 (i := 0) rfl rfl ?_
    refine r_iload_n dX7_of_8 (i := 2) rfl rfl ?_
    refine sX7_of_9 (Nat.le_refl _) (Nat.le_refl _) rfl lv16 (Nat.le_of_ble_eq_true rfl) (tX7_isSecret) ?_
    refine r_if_ne dX7_of_12 (tgt := 17) rfl (fun _ => ?_) (fun h12 => absurd h12 (bi_n0.mpr hx))
    refine r_aload_n dX7_of_17 (i := 0) rfl rfl ?_
    refine r_getR dX7_of_18 f_7_7 rfl rfl rfl lv16 ?_
    refine r_iload_n dX7_of_21 (i := 2) rfl rfl ?_
    refine r_bipush dX7_of_22 (v := 7) rfl ?_
    refine r_iload_n dX7_of_24 (i := 1) rfl rfl ?_
    refine r_iadd dX7_of_25 ?_
    refine sX7_of_26 (Nat.le_refl _) (Nat.le_refl _) (Nat.le_of_ble_eq_true rfl) (tX7_cell rfl (nI_add 7 _)) ?_
    refine n_iald dX7_of_29 rfl lv17 rfl (by first | assumption | omega | (unfold cI; omega)) ?_
    refine r_istore dX7_of_30 (Nat.le_of_ble_eq_true rfl) rfl rfl ?_
    refine r_aload_n dX7_of_32 (i := 0) rfl rfl ?_
    refine r_getR dX7_of_33 f_7_7 rfl rfl rfl lv16 ?_
    refine r_iload_n dX7_of_36 (i := 2) rfl rfl ?_
    refine r_bipush dX7_of_37 (v := 9) rfl ?_
    refine r_iload_n dX7_of_39 (i := 1) rfl rfl ?_
    refine r_iadd dX7_of_40 ?_
    refine sX7_of_41 (Nat.le_refl _) (Nat.le_refl _) (Nat.le_of_ble_eq_true rfl) (tX7_cell rfl (nI_add 9 _)) ?_
    refine n_iald dX7_of_44 rfl lv17 rfl (by first | assumption | omega | (unfold cI; omega)) ?_
    refine r_istore dX7_of_45 (Nat.le_of_ble_eq_true rfl) rfl rfl ?_
    refine r_iload_n dX7_of_47 (i := 3) rfl rfl ?_
    refine r_tabIn dX7_of_48 (off := 48) (tgt := 96) (by decide) (by decide) (by decide) rfl ?_
    refine r_aload_n dX7_of_96 (i := 0) rfl rfl ?_
    refine r_iload_n dX7_of_97 (i := 1) rfl rfl ?_
    refine r_iload_n dX7_of_98 (i := 2) rfl rfl ?_
    refine sX7_of_99 (Nat.le_refl _) (Nat.le_refl _) rfl lv16 (Nat.le_of_ble_eq_true rfl) (tX7_partOf hj hb) ?_
    exact e_i dX7_of_102 rfl (by first | rfl | exact bi_nar _) (by first | rfl | simp [bi, *]) rfl
  | 1, _ =>
    refine r_iload_n dX7_of_0 (i := 1) rfl rfl ?_
    refine sX7_of_1 (Nat.le_refl _) (Nat.le_refl _) (Nat.le_of_ble_eq_true rfl) (tX7_isStore) ?_
    refine r_if_eq dX7_of_4 (tgt := 15) rfl (fun h4 => absurd h4 (bi_n0.mpr (fIn_nI (l := 1) (by omega) (by decide)))) (fun _ => ?_)
    refine r_aload_n dX7_of_7 (i := 0) rfl rfl ?_
    refine r_iload_n dX7_of_8 (i := 2) rfl rfl ?_
    refine sX7_of_9 (Nat.le_refl _) (Nat.le_refl _) rfl lv16 (Nat.le_of_ble_eq_true rfl) (tX7_isSecret) ?_
    refine r_if_ne dX7_of_12 (tgt := 17) rfl (fun _ => ?_) (fun h12 => absurd h12 (bi_n0.mpr hx))
    refine r_aload_n dX7_of_17 (i := 0) rfl rfl ?_
    refine r_getR dX7_of_18 f_7_7 rfl rfl rfl lv16 ?_
    refine r_iload_n dX7_of_21 (i := 2) rfl rfl ?_
    refine r_bipush dX7_of_22 (v := 7) rfl ?_
    refine r_iload_n dX7_of_24 (i := 1) rfl rfl ?_
    refine r_iadd dX7_of_25 ?_
    refine sX7_of_26 (Nat.le_refl _) (Nat.le_refl _) (Nat.le_of_ble_eq_true rfl) (tX7_cell rfl (nI_add 7 _)) ?_
    refine n_iald dX7_of_29 rfl lv17 rfl (by first | assumption | omega | (unfold cI; omega)) ?_
    refine r_istore dX7_of_30 (Nat.le_of_ble_eq_true rfl) rfl rfl ?_
    refine r_aload_n dX7_of_32 (i := 0) rfl rfl ?_
    refine r_getR dX7_of_33 f_7_7 rfl rfl rfl lv16 ?_
    refine r_iload_n dX7_of_36 (i := 2) rfl rfl ?_
    refine r_bipush dX7_of_37 (v := 9) rfl ?_
    refine r_iload_n dX7_of_39 (i := 1) rfl rfl ?_
    refine r_iadd dX7_of_40 ?_
    refine sX7_of_41 (Nat.le_refl _) (Nat.le_refl _) (Nat.le_of_ble_eq_true rfl) (tX7_cell rfl (nI_add 9 _)) ?_
    refine n_iald dX7_of_44 rfl lv17 rfl (by first | assumption | omega | (unfold cI; omega)) ?_
    refine r_istore dX7_of_45 (Nat.le_of_ble_eq_true rfl) rfl rfl ?_
    refine r_iload_n dX7_of_47 (i := 3) rfl rfl ?_
    refine r_tabIn dX7_of_48 (off := 55) (tgt := 103) (by decide) (by decide) (by decide) rfl ?_
    refine r_aload_n dX7_of_103 (i := 0) rfl rfl ?_
    refine r_iload_n dX7_of_104 (i := 1) rfl rfl ?_
    refine r_iload_n dX7_of_105 (i := 2) rfl rfl ?_
    refine sX7_of_106 (Nat.le_refl _) (Nat.le_refl _) rfl lv16 (Nat.le_of_ble_eq_true rfl) (tX7_tagOf hj hb) ?_
    exact e_i dX7_of_109 rfl (by first | rfl | exact bi_nar _) (by first | rfl | simp [bi, *]) rfl
  | 2, _ =>
    refine r_iload_n dX7_of_0 (i := 1) rfl rfl ?_
    refine sX7_of_1 (Nat.le_refl _) (Nat.le_refl _) (Nat.le_of_ble_eq_true rfl) (tX7_isStore) ?_
    refine r_if_eq dX7_of_4 (tgt := 15) rfl (fun h4 => absurd h4 (bi_n0.mpr (fIn_nI (l := 1) (by omega) (by decide)))) (fun _ => ?_)
    refine r_aload_n dX7_of_7 (i := 0) rfl rfl ?_
    refine r_iload_n dX7_of_8 (i := 2) rfl rfl ?_
    refine sX7_of_9 (Nat.le_refl _) (Nat.le_refl _) rfl lv16 (Nat.le_of_ble_eq_true rfl) (tX7_isSecret) ?_
    refine r_if_ne dX7_of_12 (tgt := 17) rfl (fun _ => ?_) (fun h12 => absurd h12 (bi_n0.mpr hx))
    refine r_aload_n dX7_of_17 (i := 0) rfl rfl ?_
    refine r_getR dX7_of_18 f_7_7 rfl rfl rfl lv16 ?_
    refine r_iload_n dX7_of_21 (i := 2) rfl rfl ?_
    refine r_bipush dX7_of_22 (v := 7) rfl ?_
    refine r_iload_n dX7_of_24 (i := 1) rfl rfl ?_
    refine r_iadd dX7_of_25 ?_
    refine sX7_of_26 (Nat.le_refl _) (Nat.le_refl _) (Nat.le_of_ble_eq_true rfl) (tX7_cell rfl (nI_add 7 _)) ?_
    refine n_iald dX7_of_29 rfl lv17 rfl (by first | assumption | omega | (unfold cI; omega)) ?_
    refine r_istore dX7_of_30 (Nat.le_of_ble_eq_true rfl) rfl rfl ?_
    refine r_aload_n dX7_of_32 (i := 0) rfl rfl ?_
    refine r_getR dX7_of_33 f_7_7 rfl rfl rfl lv16 ?_
    refine r_iload_n dX7_of_36 (i := 2) rfl rfl ?_
    refine r_bipush dX7_of_37 (v := 9) rfl ?_
    refine r_iload_n dX7_of_39 (i := 1) rfl rfl ?_
    refine r_iadd dX7_of_40 ?_
    refine sX7_of_41 (Nat.le_refl _) (Nat.le_refl _) (Nat.le_of_ble_eq_true rfl) (tX7_cell rfl (nI_add 9 _)) ?_
    refine n_iald dX7_of_44 rfl lv17 rfl (by first | assumption | omega | (unfold cI; omega)) ?_
    refine r_istore dX7_of_45 (Nat.le_of_ble_eq_true rfl) rfl rfl ?_
    refine r_iload_n dX7_of_47 (i := 3) rfl rfl ?_
    refine r_tabIn dX7_of_48 (off := 62) (tgt := 110) (by decide) (by decide) (by decide) rfl ?_
    refine r_aload_n dX7_of_110 (i := 0) rfl rfl ?_
    refine r_getR dX7_of_111 f_7_7 rfl rfl rfl lv16 ?_
    refine r_iload_n dX7_of_114 (i := 2) rfl rfl ?_
    refine r_bipush dX7_of_115 (v := 12) rfl ?_
    refine r_iload_n dX7_of_117 (i := 1) rfl rfl ?_
    refine r_isub dX7_of_118 ?_
    refine sX7_of_119 (Nat.le_refl _) (Nat.le_refl _) (Nat.le_of_ble_eq_true rfl) (tX7_cell rfl (pk_sub (a := 12) (by omega))) ?_
    refine n_iald dX7_of_122 rfl lv17 rfl (by first | assumption | omega | (unfold cI; omega)) ?_
    exact e_i dX7_of_123 rfl (by first | rfl | exact bi_nar _) (by first | rfl | simp [bi, *]) rfl
  | 3, _ =>
    refine r_iload_n dX7_of_0 (i := 1) rfl rfl ?_
    refine sX7_of_1 (Nat.le_refl _) (Nat.le_refl _) (Nat.le_of_ble_eq_true rfl) (tX7_isStore) ?_
    refine r_if_eq dX7_of_4 (tgt := 15) rfl (fun h4 => absurd h4 (bi_n0.mpr (fIn_nI (l := 1) (by omega) (by decide)))) (fun _ => ?_)
    refine r_aload_n dX7_of_7 (i := 0) rfl rfl ?_
    refine r_iload_n dX7_of_8 (i := 2) rfl rfl ?_
    refine sX7_of_9 (Nat.le_refl _) (Nat.le_refl _) rfl lv16 (Nat.le_of_ble_eq_true rfl) (tX7_isSecret) ?_
    refine r_if_ne dX7_of_12 (tgt := 17) rfl (fun _ => ?_) (fun h12 => absurd h12 (bi_n0.mpr hx))
    refine r_aload_n dX7_of_17 (i := 0) rfl rfl ?_
    refine r_getR dX7_of_18 f_7_7 rfl rfl rfl lv16 ?_
    refine r_iload_n dX7_of_21 (i := 2) rfl rfl ?_
    refine r_bipush dX7_of_22 (v := 7) rfl ?_
    refine r_iload_n dX7_of_24 (i := 1) rfl rfl ?_
    refine r_iadd dX7_of_25 ?_
    refine sX7_of_26 (Nat.le_refl _) (Nat.le_refl _) (Nat.le_of_ble_eq_true rfl) (tX7_cell rfl (nI_add 7 _)) ?_
    refine n_iald dX7_of_29 rfl lv17 rfl (by first | assumption | omega | (unfold cI; omega)) ?_
    refine r_istore dX7_of_30 (Nat.le_of_ble_eq_true rfl) rfl rfl ?_
    refine r_aload_n dX7_of_32 (i := 0) rfl rfl ?_
    refine r_getR dX7_of_33 f_7_7 rfl rfl rfl lv16 ?_
    refine r_iload_n dX7_of_36 (i := 2) rfl rfl ?_
    refine r_bipush dX7_of_37 (v := 9) rfl ?_
    refine r_iload_n dX7_of_39 (i := 1) rfl rfl ?_
    refine r_iadd dX7_of_40 ?_
    refine sX7_of_41 (Nat.le_refl _) (Nat.le_refl _) (Nat.le_of_ble_eq_true rfl) (tX7_cell rfl (nI_add 9 _)) ?_
    refine n_iald dX7_of_44 rfl lv17 rfl (by first | assumption | omega | (unfold cI; omega)) ?_
    refine r_istore dX7_of_45 (Nat.le_of_ble_eq_true rfl) rfl rfl ?_
    refine r_iload_n dX7_of_47 (i := 3) rfl rfl ?_
    refine r_tabIn dX7_of_48 (off := 76) (tgt := 124) (by decide) (by decide) (by decide) rfl ?_
    refine r_aload_n dX7_of_124 (i := 0) rfl rfl ?_
    refine r_getR dX7_of_125 f_7_7 rfl rfl rfl lv16 ?_
    refine r_iload_n dX7_of_128 (i := 2) rfl rfl ?_
    refine r_bipush dX7_of_129 (v := 14) rfl ?_
    refine r_iload_n dX7_of_131 (i := 1) rfl rfl ?_
    refine r_isub dX7_of_132 ?_
    refine sX7_of_133 (Nat.le_refl _) (Nat.le_refl _) (Nat.le_of_ble_eq_true rfl) (tX7_cell rfl (pk_sub (a := 14) (by omega))) ?_
    refine n_iald dX7_of_136 rfl lv17 rfl (by first | assumption | omega | (unfold cI; omega)) ?_
    exact e_i dX7_of_137 rfl (by first | rfl | exact bi_nar _) (by first | rfl | simp [bi, *]) rfl
  | 4, _ =>
    refine r_iload_n dX7_of_0 (i := 1) rfl rfl ?_
    refine sX7_of_1 (Nat.le_refl _) (Nat.le_refl _) (Nat.le_of_ble_eq_true rfl) (tX7_isStore) ?_
    refine r_if_eq dX7_of_4 (tgt := 15) rfl (fun h4 => absurd h4 (bi_n0.mpr (fIn_nI (l := 1) (by omega) (by decide)))) (fun _ => ?_)
    refine r_aload_n dX7_of_7 (i := 0) rfl rfl ?_
    refine r_iload_n dX7_of_8 (i := 2) rfl rfl ?_
    refine sX7_of_9 (Nat.le_refl _) (Nat.le_refl _) rfl lv16 (Nat.le_of_ble_eq_true rfl) (tX7_isSecret) ?_
    refine r_if_ne dX7_of_12 (tgt := 17) rfl (fun _ => ?_) (fun h12 => absurd h12 (bi_n0.mpr hx))
    refine r_aload_n dX7_of_17 (i := 0) rfl rfl ?_
    refine r_getR dX7_of_18 f_7_7 rfl rfl rfl lv16 ?_
    refine r_iload_n dX7_of_21 (i := 2) rfl rfl ?_
    refine r_bipush dX7_of_22 (v := 7) rfl ?_
    refine r_iload_n dX7_of_24 (i := 1) rfl rfl ?_
    refine r_iadd dX7_of_25 ?_
    refine sX7_of_26 (Nat.le_refl _) (Nat.le_refl _) (Nat.le_of_ble_eq_true rfl) (tX7_cell rfl (nI_add 7 _)) ?_
    refine n_iald dX7_of_29 rfl lv17 rfl (by first | assumption | omega | (unfold cI; omega)) ?_
    refine r_istore dX7_of_30 (Nat.le_of_ble_eq_true rfl) rfl rfl ?_
    refine r_aload_n dX7_of_32 (i := 0) rfl rfl ?_
    refine r_getR dX7_of_33 f_7_7 rfl rfl rfl lv16 ?_
    refine r_iload_n dX7_of_36 (i := 2) rfl rfl ?_
    refine r_bipush dX7_of_37 (v := 9) rfl ?_
    refine r_iload_n dX7_of_39 (i := 1) rfl rfl ?_
    refine r_iadd dX7_of_40 ?_
    refine sX7_of_41 (Nat.le_refl _) (Nat.le_refl _) (Nat.le_of_ble_eq_true rfl) (tX7_cell rfl (nI_add 9 _)) ?_
    refine n_iald dX7_of_44 rfl lv17 rfl (by first | assumption | omega | (unfold cI; omega)) ?_
    refine r_istore dX7_of_45 (Nat.le_of_ble_eq_true rfl) rfl rfl ?_
    refine r_iload_n dX7_of_47 (i := 3) rfl rfl ?_
    refine r_tabIn dX7_of_48 (off := 90) (tgt := 138) (by decide) (by decide) (by decide) rfl ?_
    refine r_iload dX7_of_138 rfl ?_
    exact e_i dX7_of_140 rfl (by first | rfl | exact bi_nar _) (by first | rfl | simp [bi, *]) rfl
  | 5, _ =>
    refine r_iload_n dX7_of_0 (i := 1) rfl rfl ?_
    refine sX7_of_1 (Nat.le_refl _) (Nat.le_refl _) (Nat.le_of_ble_eq_true rfl) (tX7_isStore) ?_
    refine r_if_eq dX7_of_4 (tgt := 15) rfl (fun h4 => absurd h4 (bi_n0.mpr (fIn_nI (l := 1) (by omega) (by decide)))) (fun _ => ?_)
    refine r_aload_n dX7_of_7 (i := 0) rfl rfl ?_
    refine r_iload_n dX7_of_8 (i := 2) rfl rfl ?_
    refine sX7_of_9 (Nat.le_refl _) (Nat.le_refl _) rfl lv16 (Nat.le_of_ble_eq_true rfl) (tX7_isSecret) ?_
    refine r_if_ne dX7_of_12 (tgt := 17) rfl (fun _ => ?_) (fun h12 => absurd h12 (bi_n0.mpr hx))
    refine r_aload_n dX7_of_17 (i := 0) rfl rfl ?_
    refine r_getR dX7_of_18 f_7_7 rfl rfl rfl lv16 ?_
    refine r_iload_n dX7_of_21 (i := 2) rfl rfl ?_
    refine r_bipush dX7_of_22 (v := 7) rfl ?_
    refine r_iload_n dX7_of_24 (i := 1) rfl rfl ?_
    refine r_iadd dX7_of_25 ?_
    refine sX7_of_26 (Nat.le_refl _) (Nat.le_refl _) (Nat.le_of_ble_eq_true rfl) (tX7_cell rfl (nI_add 7 _)) ?_
    refine n_iald dX7_of_29 rfl lv17 rfl (by first | assumption | omega | (unfold cI; omega)) ?_
    refine r_istore dX7_of_30 (Nat.le_of_ble_eq_true rfl) rfl rfl ?_
    refine r_aload_n dX7_of_32 (i := 0) rfl rfl ?_
    refine r_getR dX7_of_33 f_7_7 rfl rfl rfl lv16 ?_
    refine r_iload_n dX7_of_36 (i := 2) rfl rfl ?_
    refine r_bipush dX7_of_37 (v := 9) rfl ?_
    refine r_iload_n dX7_of_39 (i := 1) rfl rfl ?_
    refine r_iadd dX7_of_40 ?_
    refine sX7_of_41 (Nat.le_refl _) (Nat.le_refl _) (Nat.le_of_ble_eq_true rfl) (tX7_cell rfl (nI_add 9 _)) ?_
    refine n_iald dX7_of_44 rfl lv17 rfl (by first | assumption | omega | (unfold cI; omega)) ?_
    refine r_istore dX7_of_45 (Nat.le_of_ble_eq_true rfl) rfl rfl ?_
    refine r_iload_n dX7_of_47 (i := 3) rfl rfl ?_
    refine r_tabIn dX7_of_48 (off := 93) (tgt := 141) (by decide) (by decide) (by decide) rfl ?_
    refine r_iload dX7_of_141 rfl ?_
    exact e_i dX7_of_143 rfl (by first | rfl | exact bi_nar _) (by first | rfl | simp [bi, *]) rfl
  | 6, _ =>
    refine r_iload_n dX7_of_0 (i := 1) rfl rfl ?_
    refine sX7_of_1 (Nat.le_refl _) (Nat.le_refl _) (Nat.le_of_ble_eq_true rfl) (tX7_isStore) ?_
    refine r_if_eq dX7_of_4 (tgt := 15) rfl (fun h4 => absurd h4 (bi_n0.mpr (fIn_nI (l := 1) (by omega) (by decide)))) (fun _ => ?_)
    refine r_aload_n dX7_of_7 (i := 0) rfl rfl ?_
    refine r_iload_n dX7_of_8 (i := 2) rfl rfl ?_
    refine sX7_of_9 (Nat.le_refl _) (Nat.le_refl _) rfl lv16 (Nat.le_of_ble_eq_true rfl) (tX7_isSecret) ?_
    refine r_if_ne dX7_of_12 (tgt := 17) rfl (fun _ => ?_) (fun h12 => absurd h12 (bi_n0.mpr hx))
    refine r_aload_n dX7_of_17 (i := 0) rfl rfl ?_
    refine r_getR dX7_of_18 f_7_7 rfl rfl rfl lv16 ?_
    refine r_iload_n dX7_of_21 (i := 2) rfl rfl ?_
    refine r_bipush dX7_of_22 (v := 7) rfl ?_
    refine r_iload_n dX7_of_24 (i := 1) rfl rfl ?_
    refine r_iadd dX7_of_25 ?_
    refine sX7_of_26 (Nat.le_refl _) (Nat.le_refl _) (Nat.le_of_ble_eq_true rfl) (tX7_cell rfl (nI_add 7 _)) ?_
    refine n_iald dX7_of_29 rfl lv17 rfl (by first | assumption | omega | (unfold cI; omega)) ?_
    refine r_istore dX7_of_30 (Nat.le_of_ble_eq_true rfl) rfl rfl ?_
    refine r_aload_n dX7_of_32 (i := 0) rfl rfl ?_
    refine r_getR dX7_of_33 f_7_7 rfl rfl rfl lv16 ?_
    refine r_iload_n dX7_of_36 (i := 2) rfl rfl ?_
    refine r_bipush dX7_of_37 (v := 9) rfl ?_
    refine r_iload_n dX7_of_39 (i := 1) rfl rfl ?_
    refine r_iadd dX7_of_40 ?_
    refine sX7_of_41 (Nat.le_refl _) (Nat.le_refl _) (Nat.le_of_ble_eq_true rfl) (tX7_cell rfl (nI_add 9 _)) ?_
    refine n_iald dX7_of_44 rfl lv17 rfl (by first | assumption | omega | (unfold cI; omega)) ?_
    refine r_istore dX7_of_45 (Nat.le_of_ble_eq_true rfl) rfl rfl ?_
    refine r_iload_n dX7_of_47 (i := 3) rfl rfl ?_
    refine r_tabIn dX7_of_48 (off := 96) (tgt := 144) (by decide) (by decide) (by decide) rfl ?_
    refine r_aload_n dX7_of_144 (i := 0) rfl rfl ?_
    refine r_iload_n dX7_of_145 (i := 1) rfl rfl ?_
    refine r_iload_n dX7_of_146 (i := 2) rfl rfl ?_
    refine r_iload dX7_of_147 rfl ?_
    refine sX7_of_149 (Nat.le_refl _) (Nat.le_refl _) rfl lv16 (Nat.le_of_ble_eq_true rfl) (tX7_toldPart hj hb) ?_
    exact e_i dX7_of_152 rfl (by first | rfl | exact bi_nar _) (by first | rfl | simp [bi, *]) rfl
  | 7, _ =>
    refine r_iload_n dX7_of_0 (i := 1) rfl rfl ?_
    refine sX7_of_1 (Nat.le_refl _) (Nat.le_refl _) (Nat.le_of_ble_eq_true rfl) (tX7_isStore) ?_
    refine r_if_eq dX7_of_4 (tgt := 15) rfl (fun h4 => absurd h4 (bi_n0.mpr (fIn_nI (l := 1) (by omega) (by decide)))) (fun _ => ?_)
    refine r_aload_n dX7_of_7 (i := 0) rfl rfl ?_
    refine r_iload_n dX7_of_8 (i := 2) rfl rfl ?_
    refine sX7_of_9 (Nat.le_refl _) (Nat.le_refl _) rfl lv16 (Nat.le_of_ble_eq_true rfl) (tX7_isSecret) ?_
    refine r_if_ne dX7_of_12 (tgt := 17) rfl (fun _ => ?_) (fun h12 => absurd h12 (bi_n0.mpr hx))
    refine r_aload_n dX7_of_17 (i := 0) rfl rfl ?_
    refine r_getR dX7_of_18 f_7_7 rfl rfl rfl lv16 ?_
    refine r_iload_n dX7_of_21 (i := 2) rfl rfl ?_
    refine r_bipush dX7_of_22 (v := 7) rfl ?_
    refine r_iload_n dX7_of_24 (i := 1) rfl rfl ?_
    refine r_iadd dX7_of_25 ?_
    refine sX7_of_26 (Nat.le_refl _) (Nat.le_refl _) (Nat.le_of_ble_eq_true rfl) (tX7_cell rfl (nI_add 7 _)) ?_
    refine n_iald dX7_of_29 rfl lv17 rfl (by first | assumption | omega | (unfold cI; omega)) ?_
    refine r_istore dX7_of_30 (Nat.le_of_ble_eq_true rfl) rfl rfl ?_
    refine r_aload_n dX7_of_32 (i := 0) rfl rfl ?_
    refine r_getR dX7_of_33 f_7_7 rfl rfl rfl lv16 ?_
    refine r_iload_n dX7_of_36 (i := 2) rfl rfl ?_
    refine r_bipush dX7_of_37 (v := 9) rfl ?_
    refine r_iload_n dX7_of_39 (i := 1) rfl rfl ?_
    refine r_iadd dX7_of_40 ?_
    refine sX7_of_41 (Nat.le_refl _) (Nat.le_refl _) (Nat.le_of_ble_eq_true rfl) (tX7_cell rfl (nI_add 9 _)) ?_
    refine n_iald dX7_of_44 rfl lv17 rfl (by first | assumption | omega | (unfold cI; omega)) ?_
    refine r_istore dX7_of_45 (Nat.le_of_ble_eq_true rfl) rfl rfl ?_
    refine r_iload_n dX7_of_47 (i := 3) rfl rfl ?_
    refine r_tabIn dX7_of_48 (off := 105) (tgt := 153) (by decide) (by decide) (by decide) rfl ?_
    refine r_aload_n dX7_of_153 (i := 0) rfl rfl ?_
    refine r_iload_n dX7_of_154 (i := 1) rfl rfl ?_
    refine r_iload_n dX7_of_155 (i := 2) rfl rfl ?_
    refine sX7_of_156 (Nat.le_refl _) (Nat.le_refl _) rfl lv16 (Nat.le_of_ble_eq_true rfl) (tX7_tagOf hj hb) ?_
    refine r_iload dX7_of_159 rfl ?_
    refine r_iadd dX7_of_161 ?_
    refine r_sipush dX7_of_162 (v := 257) rfl ?_
    refine r_irem dX7_of_165 (by decide) ?_
    exact e_i dX7_of_166 rfl (by first | rfl | exact bi_nar _) (by first | rfl | simp [bi, *]) rfl
theorem tX7_ofSecret_e {g : Gh} {x w : Int32} {hp : HPt} (hx : rHas hp x = false) : Ci g mX7_ofSecret [vR (16, 0, 0, 0), vI x, vI w] hp (-1) hp := by
  unfold Ci
  refine r_aload_n dX7_ofSecret_0 (i := 0) rfl rfl ?_
  refine r_iload_n dX7_ofSecret_1 (i := 1) rfl rfl ?_
  refine sX7_ofSecret_2 (Nat.le_refl _) (Nat.le_refl _) rfl lv16 (Nat.le_of_ble_eq_true rfl) (tX7_isSecret) ?_
  refine r_if_ne dX7_ofSecret_5 (tgt := 10) rfl (fun h5 => absurd (bi_0.mpr hx) h5) (fun _ => ?_)
  refine r_iconst dX7_ofSecret_8 (v := (-1)) rfl ?_
  exact e_i dX7_ofSecret_9 rfl (by first | rfl | exact bi_nar _) (by first | rfl | simp [bi, *]) rfl
theorem tX7_ofSecret_e2 {g : Gh} {j : Nat} {w : Int32} {hp : HPt} (hj : j < 8) (hx : rHas hp (nI j) = true) (hw : (!decide (w < 0) && decide (w < nI 8)) = false) : Ci g mX7_ofSecret [vR (16, 0, 0, 0), vI (nI j), vI w] hp (-2) hp := by
  unfold Ci
  refine r_aload_n dX7_ofSecret_0 (i := 0) rfl rfl ?_
  refine r_iload_n dX7_ofSecret_1 (i := 1) rfl rfl ?_
  refine sX7_ofSecret_2 (Nat.le_refl _) (Nat.le_refl _) rfl lv16 (Nat.le_of_ble_eq_true rfl) (tX7_isSecret) ?_
  refine r_if_ne dX7_ofSecret_5 (tgt := 10) rfl (fun _ => ?_) (fun h5 => absurd h5 (bi_n0.mpr hx))
  refine r_iload_n dX7_ofSecret_10 (i := 2) rfl rfl ?_
  refine r_tabOut dX7_ofSecret_11 (tgt := 164) (out_wd hw (by decide) rfl) rfl ?_
  refine r_bipush dX7_ofSecret_164 (v := (-2)) rfl ?_
  exact e_i dX7_ofSecret_166 rfl (by first | rfl | exact bi_nar _) (by first | rfl | simp [bi, *]) rfl
def rfS (hp : HPt) (j : Nat) (k : Nat) : Int32 := match k with
  | 0 => hp (17, 0, 0, 0) (cI j 15)
  | 1 => hp (17, 0, 0, 0) (cI j 0)
  | 2 => if hp (17, 0, 0, 0) (cI j 2) ≤ 0 then -6 else hp (17, 0, 0, 0) (cI j 1)
  | 3 => hp (17, 0, 0, 0) (cI j 2)
  | 4 => hp (17, 0, 0, 0) (cI j 3)
  | 5 => hp (17, 0, 0, 0) (cI j 5)
  | 6 => hp (17, 0, 0, 0) (cI j 6)
  | _ => hp (17, 0, 0, 0) (cI j 4)
theorem tX7_ofSecret {g : Gh} {j k : Nat} {hp : HPt} (hj : j < 8) (hx : rHas hp (nI j) = true) (hk : k < 8) : Ci g mX7_ofSecret [vR (16, 0, 0, 0), vI (nI j), vI (nI k)] hp (rfS hp j k) hp := by
  unfold Ci
  match k, hk with
  | 0, _ =>
    refine r_aload_n dX7_ofSecret_0 (i := 0) rfl rfl ?_
    refine r_iload_n dX7_ofSecret_1 (i := 1) rfl rfl ?_
    refine sX7_ofSecret_2 (Nat.le_refl _) (Nat.le_refl _) rfl lv16 (Nat.le_of_ble_eq_true rfl) (tX7_isSecret) ?_
    refine r_if_ne dX7_ofSecret_5 (tgt := 10) rfl (fun _ => ?_) (fun h5 => absurd h5 (bi_n0.mpr hx))
    refine r_iload_n dX7_ofSecret_10 (i := 2) rfl rfl ?_
    refine r_tabIn dX7_ofSecret_11 (off := 45) (tgt := 56) (by decide) (by decide) (by decide) rfl ?_
    refine r_aload_n dX7_ofSecret_56 (i := 0) rfl rfl ?_
    refine r_getR dX7_ofSecret_57 f_7_7 rfl rfl rfl lv16 ?_
    refine r_iload_n dX7_ofSecret_60 (i := 1) rfl rfl ?_
    refine r_iconst dX7_ofSecret_61 (v := 0) rfl ?_
    refine r_iconst dX7_ofSecret_62 (v := 0) rfl ?_
    refine sX7_ofSecret_63 (Nat.le_refl _) (Nat.le_refl _) (Nat.le_of_ble_eq_true rfl) (tX7_at rfl (r := 0) rfl (w := 0) rfl (f := 15) rfl) ?_
    refine n_iald dX7_ofSecret_66 rfl lv17 rfl (by first | assumption | omega | (unfold cI; omega)) ?_
    exact e_i dX7_ofSecret_67 rfl (by first | rfl | exact bi_nar _) (by first | rfl | simp [rfS, *]) rfl
  | 1, _ =>
    refine r_aload_n dX7_ofSecret_0 (i := 0) rfl rfl ?_
    refine r_iload_n dX7_ofSecret_1 (i := 1) rfl rfl ?_
    refine sX7_ofSecret_2 (Nat.le_refl _) (Nat.le_refl _) rfl lv16 (Nat.le_of_ble_eq_true rfl) (tX7_isSecret) ?_
    refine r_if_ne dX7_ofSecret_5 (tgt := 10) rfl (fun _ => ?_) (fun h5 => absurd h5 (bi_n0.mpr hx))
    refine r_iload_n dX7_ofSecret_10 (i := 2) rfl rfl ?_
    refine r_tabIn dX7_ofSecret_11 (off := 57) (tgt := 68) (by decide) (by decide) (by decide) rfl ?_
    refine r_aload_n dX7_ofSecret_68 (i := 0) rfl rfl ?_
    refine r_getR dX7_ofSecret_69 f_7_7 rfl rfl rfl lv16 ?_
    refine r_iload_n dX7_ofSecret_72 (i := 1) rfl rfl ?_
    refine r_iconst dX7_ofSecret_73 (v := 0) rfl ?_
    refine sX7_ofSecret_74 (Nat.le_refl _) (Nat.le_refl _) (Nat.le_of_ble_eq_true rfl) (tX7_cell rfl (f := 0) rfl) ?_
    refine n_iald dX7_ofSecret_77 rfl lv17 rfl (by first | assumption | omega | (unfold cI; omega)) ?_
    exact e_i dX7_ofSecret_78 rfl (by first | rfl | exact bi_nar _) (by first | rfl | simp [rfS, *]) rfl
  | 2, _ =>
    refine r_aload_n dX7_ofSecret_0 (i := 0) rfl rfl ?_
    refine r_iload_n dX7_ofSecret_1 (i := 1) rfl rfl ?_
    refine sX7_ofSecret_2 (Nat.le_refl _) (Nat.le_refl _) rfl lv16 (Nat.le_of_ble_eq_true rfl) (tX7_isSecret) ?_
    refine r_if_ne dX7_ofSecret_5 (tgt := 10) rfl (fun _ => ?_) (fun h5 => absurd h5 (bi_n0.mpr hx))
    refine r_iload_n dX7_ofSecret_10 (i := 2) rfl rfl ?_
    refine r_tabIn dX7_ofSecret_11 (off := 68) (tgt := 79) (by decide) (by decide) (by decide) rfl ?_
    refine r_aload_n dX7_ofSecret_79 (i := 0) rfl rfl ?_
    refine r_getR dX7_ofSecret_80 f_7_7 rfl rfl rfl lv16 ?_
    refine r_iload_n dX7_ofSecret_83 (i := 1) rfl rfl ?_
    refine r_iconst dX7_ofSecret_84 (v := 2) rfl ?_
    refine sX7_ofSecret_85 (Nat.le_refl _) (Nat.le_refl _) (Nat.le_of_ble_eq_true rfl) (tX7_cell rfl (f := 2) rfl) ?_
    refine n_iald dX7_ofSecret_88 rfl lv17 rfl (by first | assumption | omega | (unfold cI; omega)) ?_
    refine r_if_le dX7_ofSecret_89 (tgt := 105) rfl (fun h89 => ?_) (fun h89 => ?_)
    · refine r_bipush dX7_ofSecret_105 (v := (-6)) rfl ?_
      exact e_i dX7_ofSecret_107 rfl (by first | rfl | exact bi_nar _) (by first | rfl | simp [rfS, *]) rfl
    · refine r_aload_n dX7_ofSecret_92 (i := 0) rfl rfl ?_
      refine r_getR dX7_ofSecret_93 f_7_7 rfl rfl rfl lv16 ?_
      refine r_iload_n dX7_ofSecret_96 (i := 1) rfl rfl ?_
      refine r_iconst dX7_ofSecret_97 (v := 1) rfl ?_
      refine sX7_ofSecret_98 (Nat.le_refl _) (Nat.le_refl _) (Nat.le_of_ble_eq_true rfl) (tX7_cell rfl (f := 1) rfl) ?_
      refine n_iald dX7_ofSecret_101 rfl lv17 rfl (by first | assumption | omega | (unfold cI; omega)) ?_
      refine r_goto dX7_ofSecret_102 (tgt := 107) rfl ?_
      exact e_i dX7_ofSecret_107 rfl (by first | rfl | exact bi_nar _) (by first | rfl | simp [rfS, *]) rfl
  | 3, _ =>
    refine r_aload_n dX7_ofSecret_0 (i := 0) rfl rfl ?_
    refine r_iload_n dX7_ofSecret_1 (i := 1) rfl rfl ?_
    refine sX7_ofSecret_2 (Nat.le_refl _) (Nat.le_refl _) rfl lv16 (Nat.le_of_ble_eq_true rfl) (tX7_isSecret) ?_
    refine r_if_ne dX7_ofSecret_5 (tgt := 10) rfl (fun _ => ?_) (fun h5 => absurd h5 (bi_n0.mpr hx))
    refine r_iload_n dX7_ofSecret_10 (i := 2) rfl rfl ?_
    refine r_tabIn dX7_ofSecret_11 (off := 97) (tgt := 108) (by decide) (by decide) (by decide) rfl ?_
    refine r_aload_n dX7_ofSecret_108 (i := 0) rfl rfl ?_
    refine r_getR dX7_ofSecret_109 f_7_7 rfl rfl rfl lv16 ?_
    refine r_iload_n dX7_ofSecret_112 (i := 1) rfl rfl ?_
    refine r_iconst dX7_ofSecret_113 (v := 2) rfl ?_
    refine sX7_ofSecret_114 (Nat.le_refl _) (Nat.le_refl _) (Nat.le_of_ble_eq_true rfl) (tX7_cell rfl (f := 2) rfl) ?_
    refine n_iald dX7_ofSecret_117 rfl lv17 rfl (by first | assumption | omega | (unfold cI; omega)) ?_
    exact e_i dX7_ofSecret_118 rfl (by first | rfl | exact bi_nar _) (by first | rfl | simp [rfS, *]) rfl
  | 4, _ =>
    refine r_aload_n dX7_ofSecret_0 (i := 0) rfl rfl ?_
    refine r_iload_n dX7_ofSecret_1 (i := 1) rfl rfl ?_
    refine sX7_ofSecret_2 (Nat.le_refl _) (Nat.le_refl _) rfl lv16 (Nat.le_of_ble_eq_true rfl) (tX7_isSecret) ?_
    refine r_if_ne dX7_ofSecret_5 (tgt := 10) rfl (fun _ => ?_) (fun h5 => absurd h5 (bi_n0.mpr hx))
    refine r_iload_n dX7_ofSecret_10 (i := 2) rfl rfl ?_
    refine r_tabIn dX7_ofSecret_11 (off := 108) (tgt := 119) (by decide) (by decide) (by decide) rfl ?_
    refine r_aload_n dX7_ofSecret_119 (i := 0) rfl rfl ?_
    refine r_getR dX7_ofSecret_120 f_7_7 rfl rfl rfl lv16 ?_
    refine r_iload_n dX7_ofSecret_123 (i := 1) rfl rfl ?_
    refine r_iconst dX7_ofSecret_124 (v := 3) rfl ?_
    refine sX7_ofSecret_125 (Nat.le_refl _) (Nat.le_refl _) (Nat.le_of_ble_eq_true rfl) (tX7_cell rfl (f := 3) rfl) ?_
    refine n_iald dX7_ofSecret_128 rfl lv17 rfl (by first | assumption | omega | (unfold cI; omega)) ?_
    exact e_i dX7_ofSecret_129 rfl (by first | rfl | exact bi_nar _) (by first | rfl | simp [rfS, *]) rfl
  | 5, _ =>
    refine r_aload_n dX7_ofSecret_0 (i := 0) rfl rfl ?_
    refine r_iload_n dX7_ofSecret_1 (i := 1) rfl rfl ?_
    refine sX7_ofSecret_2 (Nat.le_refl _) (Nat.le_refl _) rfl lv16 (Nat.le_of_ble_eq_true rfl) (tX7_isSecret) ?_
    refine r_if_ne dX7_ofSecret_5 (tgt := 10) rfl (fun _ => ?_) (fun h5 => absurd h5 (bi_n0.mpr hx))
    refine r_iload_n dX7_ofSecret_10 (i := 2) rfl rfl ?_
    refine r_tabIn dX7_ofSecret_11 (off := 119) (tgt := 130) (by decide) (by decide) (by decide) rfl ?_
    refine r_aload_n dX7_ofSecret_130 (i := 0) rfl rfl ?_
    refine r_getR dX7_ofSecret_131 f_7_7 rfl rfl rfl lv16 ?_
    refine r_iload_n dX7_ofSecret_134 (i := 1) rfl rfl ?_
    refine r_iconst dX7_ofSecret_135 (v := 5) rfl ?_
    refine sX7_ofSecret_136 (Nat.le_refl _) (Nat.le_refl _) (Nat.le_of_ble_eq_true rfl) (tX7_cell rfl (f := 5) rfl) ?_
    refine n_iald dX7_ofSecret_139 rfl lv17 rfl (by first | assumption | omega | (unfold cI; omega)) ?_
    exact e_i dX7_ofSecret_140 rfl (by first | rfl | exact bi_nar _) (by first | rfl | simp [rfS, *]) rfl
  | 6, _ =>
    refine r_aload_n dX7_ofSecret_0 (i := 0) rfl rfl ?_
    refine r_iload_n dX7_ofSecret_1 (i := 1) rfl rfl ?_
    refine sX7_ofSecret_2 (Nat.le_refl _) (Nat.le_refl _) rfl lv16 (Nat.le_of_ble_eq_true rfl) (tX7_isSecret) ?_
    refine r_if_ne dX7_ofSecret_5 (tgt := 10) rfl (fun _ => ?_) (fun h5 => absurd h5 (bi_n0.mpr hx))
    refine r_iload_n dX7_ofSecret_10 (i := 2) rfl rfl ?_
    refine r_tabIn dX7_ofSecret_11 (off := 130) (tgt := 141) (by decide) (by decide) (by decide) rfl ?_
    refine r_aload_n dX7_ofSecret_141 (i := 0) rfl rfl ?_
    refine r_getR dX7_ofSecret_142 f_7_7 rfl rfl rfl lv16 ?_
    refine r_iload_n dX7_ofSecret_145 (i := 1) rfl rfl ?_
    refine r_bipush dX7_ofSecret_146 (v := 6) rfl ?_
    refine sX7_ofSecret_148 (Nat.le_refl _) (Nat.le_refl _) (Nat.le_of_ble_eq_true rfl) (tX7_cell rfl (f := 6) rfl) ?_
    refine n_iald dX7_ofSecret_151 rfl lv17 rfl (by first | assumption | omega | (unfold cI; omega)) ?_
    exact e_i dX7_ofSecret_152 rfl (by first | rfl | exact bi_nar _) (by first | rfl | simp [rfS, *]) rfl
  | 7, _ =>
    refine r_aload_n dX7_ofSecret_0 (i := 0) rfl rfl ?_
    refine r_iload_n dX7_ofSecret_1 (i := 1) rfl rfl ?_
    refine sX7_ofSecret_2 (Nat.le_refl _) (Nat.le_refl _) rfl lv16 (Nat.le_of_ble_eq_true rfl) (tX7_isSecret) ?_
    refine r_if_ne dX7_ofSecret_5 (tgt := 10) rfl (fun _ => ?_) (fun h5 => absurd h5 (bi_n0.mpr hx))
    refine r_iload_n dX7_ofSecret_10 (i := 2) rfl rfl ?_
    refine r_tabIn dX7_ofSecret_11 (off := 142) (tgt := 153) (by decide) (by decide) (by decide) rfl ?_
    refine r_aload_n dX7_ofSecret_153 (i := 0) rfl rfl ?_
    refine r_getR dX7_ofSecret_154 f_7_7 rfl rfl rfl lv16 ?_
    refine r_iload_n dX7_ofSecret_157 (i := 1) rfl rfl ?_
    refine r_iconst dX7_ofSecret_158 (v := 4) rfl ?_
    refine sX7_ofSecret_159 (Nat.le_refl _) (Nat.le_refl _) (Nat.le_of_ble_eq_true rfl) (tX7_cell rfl (f := 4) rfl) ?_
    refine n_iald dX7_ofSecret_162 rfl lv17 rfl (by first | assumption | omega | (unfold cI; omega)) ?_
    exact e_i dX7_ofSecret_163 rfl (by first | rfl | exact bi_nar _) (by first | rfl | simp [rfS, *]) rfl
theorem fIn_nI3 {k : Nat} (hk : k < 4) : fIn (nI k) 0 3 = true := by
  unfold fIn
  have h1 : ¬ nI k < 0 := nI_pos (by omega)
  have h2 : ¬ (3 : Int32) < nI k := nI_nlt (a := 3) (b := k) (by omega) (by decide)
  simp [h1, h2]
theorem tX7_old_e {g : Gh} {x r w : Int32} {hp : HPt} (hx : rHas hp x = false) : Ci g mX7_old [vR (16, 0, 0, 0), vI x, vI r, vI w] hp (-1) hp := by
  unfold Ci
  refine r_aload_n dX7_old_0 (i := 0) rfl rfl ?_
  refine r_iload_n dX7_old_1 (i := 1) rfl rfl ?_
  refine sX7_old_2 (Nat.le_refl _) (Nat.le_refl _) rfl lv16 (Nat.le_of_ble_eq_true rfl) (tX7_isSecret) ?_
  refine r_if_eq dX7_old_5 (tgt := 28) rfl (fun _ => ?_) (fun h5 => absurd (bi_0.mpr hx) h5)
  refine r_iconst dX7_old_28 (v := (-1)) rfl ?_
  exact e_i dX7_old_29 rfl (by first | rfl | exact bi_nar _) (by first | rfl | simp [bi, *]) rfl
theorem tX7_old_e2 {g : Gh} {j : Nat} {r w : Int32} {hp : HPt} (hj : j < 8) (hx : rHas hp (nI j) = true) (hr : fIn r 0 (hp (17, 0, 0, 0) (cI j 0) - 1) = false) : Ci g mX7_old [vR (16, 0, 0, 0), vI (nI j), vI r, vI w] hp (-1) hp := by
  unfold Ci
  refine r_aload_n dX7_old_0 (i := 0) rfl rfl ?_
  refine r_iload_n dX7_old_1 (i := 1) rfl rfl ?_
  refine sX7_old_2 (Nat.le_refl _) (Nat.le_refl _) rfl lv16 (Nat.le_of_ble_eq_true rfl) (tX7_isSecret) ?_
  refine r_if_eq dX7_old_5 (tgt := 28) rfl (fun h5 => absurd h5 (bi_n0.mpr hx)) (fun _ => ?_)
  refine r_iload_n dX7_old_8 (i := 2) rfl rfl ?_
  refine r_iconst dX7_old_9 (v := 0) rfl ?_
  refine r_aload_n dX7_old_10 (i := 0) rfl rfl ?_
  refine r_getR dX7_old_11 f_7_7 rfl rfl rfl lv16 ?_
  refine r_iload_n dX7_old_14 (i := 1) rfl rfl ?_
  refine r_iconst dX7_old_15 (v := 0) rfl ?_
  refine sX7_old_16 (Nat.le_refl _) (Nat.le_refl _) (Nat.le_of_ble_eq_true rfl) (tX7_cell rfl (f := 0) rfl) ?_
  refine n_iald dX7_old_19 rfl lv17 rfl (by first | assumption | omega | (unfold cI; omega)) ?_
  refine r_iconst dX7_old_20 (v := 1) rfl ?_
  refine r_isub dX7_old_21 ?_
  refine sX7_old_22 (Nat.le_refl _) (Nat.le_refl _) (Nat.le_of_ble_eq_true rfl) (tX7_in) ?_
  refine r_if_ne dX7_old_25 (tgt := 30) rfl (fun h25 => absurd (bi_0.mpr hr) h25) (fun _ => ?_)
  refine r_iconst dX7_old_28 (v := (-1)) rfl ?_
  exact e_i dX7_old_29 rfl (by first | rfl | exact bi_nar _) (by first | rfl | simp [bi, *]) rfl
theorem tX7_old_e3 {g : Gh} {j : Nat} {r w : Int32} {hp : HPt} (hj : j < 8) (hx : rHas hp (nI j) = true) (hr : fIn r 0 (hp (17, 0, 0, 0) (cI j 0) - 1) = true) (hw : fIn w 0 3 = false) : Ci g mX7_old [vR (16, 0, 0, 0), vI (nI j), vI r, vI w] hp (-2) hp := by
  unfold Ci
  refine r_aload_n dX7_old_0 (i := 0) rfl rfl ?_
  refine r_iload_n dX7_old_1 (i := 1) rfl rfl ?_
  refine sX7_old_2 (Nat.le_refl _) (Nat.le_refl _) rfl lv16 (Nat.le_of_ble_eq_true rfl) (tX7_isSecret) ?_
  refine r_if_eq dX7_old_5 (tgt := 28) rfl (fun h5 => absurd h5 (bi_n0.mpr hx)) (fun _ => ?_)
  refine r_iload_n dX7_old_8 (i := 2) rfl rfl ?_
  refine r_iconst dX7_old_9 (v := 0) rfl ?_
  refine r_aload_n dX7_old_10 (i := 0) rfl rfl ?_
  refine r_getR dX7_old_11 f_7_7 rfl rfl rfl lv16 ?_
  refine r_iload_n dX7_old_14 (i := 1) rfl rfl ?_
  refine r_iconst dX7_old_15 (v := 0) rfl ?_
  refine sX7_old_16 (Nat.le_refl _) (Nat.le_refl _) (Nat.le_of_ble_eq_true rfl) (tX7_cell rfl (f := 0) rfl) ?_
  refine n_iald dX7_old_19 rfl lv17 rfl (by first | assumption | omega | (unfold cI; omega)) ?_
  refine r_iconst dX7_old_20 (v := 1) rfl ?_
  refine r_isub dX7_old_21 ?_
  refine sX7_old_22 (Nat.le_refl _) (Nat.le_refl _) (Nat.le_of_ble_eq_true rfl) (tX7_in) ?_
  refine r_if_ne dX7_old_25 (tgt := 30) rfl (fun _ => ?_) (fun h25 => absurd h25 (bi_n0.mpr hr))
  refine r_iload_n dX7_old_30 (i := 3) rfl rfl ?_
  refine r_iconst dX7_old_31 (v := 0) rfl ?_
  refine r_iconst dX7_old_32 (v := 3) rfl ?_
  refine sX7_old_33 (Nat.le_refl _) (Nat.le_refl _) (Nat.le_of_ble_eq_true rfl) (tX7_in) ?_
  refine r_if_eq dX7_old_36 (tgt := 55) rfl (fun _ => ?_) (fun h36 => absurd (bi_0.mpr hw) h36)
  refine r_bipush dX7_old_55 (v := (-2)) rfl ?_
  exact e_i dX7_old_57 rfl (by first | rfl | exact bi_nar _) (by first | rfl | simp [bi, *]) rfl
theorem tX7_old {g : Gh} {j r k : Nat} {hp : HPt} (hj : j < 8) (hx : rHas hp (nI j) = true) (hr : fIn (nI r) 0 (hp (17, 0, 0, 0) (cI j 0) - 1) = true) (hr4 : r < 4) (hk : k < 4) : Ci g mX7_old [vR (16, 0, 0, 0), vI (nI j), vI (nI r), vI (nI k)] hp (hp (17, 0, 0, 0) (cI j (15 + 4 * (r + 1) + k))) hp := by
  unfold Ci
  refine r_aload_n dX7_old_0 (i := 0) rfl rfl ?_
  refine r_iload_n dX7_old_1 (i := 1) rfl rfl ?_
  refine sX7_old_2 (Nat.le_refl _) (Nat.le_refl _) rfl lv16 (Nat.le_of_ble_eq_true rfl) (tX7_isSecret) ?_
  refine r_if_eq dX7_old_5 (tgt := 28) rfl (fun h5 => absurd h5 (bi_n0.mpr hx)) (fun _ => ?_)
  refine r_iload_n dX7_old_8 (i := 2) rfl rfl ?_
  refine r_iconst dX7_old_9 (v := 0) rfl ?_
  refine r_aload_n dX7_old_10 (i := 0) rfl rfl ?_
  refine r_getR dX7_old_11 f_7_7 rfl rfl rfl lv16 ?_
  refine r_iload_n dX7_old_14 (i := 1) rfl rfl ?_
  refine r_iconst dX7_old_15 (v := 0) rfl ?_
  refine sX7_old_16 (Nat.le_refl _) (Nat.le_refl _) (Nat.le_of_ble_eq_true rfl) (tX7_cell rfl (f := 0) rfl) ?_
  refine n_iald dX7_old_19 rfl lv17 rfl (by first | assumption | omega | (unfold cI; omega)) ?_
  refine r_iconst dX7_old_20 (v := 1) rfl ?_
  refine r_isub dX7_old_21 ?_
  refine sX7_old_22 (Nat.le_refl _) (Nat.le_refl _) (Nat.le_of_ble_eq_true rfl) (tX7_in) ?_
  refine r_if_ne dX7_old_25 (tgt := 30) rfl (fun _ => ?_) (fun h25 => absurd h25 (bi_n0.mpr hr))
  refine r_iload_n dX7_old_30 (i := 3) rfl rfl ?_
  refine r_iconst dX7_old_31 (v := 0) rfl ?_
  refine r_iconst dX7_old_32 (v := 3) rfl ?_
  refine sX7_old_33 (Nat.le_refl _) (Nat.le_refl _) (Nat.le_of_ble_eq_true rfl) (tX7_in) ?_
  refine r_if_eq dX7_old_36 (tgt := 55) rfl (fun h36 => absurd h36 (bi_n0.mpr (fIn_nI3 hk))) (fun _ => ?_)
  refine r_aload_n dX7_old_39 (i := 0) rfl rfl ?_
  refine r_getR dX7_old_40 f_7_7 rfl rfl rfl lv16 ?_
  refine r_iload_n dX7_old_43 (i := 1) rfl rfl ?_
  refine r_iload_n dX7_old_44 (i := 2) rfl rfl ?_
  refine r_iconst dX7_old_45 (v := 1) rfl ?_
  refine r_iadd dX7_old_46 ?_
  refine r_iload_n dX7_old_47 (i := 3) rfl rfl ?_
  refine sX7_old_48 (Nat.le_refl _) (Nat.le_refl _) (Nat.le_of_ble_eq_true rfl) (tX7_at rfl (nI_1 r) rfl rfl) ?_
  refine n_iald dX7_old_51 rfl lv17 rfl (by first | assumption | omega | (unfold cI; omega)) ?_
  refine r_goto dX7_old_52 (tgt := 57) rfl ?_
  exact e_i dX7_old_57 rfl (by first | rfl | exact bi_nar _) (by first | rfl | simp [bi, *]) rfl
def rSO (hp : HPt) (f : Nat) : Nat → Int32
  | 0 => 0
  | i + 1 => rSO hp f i ||| (if hp (17, 0, 0, 0) (cI i f) ≤ 0 then 0 else (1 : Int32) <<< (nI i &&& 31))
theorem tX7_setOf {g : Gh} {n f : Nat} {hp : HPt} (hn : n ≤ 8) (hf : f < 35) (hk : hp (17, 0, 0, 0) 5 = nI n) : Ci g mX7_setOf [vR (16, 0, 0, 0), vI (nI f)] hp (rSO hp f n) hp := by
  have key : ∀ k r, r + k = n → V g mX7_setOf 0 0 0 0 616 4 [some (vR (16, 0, 0, 0)), some (vI (nI f)), some (vI (rSO hp f r)), some (vI (nI r))] [] RP hp (Pi (rSO hp f n) hp) := by
    intro k
    induction k with
    | zero =>
      intro r hr
      have hr : r = n := by omega
      subst hr
      refine r_iload_n dX7_setOf_4 (i := 3) rfl rfl ?_
      refine r_aload_n dX7_setOf_5 (i := 0) rfl rfl ?_
      refine r_getR dX7_setOf_6 f_7_7 rfl rfl rfl lv16 ?_
      refine r_iconst dX7_setOf_9 (v := 5) rfl ?_
      refine n_iald dX7_setOf_10 rfl lv17 (k := 5) rfl (by decide) ?_
      refine r_icmp_ge dX7_setOf_11 (tgt := 43) rfl (fun _ => ?_) (fun h11 => absurd ((by rw [hk]; exact Int32.le_refl _)) h11)
      refine r_iload_n dX7_setOf_43 (i := 2) rfl rfl ?_
      exact e_i dX7_setOf_44 rfl (by first | rfl | exact bi_nar _) (by first | rfl | simp [bi, *]) rfl
    | succ k ih =>
      intro r hr
      have hr8 : r < 8 := by omega
      have h := ih (r + 1) (by omega)
      refine r_iload_n dX7_setOf_4 (i := 3) rfl rfl ?_
      refine r_aload_n dX7_setOf_5 (i := 0) rfl rfl ?_
      refine r_getR dX7_setOf_6 f_7_7 rfl rfl rfl lv16 ?_
      refine r_iconst dX7_setOf_9 (v := 5) rfl ?_
      refine n_iald dX7_setOf_10 rfl lv17 (k := 5) rfl (by decide) ?_
      refine r_icmp_ge dX7_setOf_11 (tgt := 43) rfl (fun h11 => absurd h11 ((by rw [hk]; exact nI_ge (by omega) (by omega)))) (fun _ => ?_)
      refine r_iload_n dX7_setOf_14 (i := 2) rfl rfl ?_
      refine r_aload_n dX7_setOf_15 (i := 0) rfl rfl ?_
      refine r_getR dX7_setOf_16 f_7_7 rfl rfl rfl lv16 ?_
      refine r_iload_n dX7_setOf_19 (i := 3) rfl rfl ?_
      refine r_iload_n dX7_setOf_20 (i := 1) rfl rfl ?_
      refine sX7_setOf_21 (Nat.le_refl _) (Nat.le_refl _) (Nat.le_of_ble_eq_true rfl) (tX7_cell rfl rfl) ?_
      refine n_iald dX7_setOf_24 rfl lv17 rfl (by first | assumption | omega | (unfold cI; omega)) ?_
      refine r_if_le dX7_setOf_25 (tgt := 34) rfl (fun h25 => ?_) (fun h25 => ?_)
      · refine r_iconst dX7_setOf_34 (v := 0) rfl ?_
        refine r_ior dX7_setOf_35 ?_
        refine r_istore_n dX7_setOf_36 (i := 2) rfl (Nat.le_of_ble_eq_true rfl) rfl rfl ?_
        refine r_inc1 dX7_setOf_37 rfl (Nat.le_of_ble_eq_true rfl) rfl ?_
        refine r_goto dX7_setOf_40 (tgt := 4) rfl ?_
        refine V.eqL ?_ h
        simp [rSO, h25, nI_1]
      · refine r_iconst dX7_setOf_28 (v := 1) rfl ?_
        refine r_iload_n dX7_setOf_29 (i := 3) rfl rfl ?_
        refine r_ishl dX7_setOf_30 ?_
        refine r_goto dX7_setOf_31 (tgt := 35) rfl ?_
        refine r_ior dX7_setOf_35 ?_
        refine r_istore_n dX7_setOf_36 (i := 2) rfl (Nat.le_of_ble_eq_true rfl) rfl rfl ?_
        refine r_inc1 dX7_setOf_37 rfl (Nat.le_of_ble_eq_true rfl) rfl ?_
        refine r_goto dX7_setOf_40 (tgt := 4) rfl ?_
        refine V.eqL ?_ h
        simp [rSO, h25, nI_1]
  unfold Ci
  refine r_iconst dX7_setOf_0 (v := 0) rfl ?_
  refine r_istore_n dX7_setOf_1 (i := 2) rfl (Nat.le_of_ble_eq_true rfl) rfl rfl ?_
  refine r_iconst dX7_setOf_2 (v := 0) rfl ?_
  refine r_istore_n dX7_setOf_3 (i := 3) rfl (Nat.le_of_ble_eq_true rfl) rfl rfl ?_
  exact key n 0 (by omega)
def rfG (hp : HPt) (n : Nat) (k : Nat) : Int32 := match k with
  | 0 => hp (17, 0, 0, 0) 4
  | 1 => hp (17, 0, 0, 0) 5
  | 2 => rSO hp 2 n
  | 3 => rSO hp 5 n
  | 4 => hp (17, 0, 0, 0) 6
  | 5 => hp (17, 0, 0, 0) 7
  | 6 => hp (17, 0, 0, 0) 8
  | 7 => hp (17, 0, 0, 0) 9
  | 8 => hp (17, 0, 0, 0) 10
  | 9 => hp (17, 0, 0, 0) 11
  | 10 => hp (17, 0, 0, 0) 3
  | 11 => hp (17, 0, 0, 0) 0
  | 12 => hp (17, 0, 0, 0) 1
  | 13 => hp (17, 0, 0, 0) 2
  | 14 => hp (16, 0, 0, 0) 6
  | _ => hp (16, 0, 0, 0) 2
theorem fIn_out {w l m : Int32} {n : Nat} (hn : n < 2 ^ 31) (h : (!decide (w < 0) && decide (w < nI n)) = false) (hl : 0 ≤ l.toInt) (hm : m.toInt < n) : fIn w l m = false := by
  have h2 := out_wd h hn (hi := (n : Int) - 1) rfl
  unfold fIn
  rw [Bool.and_eq_false_iff]
  rcases h2 with h2 | h2
  · left
    have : w < l := Int32.lt_iff_toInt_lt.mpr (by omega)
    simp [this]
  · right
    have : m < w := Int32.lt_iff_toInt_lt.mpr (by omega)
    simp [this]
theorem tX7_count_e {g : Gh} {w : Int32} {hp : HPt} (hw : (!decide (w < 0) && decide (w < nI 16)) = false) : Ci g mX7_count [vR (16, 0, 0, 0), vI w] hp (-2) hp := by
  have h2 := out_wd hw (by decide) (hi := 15) rfl
  unfold Ci
  refine r_iload_n dX7_count_0 (i := 1) rfl rfl ?_
  refine r_iconst dX7_count_1 (v := 0) rfl ?_
  refine r_iconst dX7_count_2 (v := 1) rfl ?_
  refine sX7_count_3 (Nat.le_refl _) (Nat.le_refl _) (Nat.le_of_ble_eq_true rfl) (tX7_in) ?_
  refine r_if_eq dX7_count_6 (tgt := 18) rfl (fun _ => ?_) (fun h6 => absurd (bi_0.mpr (fIn_out (by decide) hw (by decide) (by decide))) h6)
  refine r_iload_n dX7_count_18 (i := 1) rfl rfl ?_
  refine r_iconst dX7_count_19 (v := 4) rfl ?_
  refine r_bipush dX7_count_20 (v := 9) rfl ?_
  refine sX7_count_22 (Nat.le_refl _) (Nat.le_refl _) (Nat.le_of_ble_eq_true rfl) (tX7_in) ?_
  refine r_if_eq dX7_count_25 (tgt := 40) rfl (fun _ => ?_) (fun h25 => absurd (bi_0.mpr (fIn_out (by decide) hw (by decide) (by decide))) h25)
  refine r_iload_n dX7_count_40 (i := 1) rfl rfl ?_
  refine r_tabOut dX7_count_41 (tgt := 151) ((by rcases h2 with h2 | h2; exact Or.inl (Int.lt_of_lt_of_le h2 (by decide)); exact Or.inr h2)) rfl ?_
  refine r_bipush dX7_count_151 (v := (-2)) rfl ?_
  exact e_i dX7_count_153 rfl (by first | rfl | exact bi_nar _) (by first | rfl | simp [bi, *]) rfl
theorem tX7_count {g : Gh} {n k : Nat} {hp : HPt} (hn : n ≤ 8) (hN : hp (17, 0, 0, 0) 5 = nI n) (hk : k < 16) : Ci g mX7_count [vR (16, 0, 0, 0), vI (nI k)] hp (rfG hp n k) hp := by
  unfold Ci
  match k, hk with
  | 0, _ =>
    refine r_iload_n dX7_count_0 (i := 1) rfl rfl ?_
    refine r_iconst dX7_count_1 (v := 0) rfl ?_
    refine r_iconst dX7_count_2 (v := 1) rfl ?_
    refine sX7_count_3 (Nat.le_refl _) (Nat.le_refl _) (Nat.le_of_ble_eq_true rfl) (tX7_in) ?_
    refine r_if_eq dX7_count_6 (tgt := 18) rfl (fun h6 => absurd h6 ((by decide))) (fun _ => ?_)
    refine r_aload_n dX7_count_9 (i := 0) rfl rfl ?_
    refine r_getR dX7_count_10 f_7_7 rfl rfl rfl lv16 ?_
    refine r_iconst dX7_count_13 (v := 4) rfl ?_
    refine r_iload_n dX7_count_14 (i := 1) rfl rfl ?_
    refine r_iadd dX7_count_15 ?_
    refine n_iald dX7_count_16 rfl lv17 (k := 4) rfl (by decide) ?_
    exact e_i dX7_count_17 rfl (by first | rfl | exact bi_nar _) (by first | rfl | simp [bi, *]) rfl
  | 1, _ =>
    refine r_iload_n dX7_count_0 (i := 1) rfl rfl ?_
    refine r_iconst dX7_count_1 (v := 0) rfl ?_
    refine r_iconst dX7_count_2 (v := 1) rfl ?_
    refine sX7_count_3 (Nat.le_refl _) (Nat.le_refl _) (Nat.le_of_ble_eq_true rfl) (tX7_in) ?_
    refine r_if_eq dX7_count_6 (tgt := 18) rfl (fun h6 => absurd h6 ((by decide))) (fun _ => ?_)
    refine r_aload_n dX7_count_9 (i := 0) rfl rfl ?_
    refine r_getR dX7_count_10 f_7_7 rfl rfl rfl lv16 ?_
    refine r_iconst dX7_count_13 (v := 4) rfl ?_
    refine r_iload_n dX7_count_14 (i := 1) rfl rfl ?_
    refine r_iadd dX7_count_15 ?_
    refine n_iald dX7_count_16 rfl lv17 (k := 5) rfl (by decide) ?_
    exact e_i dX7_count_17 rfl (by first | rfl | exact bi_nar _) (by first | rfl | simp [bi, *]) rfl
  | 2, _ =>
    refine r_iload_n dX7_count_0 (i := 1) rfl rfl ?_
    refine r_iconst dX7_count_1 (v := 0) rfl ?_
    refine r_iconst dX7_count_2 (v := 1) rfl ?_
    refine sX7_count_3 (Nat.le_refl _) (Nat.le_refl _) (Nat.le_of_ble_eq_true rfl) (tX7_in) ?_
    refine r_if_eq dX7_count_6 (tgt := 18) rfl (fun _ => ?_) (fun h6 => absurd ((by decide)) h6)
    refine r_iload_n dX7_count_18 (i := 1) rfl rfl ?_
    refine r_iconst dX7_count_19 (v := 4) rfl ?_
    refine r_bipush dX7_count_20 (v := 9) rfl ?_
    refine sX7_count_22 (Nat.le_refl _) (Nat.le_refl _) (Nat.le_of_ble_eq_true rfl) (tX7_in) ?_
    refine r_if_eq dX7_count_25 (tgt := 40) rfl (fun _ => ?_) (fun h25 => absurd ((by decide)) h25)
    refine r_iload_n dX7_count_40 (i := 1) rfl rfl ?_
    refine r_tabIn dX7_count_41 (off := 71) (tgt := 112) (by decide) (by decide) (by decide) rfl ?_
    refine r_aload_n dX7_count_112 (i := 0) rfl rfl ?_
    refine r_iconst dX7_count_113 (v := 2) rfl ?_
    refine sX7_count_114 (Nat.le_refl _) (Nat.le_refl _) rfl lv16 (Nat.le_of_ble_eq_true rfl) (tX7_setOf (f := 2) hn (by decide) hN) ?_
    exact e_i dX7_count_117 rfl (by first | rfl | exact bi_nar _) (by first | rfl | simp [bi, *]) rfl
  | 3, _ =>
    refine r_iload_n dX7_count_0 (i := 1) rfl rfl ?_
    refine r_iconst dX7_count_1 (v := 0) rfl ?_
    refine r_iconst dX7_count_2 (v := 1) rfl ?_
    refine sX7_count_3 (Nat.le_refl _) (Nat.le_refl _) (Nat.le_of_ble_eq_true rfl) (tX7_in) ?_
    refine r_if_eq dX7_count_6 (tgt := 18) rfl (fun _ => ?_) (fun h6 => absurd ((by decide)) h6)
    refine r_iload_n dX7_count_18 (i := 1) rfl rfl ?_
    refine r_iconst dX7_count_19 (v := 4) rfl ?_
    refine r_bipush dX7_count_20 (v := 9) rfl ?_
    refine sX7_count_22 (Nat.le_refl _) (Nat.le_refl _) (Nat.le_of_ble_eq_true rfl) (tX7_in) ?_
    refine r_if_eq dX7_count_25 (tgt := 40) rfl (fun _ => ?_) (fun h25 => absurd ((by decide)) h25)
    refine r_iload_n dX7_count_40 (i := 1) rfl rfl ?_
    refine r_tabIn dX7_count_41 (off := 77) (tgt := 118) (by decide) (by decide) (by decide) rfl ?_
    refine r_aload_n dX7_count_118 (i := 0) rfl rfl ?_
    refine r_iconst dX7_count_119 (v := 5) rfl ?_
    refine sX7_count_120 (Nat.le_refl _) (Nat.le_refl _) rfl lv16 (Nat.le_of_ble_eq_true rfl) (tX7_setOf (f := 5) hn (by decide) hN) ?_
    exact e_i dX7_count_123 rfl (by first | rfl | exact bi_nar _) (by first | rfl | simp [bi, *]) rfl
  | 4, _ =>
    refine r_iload_n dX7_count_0 (i := 1) rfl rfl ?_
    refine r_iconst dX7_count_1 (v := 0) rfl ?_
    refine r_iconst dX7_count_2 (v := 1) rfl ?_
    refine sX7_count_3 (Nat.le_refl _) (Nat.le_refl _) (Nat.le_of_ble_eq_true rfl) (tX7_in) ?_
    refine r_if_eq dX7_count_6 (tgt := 18) rfl (fun _ => ?_) (fun h6 => absurd ((by decide)) h6)
    refine r_iload_n dX7_count_18 (i := 1) rfl rfl ?_
    refine r_iconst dX7_count_19 (v := 4) rfl ?_
    refine r_bipush dX7_count_20 (v := 9) rfl ?_
    refine sX7_count_22 (Nat.le_refl _) (Nat.le_refl _) (Nat.le_of_ble_eq_true rfl) (tX7_in) ?_
    refine r_if_eq dX7_count_25 (tgt := 40) rfl (fun h25 => absurd h25 ((by decide))) (fun _ => ?_)
    refine r_aload_n dX7_count_28 (i := 0) rfl rfl ?_
    refine r_getR dX7_count_29 f_7_7 rfl rfl rfl lv16 ?_
    refine r_bipush dX7_count_32 (v := 6) rfl ?_
    refine r_iload_n dX7_count_34 (i := 1) rfl rfl ?_
    refine r_iadd dX7_count_35 ?_
    refine r_iconst dX7_count_36 (v := 4) rfl ?_
    refine r_isub dX7_count_37 ?_
    refine n_iald dX7_count_38 rfl lv17 (k := 6) rfl (by decide) ?_
    exact e_i dX7_count_39 rfl (by first | rfl | exact bi_nar _) (by first | rfl | simp [bi, *]) rfl
  | 5, _ =>
    refine r_iload_n dX7_count_0 (i := 1) rfl rfl ?_
    refine r_iconst dX7_count_1 (v := 0) rfl ?_
    refine r_iconst dX7_count_2 (v := 1) rfl ?_
    refine sX7_count_3 (Nat.le_refl _) (Nat.le_refl _) (Nat.le_of_ble_eq_true rfl) (tX7_in) ?_
    refine r_if_eq dX7_count_6 (tgt := 18) rfl (fun _ => ?_) (fun h6 => absurd ((by decide)) h6)
    refine r_iload_n dX7_count_18 (i := 1) rfl rfl ?_
    refine r_iconst dX7_count_19 (v := 4) rfl ?_
    refine r_bipush dX7_count_20 (v := 9) rfl ?_
    refine sX7_count_22 (Nat.le_refl _) (Nat.le_refl _) (Nat.le_of_ble_eq_true rfl) (tX7_in) ?_
    refine r_if_eq dX7_count_25 (tgt := 40) rfl (fun h25 => absurd h25 ((by decide))) (fun _ => ?_)
    refine r_aload_n dX7_count_28 (i := 0) rfl rfl ?_
    refine r_getR dX7_count_29 f_7_7 rfl rfl rfl lv16 ?_
    refine r_bipush dX7_count_32 (v := 6) rfl ?_
    refine r_iload_n dX7_count_34 (i := 1) rfl rfl ?_
    refine r_iadd dX7_count_35 ?_
    refine r_iconst dX7_count_36 (v := 4) rfl ?_
    refine r_isub dX7_count_37 ?_
    refine n_iald dX7_count_38 rfl lv17 (k := 7) rfl (by decide) ?_
    exact e_i dX7_count_39 rfl (by first | rfl | exact bi_nar _) (by first | rfl | simp [bi, *]) rfl
  | 6, _ =>
    refine r_iload_n dX7_count_0 (i := 1) rfl rfl ?_
    refine r_iconst dX7_count_1 (v := 0) rfl ?_
    refine r_iconst dX7_count_2 (v := 1) rfl ?_
    refine sX7_count_3 (Nat.le_refl _) (Nat.le_refl _) (Nat.le_of_ble_eq_true rfl) (tX7_in) ?_
    refine r_if_eq dX7_count_6 (tgt := 18) rfl (fun _ => ?_) (fun h6 => absurd ((by decide)) h6)
    refine r_iload_n dX7_count_18 (i := 1) rfl rfl ?_
    refine r_iconst dX7_count_19 (v := 4) rfl ?_
    refine r_bipush dX7_count_20 (v := 9) rfl ?_
    refine sX7_count_22 (Nat.le_refl _) (Nat.le_refl _) (Nat.le_of_ble_eq_true rfl) (tX7_in) ?_
    refine r_if_eq dX7_count_25 (tgt := 40) rfl (fun h25 => absurd h25 ((by decide))) (fun _ => ?_)
    refine r_aload_n dX7_count_28 (i := 0) rfl rfl ?_
    refine r_getR dX7_count_29 f_7_7 rfl rfl rfl lv16 ?_
    refine r_bipush dX7_count_32 (v := 6) rfl ?_
    refine r_iload_n dX7_count_34 (i := 1) rfl rfl ?_
    refine r_iadd dX7_count_35 ?_
    refine r_iconst dX7_count_36 (v := 4) rfl ?_
    refine r_isub dX7_count_37 ?_
    refine n_iald dX7_count_38 rfl lv17 (k := 8) rfl (by decide) ?_
    exact e_i dX7_count_39 rfl (by first | rfl | exact bi_nar _) (by first | rfl | simp [bi, *]) rfl
  | 7, _ =>
    refine r_iload_n dX7_count_0 (i := 1) rfl rfl ?_
    refine r_iconst dX7_count_1 (v := 0) rfl ?_
    refine r_iconst dX7_count_2 (v := 1) rfl ?_
    refine sX7_count_3 (Nat.le_refl _) (Nat.le_refl _) (Nat.le_of_ble_eq_true rfl) (tX7_in) ?_
    refine r_if_eq dX7_count_6 (tgt := 18) rfl (fun _ => ?_) (fun h6 => absurd ((by decide)) h6)
    refine r_iload_n dX7_count_18 (i := 1) rfl rfl ?_
    refine r_iconst dX7_count_19 (v := 4) rfl ?_
    refine r_bipush dX7_count_20 (v := 9) rfl ?_
    refine sX7_count_22 (Nat.le_refl _) (Nat.le_refl _) (Nat.le_of_ble_eq_true rfl) (tX7_in) ?_
    refine r_if_eq dX7_count_25 (tgt := 40) rfl (fun h25 => absurd h25 ((by decide))) (fun _ => ?_)
    refine r_aload_n dX7_count_28 (i := 0) rfl rfl ?_
    refine r_getR dX7_count_29 f_7_7 rfl rfl rfl lv16 ?_
    refine r_bipush dX7_count_32 (v := 6) rfl ?_
    refine r_iload_n dX7_count_34 (i := 1) rfl rfl ?_
    refine r_iadd dX7_count_35 ?_
    refine r_iconst dX7_count_36 (v := 4) rfl ?_
    refine r_isub dX7_count_37 ?_
    refine n_iald dX7_count_38 rfl lv17 (k := 9) rfl (by decide) ?_
    exact e_i dX7_count_39 rfl (by first | rfl | exact bi_nar _) (by first | rfl | simp [bi, *]) rfl
  | 8, _ =>
    refine r_iload_n dX7_count_0 (i := 1) rfl rfl ?_
    refine r_iconst dX7_count_1 (v := 0) rfl ?_
    refine r_iconst dX7_count_2 (v := 1) rfl ?_
    refine sX7_count_3 (Nat.le_refl _) (Nat.le_refl _) (Nat.le_of_ble_eq_true rfl) (tX7_in) ?_
    refine r_if_eq dX7_count_6 (tgt := 18) rfl (fun _ => ?_) (fun h6 => absurd ((by decide)) h6)
    refine r_iload_n dX7_count_18 (i := 1) rfl rfl ?_
    refine r_iconst dX7_count_19 (v := 4) rfl ?_
    refine r_bipush dX7_count_20 (v := 9) rfl ?_
    refine sX7_count_22 (Nat.le_refl _) (Nat.le_refl _) (Nat.le_of_ble_eq_true rfl) (tX7_in) ?_
    refine r_if_eq dX7_count_25 (tgt := 40) rfl (fun h25 => absurd h25 ((by decide))) (fun _ => ?_)
    refine r_aload_n dX7_count_28 (i := 0) rfl rfl ?_
    refine r_getR dX7_count_29 f_7_7 rfl rfl rfl lv16 ?_
    refine r_bipush dX7_count_32 (v := 6) rfl ?_
    refine r_iload_n dX7_count_34 (i := 1) rfl rfl ?_
    refine r_iadd dX7_count_35 ?_
    refine r_iconst dX7_count_36 (v := 4) rfl ?_
    refine r_isub dX7_count_37 ?_
    refine n_iald dX7_count_38 rfl lv17 (k := 10) rfl (by decide) ?_
    exact e_i dX7_count_39 rfl (by first | rfl | exact bi_nar _) (by first | rfl | simp [bi, *]) rfl
  | 9, _ =>
    refine r_iload_n dX7_count_0 (i := 1) rfl rfl ?_
    refine r_iconst dX7_count_1 (v := 0) rfl ?_
    refine r_iconst dX7_count_2 (v := 1) rfl ?_
    refine sX7_count_3 (Nat.le_refl _) (Nat.le_refl _) (Nat.le_of_ble_eq_true rfl) (tX7_in) ?_
    refine r_if_eq dX7_count_6 (tgt := 18) rfl (fun _ => ?_) (fun h6 => absurd ((by decide)) h6)
    refine r_iload_n dX7_count_18 (i := 1) rfl rfl ?_
    refine r_iconst dX7_count_19 (v := 4) rfl ?_
    refine r_bipush dX7_count_20 (v := 9) rfl ?_
    refine sX7_count_22 (Nat.le_refl _) (Nat.le_refl _) (Nat.le_of_ble_eq_true rfl) (tX7_in) ?_
    refine r_if_eq dX7_count_25 (tgt := 40) rfl (fun h25 => absurd h25 ((by decide))) (fun _ => ?_)
    refine r_aload_n dX7_count_28 (i := 0) rfl rfl ?_
    refine r_getR dX7_count_29 f_7_7 rfl rfl rfl lv16 ?_
    refine r_bipush dX7_count_32 (v := 6) rfl ?_
    refine r_iload_n dX7_count_34 (i := 1) rfl rfl ?_
    refine r_iadd dX7_count_35 ?_
    refine r_iconst dX7_count_36 (v := 4) rfl ?_
    refine r_isub dX7_count_37 ?_
    refine n_iald dX7_count_38 rfl lv17 (k := 11) rfl (by decide) ?_
    exact e_i dX7_count_39 rfl (by first | rfl | exact bi_nar _) (by first | rfl | simp [bi, *]) rfl
  | 10, _ =>
    refine r_iload_n dX7_count_0 (i := 1) rfl rfl ?_
    refine r_iconst dX7_count_1 (v := 0) rfl ?_
    refine r_iconst dX7_count_2 (v := 1) rfl ?_
    refine sX7_count_3 (Nat.le_refl _) (Nat.le_refl _) (Nat.le_of_ble_eq_true rfl) (tX7_in) ?_
    refine r_if_eq dX7_count_6 (tgt := 18) rfl (fun _ => ?_) (fun h6 => absurd ((by decide)) h6)
    refine r_iload_n dX7_count_18 (i := 1) rfl rfl ?_
    refine r_iconst dX7_count_19 (v := 4) rfl ?_
    refine r_bipush dX7_count_20 (v := 9) rfl ?_
    refine sX7_count_22 (Nat.le_refl _) (Nat.le_refl _) (Nat.le_of_ble_eq_true rfl) (tX7_in) ?_
    refine r_if_eq dX7_count_25 (tgt := 40) rfl (fun _ => ?_) (fun h25 => absurd ((by decide)) h25)
    refine r_iload_n dX7_count_40 (i := 1) rfl rfl ?_
    refine r_tabIn dX7_count_41 (off := 83) (tgt := 124) (by decide) (by decide) (by decide) rfl ?_
    refine r_aload_n dX7_count_124 (i := 0) rfl rfl ?_
    refine r_getR dX7_count_125 f_7_7 rfl rfl rfl lv16 ?_
    refine r_iconst dX7_count_128 (v := 3) rfl ?_
    refine n_iald dX7_count_129 rfl lv17 (k := 3) rfl (by decide) ?_
    exact e_i dX7_count_130 rfl (by first | rfl | exact bi_nar _) (by first | rfl | simp [bi, *]) rfl
  | 11, _ =>
    refine r_iload_n dX7_count_0 (i := 1) rfl rfl ?_
    refine r_iconst dX7_count_1 (v := 0) rfl ?_
    refine r_iconst dX7_count_2 (v := 1) rfl ?_
    refine sX7_count_3 (Nat.le_refl _) (Nat.le_refl _) (Nat.le_of_ble_eq_true rfl) (tX7_in) ?_
    refine r_if_eq dX7_count_6 (tgt := 18) rfl (fun _ => ?_) (fun h6 => absurd ((by decide)) h6)
    refine r_iload_n dX7_count_18 (i := 1) rfl rfl ?_
    refine r_iconst dX7_count_19 (v := 4) rfl ?_
    refine r_bipush dX7_count_20 (v := 9) rfl ?_
    refine sX7_count_22 (Nat.le_refl _) (Nat.le_refl _) (Nat.le_of_ble_eq_true rfl) (tX7_in) ?_
    refine r_if_eq dX7_count_25 (tgt := 40) rfl (fun _ => ?_) (fun h25 => absurd ((by decide)) h25)
    refine r_iload_n dX7_count_40 (i := 1) rfl rfl ?_
    refine r_tabIn dX7_count_41 (off := 90) (tgt := 131) (by decide) (by decide) (by decide) rfl ?_
    refine r_aload_n dX7_count_131 (i := 0) rfl rfl ?_
    refine r_getR dX7_count_132 f_7_7 rfl rfl rfl lv16 ?_
    refine r_iload_n dX7_count_135 (i := 1) rfl rfl ?_
    refine r_bipush dX7_count_136 (v := 11) rfl ?_
    refine r_isub dX7_count_138 ?_
    refine n_iald dX7_count_139 rfl lv17 (k := 0) rfl (by decide) ?_
    exact e_i dX7_count_140 rfl (by first | rfl | exact bi_nar _) (by first | rfl | simp [bi, *]) rfl
  | 12, _ =>
    refine r_iload_n dX7_count_0 (i := 1) rfl rfl ?_
    refine r_iconst dX7_count_1 (v := 0) rfl ?_
    refine r_iconst dX7_count_2 (v := 1) rfl ?_
    refine sX7_count_3 (Nat.le_refl _) (Nat.le_refl _) (Nat.le_of_ble_eq_true rfl) (tX7_in) ?_
    refine r_if_eq dX7_count_6 (tgt := 18) rfl (fun _ => ?_) (fun h6 => absurd ((by decide)) h6)
    refine r_iload_n dX7_count_18 (i := 1) rfl rfl ?_
    refine r_iconst dX7_count_19 (v := 4) rfl ?_
    refine r_bipush dX7_count_20 (v := 9) rfl ?_
    refine sX7_count_22 (Nat.le_refl _) (Nat.le_refl _) (Nat.le_of_ble_eq_true rfl) (tX7_in) ?_
    refine r_if_eq dX7_count_25 (tgt := 40) rfl (fun _ => ?_) (fun h25 => absurd ((by decide)) h25)
    refine r_iload_n dX7_count_40 (i := 1) rfl rfl ?_
    refine r_tabIn dX7_count_41 (off := 90) (tgt := 131) (by decide) (by decide) (by decide) rfl ?_
    refine r_aload_n dX7_count_131 (i := 0) rfl rfl ?_
    refine r_getR dX7_count_132 f_7_7 rfl rfl rfl lv16 ?_
    refine r_iload_n dX7_count_135 (i := 1) rfl rfl ?_
    refine r_bipush dX7_count_136 (v := 11) rfl ?_
    refine r_isub dX7_count_138 ?_
    refine n_iald dX7_count_139 rfl lv17 (k := 1) rfl (by decide) ?_
    exact e_i dX7_count_140 rfl (by first | rfl | exact bi_nar _) (by first | rfl | simp [bi, *]) rfl
  | 13, _ =>
    refine r_iload_n dX7_count_0 (i := 1) rfl rfl ?_
    refine r_iconst dX7_count_1 (v := 0) rfl ?_
    refine r_iconst dX7_count_2 (v := 1) rfl ?_
    refine sX7_count_3 (Nat.le_refl _) (Nat.le_refl _) (Nat.le_of_ble_eq_true rfl) (tX7_in) ?_
    refine r_if_eq dX7_count_6 (tgt := 18) rfl (fun _ => ?_) (fun h6 => absurd ((by decide)) h6)
    refine r_iload_n dX7_count_18 (i := 1) rfl rfl ?_
    refine r_iconst dX7_count_19 (v := 4) rfl ?_
    refine r_bipush dX7_count_20 (v := 9) rfl ?_
    refine sX7_count_22 (Nat.le_refl _) (Nat.le_refl _) (Nat.le_of_ble_eq_true rfl) (tX7_in) ?_
    refine r_if_eq dX7_count_25 (tgt := 40) rfl (fun _ => ?_) (fun h25 => absurd ((by decide)) h25)
    refine r_iload_n dX7_count_40 (i := 1) rfl rfl ?_
    refine r_tabIn dX7_count_41 (off := 90) (tgt := 131) (by decide) (by decide) (by decide) rfl ?_
    refine r_aload_n dX7_count_131 (i := 0) rfl rfl ?_
    refine r_getR dX7_count_132 f_7_7 rfl rfl rfl lv16 ?_
    refine r_iload_n dX7_count_135 (i := 1) rfl rfl ?_
    refine r_bipush dX7_count_136 (v := 11) rfl ?_
    refine r_isub dX7_count_138 ?_
    refine n_iald dX7_count_139 rfl lv17 (k := 2) rfl (by decide) ?_
    exact e_i dX7_count_140 rfl (by first | rfl | exact bi_nar _) (by first | rfl | simp [bi, *]) rfl
  | 14, _ =>
    refine r_iload_n dX7_count_0 (i := 1) rfl rfl ?_
    refine r_iconst dX7_count_1 (v := 0) rfl ?_
    refine r_iconst dX7_count_2 (v := 1) rfl ?_
    refine sX7_count_3 (Nat.le_refl _) (Nat.le_refl _) (Nat.le_of_ble_eq_true rfl) (tX7_in) ?_
    refine r_if_eq dX7_count_6 (tgt := 18) rfl (fun _ => ?_) (fun h6 => absurd ((by decide)) h6)
    refine r_iload_n dX7_count_18 (i := 1) rfl rfl ?_
    refine r_iconst dX7_count_19 (v := 4) rfl ?_
    refine r_bipush dX7_count_20 (v := 9) rfl ?_
    refine sX7_count_22 (Nat.le_refl _) (Nat.le_refl _) (Nat.le_of_ble_eq_true rfl) (tX7_in) ?_
    refine r_if_eq dX7_count_25 (tgt := 40) rfl (fun _ => ?_) (fun h25 => absurd ((by decide)) h25)
    refine r_iload_n dX7_count_40 (i := 1) rfl rfl ?_
    refine r_tabIn dX7_count_41 (off := 100) (tgt := 141) (by decide) (by decide) (by decide) rfl ?_
    refine r_aload_n dX7_count_141 (i := 0) rfl rfl ?_
    refine r_getI dX7_count_142 f_7_151 rfl rfl lv16 ?_
    exact e_i dX7_count_145 rfl (by first | rfl | exact bi_nar _) (by first | rfl | simp [bi, *]) rfl
  | 15, _ =>
    refine r_iload_n dX7_count_0 (i := 1) rfl rfl ?_
    refine r_iconst dX7_count_1 (v := 0) rfl ?_
    refine r_iconst dX7_count_2 (v := 1) rfl ?_
    refine sX7_count_3 (Nat.le_refl _) (Nat.le_refl _) (Nat.le_of_ble_eq_true rfl) (tX7_in) ?_
    refine r_if_eq dX7_count_6 (tgt := 18) rfl (fun _ => ?_) (fun h6 => absurd ((by decide)) h6)
    refine r_iload_n dX7_count_18 (i := 1) rfl rfl ?_
    refine r_iconst dX7_count_19 (v := 4) rfl ?_
    refine r_bipush dX7_count_20 (v := 9) rfl ?_
    refine sX7_count_22 (Nat.le_refl _) (Nat.le_refl _) (Nat.le_of_ble_eq_true rfl) (tX7_in) ?_
    refine r_if_eq dX7_count_25 (tgt := 40) rfl (fun _ => ?_) (fun h25 => absurd ((by decide)) h25)
    refine r_iload_n dX7_count_40 (i := 1) rfl rfl ?_
    refine r_tabIn dX7_count_41 (off := 105) (tgt := 146) (by decide) (by decide) (by decide) rfl ?_
    refine r_aload_n dX7_count_146 (i := 0) rfl rfl ?_
    refine r_getI dX7_count_147 f_7_44 rfl rfl lv16 ?_
    exact e_i dX7_count_150 rfl (by first | rfl | exact bi_nar _) (by first | rfl | simp [bi, *]) rfl
  | k + 16, hk => exact absurd hk (by omega)
theorem tX7_otherwise_e {g : Gh} {s x w : Int32} {hp : HPt} (hx : (fIn s 0 1 && rHas hp x) = false) : Ci g mX7_otherwise [vR (16, 0, 0, 0), vI s, vI x, vI w] hp (-1) hp := by
  unfold Ci
  refine r_iload_n dX7_otherwise_0 (i := 1) rfl rfl ?_
  refine sX7_otherwise_1 (Nat.le_refl _) (Nat.le_refl _) (Nat.le_of_ble_eq_true rfl) (tX7_isStore) ?_
  refine r_if_eq dX7_otherwise_4 (tgt := 15) rfl (fun h4 => ?_) (fun h4 => ?_)
  · refine r_iconst dX7_otherwise_15 (v := (-1)) rfl ?_
    exact e_i dX7_otherwise_16 rfl (by first | rfl | exact bi_nar _) (by first | rfl | simp [bi, *]) rfl
  · refine r_aload_n dX7_otherwise_7 (i := 0) rfl rfl ?_
    refine r_iload_n dX7_otherwise_8 (i := 2) rfl rfl ?_
    refine sX7_otherwise_9 (Nat.le_refl _) (Nat.le_refl _) rfl lv16 (Nat.le_of_ble_eq_true rfl) (tX7_isSecret) ?_
    refine r_if_ne dX7_otherwise_12 (tgt := 17) rfl (fun h12 => ?_) (fun h12 => ?_)
    · exfalso
      simp_all [bi_0, bi_n0]
    · refine r_iconst dX7_otherwise_15 (v := (-1)) rfl ?_
      exact e_i dX7_otherwise_16 rfl (by first | rfl | exact bi_nar _) (by first | rfl | simp [bi, *]) rfl
theorem tX7_otherwise_e2 {g : Gh} {s x w : Int32} {hp : HPt} (hx : (fIn s 0 1 && rHas hp x) = true) (hw : fIn w 0 255 = false) : Ci g mX7_otherwise [vR (16, 0, 0, 0), vI s, vI x, vI w] hp (-2) hp := by
  rw [Bool.and_eq_true] at hx
  unfold Ci
  refine r_iload_n dX7_otherwise_0 (i := 1) rfl rfl ?_
  refine sX7_otherwise_1 (Nat.le_refl _) (Nat.le_refl _) (Nat.le_of_ble_eq_true rfl) (tX7_isStore) ?_
  refine r_if_eq dX7_otherwise_4 (tgt := 15) rfl (fun h4 => absurd h4 (bi_n0.mpr hx.1)) (fun _ => ?_)
  refine r_aload_n dX7_otherwise_7 (i := 0) rfl rfl ?_
  refine r_iload_n dX7_otherwise_8 (i := 2) rfl rfl ?_
  refine sX7_otherwise_9 (Nat.le_refl _) (Nat.le_refl _) rfl lv16 (Nat.le_of_ble_eq_true rfl) (tX7_isSecret) ?_
  refine r_if_ne dX7_otherwise_12 (tgt := 17) rfl (fun _ => ?_) (fun h12 => absurd h12 (bi_n0.mpr hx.2))
  refine r_iload_n dX7_otherwise_17 (i := 3) rfl rfl ?_
  refine r_iconst dX7_otherwise_18 (v := 0) rfl ?_
  refine r_sipush dX7_otherwise_19 (v := 255) rfl ?_
  refine sX7_otherwise_22 (Nat.le_refl _) (Nat.le_refl _) (Nat.le_of_ble_eq_true rfl) (tX7_in) ?_
  refine r_if_eq dX7_otherwise_25 (tgt := 47) rfl (fun _ => ?_) (fun h25 => absurd (bi_0.mpr hw) h25)
  refine r_bipush dX7_otherwise_47 (v := (-2)) rfl ?_
  exact e_i dX7_otherwise_49 rfl (by first | rfl | exact bi_nar _) (by first | rfl | simp [bi, *]) rfl
theorem tX7_otherwise {g : Gh} {j b : Nat} {w : Int32} {hp : HPt} (hj : j < 8) (hb : b < 2) (hx : rHas hp (nI j) = true) (hw : fIn w 0 255 = true) : Ci g mX7_otherwise [vR (16, 0, 0, 0), vI (nI b), vI (nI j), vI w] hp (jrem (w + 256 - hp (17, 0, 0, 0) (cI j (16 + b))) 256) hp := by
  unfold Ci
  refine r_iload_n dX7_otherwise_0 (i := 1) rfl rfl ?_
  refine sX7_otherwise_1 (Nat.le_refl _) (Nat.le_refl _) (Nat.le_of_ble_eq_true rfl) (tX7_isStore) ?_
  refine r_if_eq dX7_otherwise_4 (tgt := 15) rfl (fun h4 => absurd h4 (bi_n0.mpr (fIn_nI (l := 1) (by omega) (by decide)))) (fun _ => ?_)
  refine r_aload_n dX7_otherwise_7 (i := 0) rfl rfl ?_
  refine r_iload_n dX7_otherwise_8 (i := 2) rfl rfl ?_
  refine sX7_otherwise_9 (Nat.le_refl _) (Nat.le_refl _) rfl lv16 (Nat.le_of_ble_eq_true rfl) (tX7_isSecret) ?_
  refine r_if_ne dX7_otherwise_12 (tgt := 17) rfl (fun _ => ?_) (fun h12 => absurd h12 (bi_n0.mpr hx))
  refine r_iload_n dX7_otherwise_17 (i := 3) rfl rfl ?_
  refine r_iconst dX7_otherwise_18 (v := 0) rfl ?_
  refine r_sipush dX7_otherwise_19 (v := 255) rfl ?_
  refine sX7_otherwise_22 (Nat.le_refl _) (Nat.le_refl _) (Nat.le_of_ble_eq_true rfl) (tX7_in) ?_
  refine r_if_eq dX7_otherwise_25 (tgt := 47) rfl (fun h25 => absurd h25 (bi_n0.mpr hw)) (fun _ => ?_)
  refine r_iload_n dX7_otherwise_28 (i := 3) rfl rfl ?_
  refine r_sipush dX7_otherwise_29 (v := 256) rfl ?_
  refine r_iadd dX7_otherwise_32 ?_
  refine r_aload_n dX7_otherwise_33 (i := 0) rfl rfl ?_
  refine r_iload_n dX7_otherwise_34 (i := 1) rfl rfl ?_
  refine r_iload_n dX7_otherwise_35 (i := 2) rfl rfl ?_
  refine sX7_otherwise_36 (Nat.le_refl _) (Nat.le_refl _) rfl lv16 (Nat.le_of_ble_eq_true rfl) (tX7_partOf hj hb) ?_
  refine r_isub dX7_otherwise_39 ?_
  refine r_sipush dX7_otherwise_40 (v := 256) rfl ?_
  refine r_irem dX7_otherwise_43 (by decide) ?_
  refine r_goto dX7_otherwise_44 (tgt := 49) rfl ?_
  exact e_i dX7_otherwise_49 rfl (by first | rfl | exact bi_nar _) (by first | rfl | simp [bi, *]) rfl
theorem tX7_passing_e {g : Gh} {s x w : Int32} {hp : HPt} (hx : (fIn s 0 1 && rHas hp x) = false) : Ci g mX7_passing [vR (16, 0, 0, 0), vI s, vI x, vI w] hp (-1) hp := by
  unfold Ci
  refine r_iload_n dX7_passing_0 (i := 1) rfl rfl ?_
  refine sX7_passing_1 (Nat.le_refl _) (Nat.le_refl _) (Nat.le_of_ble_eq_true rfl) (tX7_isStore) ?_
  refine r_if_eq dX7_passing_4 (tgt := 15) rfl (fun h4 => ?_) (fun h4 => ?_)
  · refine r_iconst dX7_passing_15 (v := (-1)) rfl ?_
    exact e_i dX7_passing_16 rfl (by first | rfl | exact bi_nar _) (by first | rfl | simp [bi, *]) rfl
  · refine r_aload_n dX7_passing_7 (i := 0) rfl rfl ?_
    refine r_iload_n dX7_passing_8 (i := 2) rfl rfl ?_
    refine sX7_passing_9 (Nat.le_refl _) (Nat.le_refl _) rfl lv16 (Nat.le_of_ble_eq_true rfl) (tX7_isSecret) ?_
    refine r_if_ne dX7_passing_12 (tgt := 17) rfl (fun h12 => ?_) (fun h12 => ?_)
    · exfalso
      simp_all [bi_0, bi_n0]
    · refine r_iconst dX7_passing_15 (v := (-1)) rfl ?_
      exact e_i dX7_passing_16 rfl (by first | rfl | exact bi_nar _) (by first | rfl | simp [bi, *]) rfl
theorem tX7_passing_e2 {g : Gh} {s x w : Int32} {hp : HPt} (hx : (fIn s 0 1 && rHas hp x) = true) (hw : fIn w 0 255 = false) : Ci g mX7_passing [vR (16, 0, 0, 0), vI s, vI x, vI w] hp (-2) hp := by
  rw [Bool.and_eq_true] at hx
  unfold Ci
  refine r_iload_n dX7_passing_0 (i := 1) rfl rfl ?_
  refine sX7_passing_1 (Nat.le_refl _) (Nat.le_refl _) (Nat.le_of_ble_eq_true rfl) (tX7_isStore) ?_
  refine r_if_eq dX7_passing_4 (tgt := 15) rfl (fun h4 => absurd h4 (bi_n0.mpr hx.1)) (fun _ => ?_)
  refine r_aload_n dX7_passing_7 (i := 0) rfl rfl ?_
  refine r_iload_n dX7_passing_8 (i := 2) rfl rfl ?_
  refine sX7_passing_9 (Nat.le_refl _) (Nat.le_refl _) rfl lv16 (Nat.le_of_ble_eq_true rfl) (tX7_isSecret) ?_
  refine r_if_ne dX7_passing_12 (tgt := 17) rfl (fun _ => ?_) (fun h12 => absurd h12 (bi_n0.mpr hx.2))
  refine r_iload_n dX7_passing_17 (i := 3) rfl rfl ?_
  refine r_iconst dX7_passing_18 (v := 0) rfl ?_
  refine r_sipush dX7_passing_19 (v := 255) rfl ?_
  refine sX7_passing_22 (Nat.le_refl _) (Nat.le_refl _) (Nat.le_of_ble_eq_true rfl) (tX7_in) ?_
  refine r_if_ne dX7_passing_25 (tgt := 31) rfl (fun h25 => absurd (bi_0.mpr hw) h25) (fun _ => ?_)
  refine r_bipush dX7_passing_28 (v := (-2)) rfl ?_
  exact e_i dX7_passing_30 rfl (by first | rfl | exact bi_nar _) (by first | rfl | simp [bi, *]) rfl
/-- the first tag's offset that passes, sought from 256 - k on -/
def rsr (hp : HPt) (j b : Nat) (o : Int32) : Nat → Nat
  | 0 => 256
  | k + 1 => if rPs hp j b o (nI (256 - (k + 1))) = true then 256 - (k + 1) else rsr hp j b o k
theorem tX7_passing {g : Gh} {j b : Nat} {w : Int32} {hp : HPt} (hj : j < 8) (hb : b < 2) (hx : rHas hp (nI j) = true) (hw : fIn w 0 255 = true) : Ci g mX7_passing [vR (16, 0, 0, 0), vI (nI b), vI (nI j), vI w] hp (nI (rsr hp j b w 256)) hp := by
  have key : ∀ k, k ≤ 256 → V g mX7_passing 0 0 0 0 616 34 [some (vR (16, 0, 0, 0)), some (vI (nI b)), some (vI (nI j)), some (vI w), some (vI (nI (256 - k)))] [] RP hp (Pi (nI (rsr hp j b w k)) hp) := by
    intro k
    induction k with
    | zero =>
      intro hk
      refine r_aload_n dX7_passing_34 (i := 0) rfl rfl ?_
      refine r_iload_n dX7_passing_35 (i := 1) rfl rfl ?_
      refine r_iload_n dX7_passing_36 (i := 2) rfl rfl ?_
      refine r_iload_n dX7_passing_37 (i := 3) rfl rfl ?_
      refine r_iload dX7_passing_38 rfl ?_
      refine sX7_passing_40 (Nat.le_refl _) (Nat.le_refl _) rfl lv16 (Nat.le_of_ble_eq_true rfl) (tX7_isPassed hj hb) ?_
      refine r_if_ne dX7_passing_43 (tgt := 60) rfl (fun h43 => ?_) (fun h43 => ?_)
      · refine r_iload dX7_passing_60 rfl ?_
        exact e_i dX7_passing_62 rfl (by first | rfl | exact bi_nar _) (by first | rfl | simp [bi, *]) rfl
      · refine r_iload dX7_passing_46 rfl ?_
        refine r_sipush dX7_passing_48 (v := 256) rfl ?_
        refine r_icmp_ge dX7_passing_51 (tgt := 60) rfl (fun _ => ?_) (fun h51 => absurd ((by decide : (256 : Int32) ≤ nI 256)) h51)
        refine r_iload dX7_passing_60 rfl ?_
        exact e_i dX7_passing_62 rfl (by first | rfl | exact bi_nar _) (by first | rfl | simp [bi, *]) rfl
    | succ k ih =>
      intro hk
      have h := ih (by omega)
      have e : nI (256 - (k + 1)) + 1 = nI (256 - k) := by rw [nI_1]; congr 1; omega
      refine r_aload_n dX7_passing_34 (i := 0) rfl rfl ?_
      refine r_iload_n dX7_passing_35 (i := 1) rfl rfl ?_
      refine r_iload_n dX7_passing_36 (i := 2) rfl rfl ?_
      refine r_iload_n dX7_passing_37 (i := 3) rfl rfl ?_
      refine r_iload dX7_passing_38 rfl ?_
      refine sX7_passing_40 (Nat.le_refl _) (Nat.le_refl _) rfl lv16 (Nat.le_of_ble_eq_true rfl) (tX7_isPassed hj hb) ?_
      refine r_if_ne dX7_passing_43 (tgt := 60) rfl (fun h43 => ?_) (fun h43 => ?_)
      · refine r_iload dX7_passing_60 rfl ?_
        exact e_i dX7_passing_62 rfl rfl (congrArg nI (if_pos (bi_n0.mp h43)).symm) rfl
      · refine r_iload dX7_passing_46 rfl ?_
        refine r_sipush dX7_passing_48 (v := 256) rfl ?_
        refine r_icmp_ge dX7_passing_51 (tgt := 60) rfl (fun h51 => absurd h51 ((nI_ge (b := 256) (by omega) (by decide) : ¬ (256 : Int32) ≤ nI (256 - (k + 1))))) (fun _ => ?_)
        have hq : ¬ rPs hp j b w (nI (256 - (k + 1))) = true := fun h => by rw [h] at h43; simp [bi] at h43
        refine r_inc1 dX7_passing_54 rfl (Nat.le_of_ble_eq_true rfl) rfl ?_
        refine r_goto dX7_passing_57 (tgt := 34) rfl ?_
        rw [show rsr hp j b w (k + 1) = rsr hp j b w k from if_neg hq]
        refine V.eqL ?_ h
        show [_, _, _, _, some (vI (nI (256 - (k + 1)) + 1))] = _
        rw [e]
  unfold Ci
  refine r_iload_n dX7_passing_0 (i := 1) rfl rfl ?_
  refine sX7_passing_1 (Nat.le_refl _) (Nat.le_refl _) (Nat.le_of_ble_eq_true rfl) (tX7_isStore) ?_
  refine r_if_eq dX7_passing_4 (tgt := 15) rfl (fun h4 => absurd h4 (bi_n0.mpr (fIn_nI (l := 1) (by omega) (by decide)))) (fun _ => ?_)
  refine r_aload_n dX7_passing_7 (i := 0) rfl rfl ?_
  refine r_iload_n dX7_passing_8 (i := 2) rfl rfl ?_
  refine sX7_passing_9 (Nat.le_refl _) (Nat.le_refl _) rfl lv16 (Nat.le_of_ble_eq_true rfl) (tX7_isSecret) ?_
  refine r_if_ne dX7_passing_12 (tgt := 17) rfl (fun _ => ?_) (fun h12 => absurd h12 (bi_n0.mpr hx))
  refine r_iload_n dX7_passing_17 (i := 3) rfl rfl ?_
  refine r_iconst dX7_passing_18 (v := 0) rfl ?_
  refine r_sipush dX7_passing_19 (v := 255) rfl ?_
  refine sX7_passing_22 (Nat.le_refl _) (Nat.le_refl _) (Nat.le_of_ble_eq_true rfl) (tX7_in) ?_
  refine r_if_ne dX7_passing_25 (tgt := 31) rfl (fun _ => ?_) (fun h25 => absurd h25 (bi_n0.mpr hw))
  refine r_iconst dX7_passing_31 (v := 0) rfl ?_
  refine r_istore dX7_passing_32 (Nat.le_of_ble_eq_true rfl) rfl rfl ?_
  exact key 256 (by decide)
theorem tX7_passes__e {g : Gh} {s x w : Int32} {hp : HPt} (hx : (fIn s 0 1 && rHas hp x) = false) : Ci g mX7_passes_ [vR (16, 0, 0, 0), vI s, vI x, vI w] hp (-1) hp := by
  unfold Ci
  refine r_iload_n dX7_passes__0 (i := 1) rfl rfl ?_
  refine sX7_passes__1 (Nat.le_refl _) (Nat.le_refl _) (Nat.le_of_ble_eq_true rfl) (tX7_isStore) ?_
  refine r_if_eq dX7_passes__4 (tgt := 15) rfl (fun h4 => ?_) (fun h4 => ?_)
  · refine r_iconst dX7_passes__15 (v := (-1)) rfl ?_
    exact e_i dX7_passes__16 rfl (by first | rfl | exact bi_nar _) (by first | rfl | simp [bi, *]) rfl
  · refine r_aload_n dX7_passes__7 (i := 0) rfl rfl ?_
    refine r_iload_n dX7_passes__8 (i := 2) rfl rfl ?_
    refine sX7_passes__9 (Nat.le_refl _) (Nat.le_refl _) rfl lv16 (Nat.le_of_ble_eq_true rfl) (tX7_isSecret) ?_
    refine r_if_ne dX7_passes__12 (tgt := 17) rfl (fun h12 => ?_) (fun h12 => ?_)
    · exfalso
      simp_all [bi_0, bi_n0]
    · refine r_iconst dX7_passes__15 (v := (-1)) rfl ?_
      exact e_i dX7_passes__16 rfl (by first | rfl | exact bi_nar _) (by first | rfl | simp [bi, *]) rfl
theorem tX7_passes__e2 {g : Gh} {s x w : Int32} {hp : HPt} (hx : (fIn s 0 1 && rHas hp x) = true) (hw : fIn w 0 256 = false) : Ci g mX7_passes_ [vR (16, 0, 0, 0), vI s, vI x, vI w] hp (-2) hp := by
  rw [Bool.and_eq_true] at hx
  unfold Ci
  refine r_iload_n dX7_passes__0 (i := 1) rfl rfl ?_
  refine sX7_passes__1 (Nat.le_refl _) (Nat.le_refl _) (Nat.le_of_ble_eq_true rfl) (tX7_isStore) ?_
  refine r_if_eq dX7_passes__4 (tgt := 15) rfl (fun h4 => absurd h4 (bi_n0.mpr hx.1)) (fun _ => ?_)
  refine r_aload_n dX7_passes__7 (i := 0) rfl rfl ?_
  refine r_iload_n dX7_passes__8 (i := 2) rfl rfl ?_
  refine sX7_passes__9 (Nat.le_refl _) (Nat.le_refl _) rfl lv16 (Nat.le_of_ble_eq_true rfl) (tX7_isSecret) ?_
  refine r_if_ne dX7_passes__12 (tgt := 17) rfl (fun _ => ?_) (fun h12 => absurd h12 (bi_n0.mpr hx.2))
  refine r_iload_n dX7_passes__17 (i := 3) rfl rfl ?_
  refine r_iconst dX7_passes__18 (v := 0) rfl ?_
  refine r_sipush dX7_passes__19 (v := 256) rfl ?_
  refine sX7_passes__22 (Nat.le_refl _) (Nat.le_refl _) (Nat.le_of_ble_eq_true rfl) (tX7_in) ?_
  refine r_if_ne dX7_passes__25 (tgt := 31) rfl (fun h25 => absurd (bi_0.mpr hw) h25) (fun _ => ?_)
  refine r_bipush dX7_passes__28 (v := (-2)) rfl ?_
  exact e_i dX7_passes__30 rfl (by first | rfl | exact bi_nar _) (by first | rfl | simp [bi, *]) rfl
def rnP (hp : HPt) (j b : Nat) (q : Int32) : Nat → Nat
  | 0 => 0
  | r + 1 => rnP hp j b q r + (if rPs hp j b (nI (r + 1)) q = true then 1 else 0)
theorem tX7_passes_ {g : Gh} {j b : Nat} {w : Int32} {hp : HPt} (hj : j < 8) (hb : b < 2) (hx : rHas hp (nI j) = true) (hw : fIn w 0 256 = true) : Ci g mX7_passes_ [vR (16, 0, 0, 0), vI (nI b), vI (nI j), vI w] hp (nI (rnP hp j b w 255)) hp := by
  have key : ∀ k r, r + k = 255 → V g mX7_passes_ 0 0 0 0 616 37 [some (vR (16, 0, 0, 0)), some (vI (nI b)), some (vI (nI j)), some (vI w), some (vI (nI (rnP hp j b w r))), some (vI (nI (r + 1)))] [] RP hp (Pi (nI (rnP hp j b w 255)) hp) := by
    intro k
    induction k with
    | zero =>
      intro r hr
      have hr : r = 255 := by omega
      subst hr
      refine r_iload dX7_passes__37 rfl ?_
      refine r_sipush dX7_passes__39 (v := 256) rfl ?_
      refine r_icmp_ge dX7_passes__42 (tgt := 73) rfl (fun _ => ?_) (fun h42 => absurd ((by decide : (256 : Int32) ≤ nI (255 + 1))) h42)
      refine r_iload dX7_passes__73 rfl ?_
      exact e_i dX7_passes__75 rfl (by first | rfl | exact bi_nar _) (by first | rfl | simp [bi, *]) rfl
    | succ k ih =>
      intro r hr
      have h := ih (r + 1) (by omega)
      refine r_iload dX7_passes__37 rfl ?_
      refine r_sipush dX7_passes__39 (v := 256) rfl ?_
      refine r_icmp_ge dX7_passes__42 (tgt := 73) rfl (fun h42 => absurd h42 ((nI_ge (b := 256) (by omega) (by decide) : ¬ (256 : Int32) ≤ nI (r + 1)))) (fun _ => ?_)
      refine r_iload dX7_passes__45 rfl ?_
      refine r_aload_n dX7_passes__47 (i := 0) rfl rfl ?_
      refine r_iload_n dX7_passes__48 (i := 1) rfl rfl ?_
      refine r_iload_n dX7_passes__49 (i := 2) rfl rfl ?_
      refine r_iload dX7_passes__50 rfl ?_
      refine r_iload_n dX7_passes__52 (i := 3) rfl rfl ?_
      refine sX7_passes__53 (Nat.le_refl _) (Nat.le_refl _) rfl lv16 (Nat.le_of_ble_eq_true rfl) (tX7_isPassed hj hb) ?_
      refine r_if_eq dX7_passes__56 (tgt := 63) rfl (fun h56 => ?_) (fun h56 => ?_)
      · refine r_iconst dX7_passes__63 (v := 0) rfl ?_
        refine r_iadd dX7_passes__64 ?_
        refine r_istore dX7_passes__65 (Nat.le_of_ble_eq_true rfl) rfl rfl ?_
        refine r_inc1 dX7_passes__67 rfl (Nat.le_of_ble_eq_true rfl) rfl ?_
        refine r_goto dX7_passes__70 (tgt := 37) rfl ?_
        refine V.eqL ?_ h
        first | (have hq := bi_0.mp h56; simp [rnP, hq, nI_1]; done) | (have hq := bi_n0.mp h56; simp [rnP, hq, nI_1]; done)
      · refine r_iconst dX7_passes__59 (v := 1) rfl ?_
        refine r_goto dX7_passes__60 (tgt := 64) rfl ?_
        refine r_iadd dX7_passes__64 ?_
        refine r_istore dX7_passes__65 (Nat.le_of_ble_eq_true rfl) rfl rfl ?_
        refine r_inc1 dX7_passes__67 rfl (Nat.le_of_ble_eq_true rfl) rfl ?_
        refine r_goto dX7_passes__70 (tgt := 37) rfl ?_
        refine V.eqL ?_ h
        first | (have hq := bi_0.mp h56; simp [rnP, hq, nI_1]; done) | (have hq := bi_n0.mp h56; simp [rnP, hq, nI_1]; done)
  unfold Ci
  refine r_iload_n dX7_passes__0 (i := 1) rfl rfl ?_
  refine sX7_passes__1 (Nat.le_refl _) (Nat.le_refl _) (Nat.le_of_ble_eq_true rfl) (tX7_isStore) ?_
  refine r_if_eq dX7_passes__4 (tgt := 15) rfl (fun h4 => absurd h4 (bi_n0.mpr (fIn_nI (l := 1) (by omega) (by decide)))) (fun _ => ?_)
  refine r_aload_n dX7_passes__7 (i := 0) rfl rfl ?_
  refine r_iload_n dX7_passes__8 (i := 2) rfl rfl ?_
  refine sX7_passes__9 (Nat.le_refl _) (Nat.le_refl _) rfl lv16 (Nat.le_of_ble_eq_true rfl) (tX7_isSecret) ?_
  refine r_if_ne dX7_passes__12 (tgt := 17) rfl (fun _ => ?_) (fun h12 => absurd h12 (bi_n0.mpr hx))
  refine r_iload_n dX7_passes__17 (i := 3) rfl rfl ?_
  refine r_iconst dX7_passes__18 (v := 0) rfl ?_
  refine r_sipush dX7_passes__19 (v := 256) rfl ?_
  refine sX7_passes__22 (Nat.le_refl _) (Nat.le_refl _) (Nat.le_of_ble_eq_true rfl) (tX7_in) ?_
  refine r_if_ne dX7_passes__25 (tgt := 31) rfl (fun _ => ?_) (fun h25 => absurd h25 (bi_n0.mpr hw))
  refine r_iconst dX7_passes__31 (v := 0) rfl ?_
  refine r_istore dX7_passes__32 (Nat.le_of_ble_eq_true rfl) rfl rfl ?_
  refine r_iconst dX7_passes__34 (v := 1) rfl ?_
  refine r_istore dX7_passes__35 (Nat.le_of_ble_eq_true rfl) rfl rfl ?_
  exact key 255 0 rfl
def rRk (hp : HPt) (j : Nat) : Nat → Nat
  | 0 => 0
  | r + 1 => rRk hp j r + (if fIn (hp (17, 0, 0, 0) (cI j (18 + 4 * r))) 1 2 = true then 1 else 0)
theorem rRk_le {hp : HPt} {j : Nat} : ∀ n, rRk hp j n ≤ n
  | 0 => Nat.le_refl _
  | n + 1 => by
    have h := rRk_le (hp := hp) (j := j) n
    show rRk hp j n + (if _ then 1 else 0) ≤ n + 1
    split <;> omega
theorem tX7_versionsAtRisk {g : Gh} {j m : Nat} {hp : HPt} (hj : j < 8) (hm : m < 5) (hM : hp (17, 0, 0, 0) (cI j 0) = nI m) : Ci g mX7_versionsAtRisk [vR (16, 0, 0, 0), vI (nI j)] hp (nI (rRk hp j (m + 1))) hp := by
  have key : ∀ k r, r + k = m + 1 → V g mX7_versionsAtRisk 0 0 0 0 616 4 [some (vR (16, 0, 0, 0)), some (vI (nI j)), some (vI (nI (rRk hp j r))), some (vI (nI r))] [] RP hp (Pi (nI (rRk hp j (m + 1))) hp) := by
    intro k
    induction k with
    | zero =>
      intro r hr
      have hr : r = m + 1 := by omega
      subst hr
      refine r_iload_n dX7_versionsAtRisk_4 (i := 3) rfl rfl ?_
      refine r_aload_n dX7_versionsAtRisk_5 (i := 0) rfl rfl ?_
      refine r_getR dX7_versionsAtRisk_6 f_7_7 rfl rfl rfl lv16 ?_
      refine r_iload_n dX7_versionsAtRisk_9 (i := 1) rfl rfl ?_
      refine r_iconst dX7_versionsAtRisk_10 (v := 0) rfl ?_
      refine sX7_versionsAtRisk_11 (Nat.le_refl _) (Nat.le_refl _) (Nat.le_of_ble_eq_true rfl) (tX7_cell rfl (f := 0) rfl) ?_
      refine n_iald dX7_versionsAtRisk_14 rfl lv17 rfl (by first | assumption | omega | (unfold cI; omega)) ?_
      refine r_icmp_gt dX7_versionsAtRisk_15 (tgt := 51) rfl (fun _ => ?_) (fun h15 => absurd ((by rw [hM]; exact nI_lt (by omega) (by omega) : hp (17, 0, 0, 0) (cI j 0) < nI (m + 1))) h15)
      refine r_iload_n dX7_versionsAtRisk_51 (i := 2) rfl rfl ?_
      exact e_i dX7_versionsAtRisk_52 rfl (by first | rfl | exact bi_nar _) (by first | rfl | simp [bi, *]) rfl
    | succ k ih =>
      intro r hr
      have hr5 : r < 5 := by omega
      have h := ih (r + 1) (by omega)
      refine r_iload_n dX7_versionsAtRisk_4 (i := 3) rfl rfl ?_
      refine r_aload_n dX7_versionsAtRisk_5 (i := 0) rfl rfl ?_
      refine r_getR dX7_versionsAtRisk_6 f_7_7 rfl rfl rfl lv16 ?_
      refine r_iload_n dX7_versionsAtRisk_9 (i := 1) rfl rfl ?_
      refine r_iconst dX7_versionsAtRisk_10 (v := 0) rfl ?_
      refine sX7_versionsAtRisk_11 (Nat.le_refl _) (Nat.le_refl _) (Nat.le_of_ble_eq_true rfl) (tX7_cell rfl (f := 0) rfl) ?_
      refine n_iald dX7_versionsAtRisk_14 rfl lv17 rfl (by first | assumption | omega | (unfold cI; omega)) ?_
      refine r_icmp_gt dX7_versionsAtRisk_15 (tgt := 51) rfl (fun h15 => absurd h15 ((by rw [hM]; exact nI_nlt (by omega) (by omega) : ¬ hp (17, 0, 0, 0) (cI j 0) < nI r))) (fun _ => ?_)
      refine r_iload_n dX7_versionsAtRisk_18 (i := 2) rfl rfl ?_
      refine r_aload_n dX7_versionsAtRisk_19 (i := 0) rfl rfl ?_
      refine r_getR dX7_versionsAtRisk_20 f_7_7 rfl rfl rfl lv16 ?_
      refine r_iload_n dX7_versionsAtRisk_23 (i := 1) rfl rfl ?_
      refine r_iload_n dX7_versionsAtRisk_24 (i := 3) rfl rfl ?_
      refine r_iconst dX7_versionsAtRisk_25 (v := 3) rfl ?_
      refine sX7_versionsAtRisk_26 (Nat.le_refl _) (Nat.le_refl _) (Nat.le_of_ble_eq_true rfl) (tX7_at rfl rfl (w := 3) rfl (f := 18 + 4 * r) (by omega)) ?_
      refine n_iald dX7_versionsAtRisk_29 rfl lv17 rfl (by first | assumption | omega | (unfold cI; omega)) ?_
      refine r_iconst dX7_versionsAtRisk_30 (v := 1) rfl ?_
      refine r_iconst dX7_versionsAtRisk_31 (v := 2) rfl ?_
      refine sX7_versionsAtRisk_32 (Nat.le_refl _) (Nat.le_refl _) (Nat.le_of_ble_eq_true rfl) (tX7_in) ?_
      refine r_if_eq dX7_versionsAtRisk_35 (tgt := 42) rfl (fun h35 => ?_) (fun h35 => ?_)
      · refine r_iconst dX7_versionsAtRisk_42 (v := 0) rfl ?_
        refine r_iadd dX7_versionsAtRisk_43 ?_
        refine r_istore_n dX7_versionsAtRisk_44 (i := 2) rfl (Nat.le_of_ble_eq_true rfl) rfl rfl ?_
        refine r_inc1 dX7_versionsAtRisk_45 rfl (Nat.le_of_ble_eq_true rfl) rfl ?_
        refine r_goto dX7_versionsAtRisk_48 (tgt := 4) rfl ?_
        refine V.eqL ?_ h
        first | (have hq := bi_0.mp h35; simp [rRk, hq, nI_1]; done) | (have hq := bi_n0.mp h35; simp [rRk, hq, nI_1]; done)
      · refine r_iconst dX7_versionsAtRisk_38 (v := 1) rfl ?_
        refine r_goto dX7_versionsAtRisk_39 (tgt := 43) rfl ?_
        refine r_iadd dX7_versionsAtRisk_43 ?_
        refine r_istore_n dX7_versionsAtRisk_44 (i := 2) rfl (Nat.le_of_ble_eq_true rfl) rfl rfl ?_
        refine r_inc1 dX7_versionsAtRisk_45 rfl (Nat.le_of_ble_eq_true rfl) rfl ?_
        refine r_goto dX7_versionsAtRisk_48 (tgt := 4) rfl ?_
        refine V.eqL ?_ h
        first | (have hq := bi_0.mp h35; simp [rRk, hq, nI_1]; done) | (have hq := bi_n0.mp h35; simp [rRk, hq, nI_1]; done)
  unfold Ci
  refine r_iconst dX7_versionsAtRisk_0 (v := 0) rfl ?_
  refine r_istore_n dX7_versionsAtRisk_1 (i := 2) rfl (Nat.le_of_ble_eq_true rfl) rfl rfl ?_
  refine r_iconst dX7_versionsAtRisk_2 (v := 0) rfl ?_
  refine r_istore_n dX7_versionsAtRisk_3 (i := 3) rfl (Nat.le_of_ble_eq_true rfl) rfl rfl ?_
  exact key (m + 1) 0 (by omega)
theorem tX7_needed_e {g : Gh} {x : Int32} {hp : HPt} (hx : rHas hp x = false) : Ci g mX7_needed [vR (16, 0, 0, 0), vI x] hp (-1) hp := by
  unfold Ci
  refine r_aload_n dX7_needed_0 (i := 0) rfl rfl ?_
  refine r_iload_n dX7_needed_1 (i := 1) rfl rfl ?_
  refine sX7_needed_2 (Nat.le_refl _) (Nat.le_refl _) rfl lv16 (Nat.le_of_ble_eq_true rfl) (tX7_isSecret) ?_
  refine r_if_ne dX7_needed_5 (tgt := 10) rfl (fun h5 => absurd (bi_0.mpr hx) h5) (fun _ => ?_)
  refine r_iconst dX7_needed_8 (v := (-1)) rfl ?_
  exact e_i dX7_needed_9 rfl (by first | rfl | exact bi_nar _) (by first | rfl | simp [bi, *]) rfl
theorem tX7_needed {g : Gh} {j m : Nat} {hp : HPt} (hj : j < 8) (hm : m < 5) (hM : hp (17, 0, 0, 0) (cI j 0) = nI m) (hx : rHas hp (nI j) = true) : Ci g mX7_needed [vR (16, 0, 0, 0), vI (nI j)] hp (if hp (17, 0, 0, 0) (cI j 5) = 1 then 0 else (if 0 < rRk hp j (m + 1) then 1 else 2)) hp := by
  have hle := rRk_le (hp := hp) (j := j) (m + 1)
  have hz : nI (rRk hp j (m + 1)) ≤ 0 ↔ ¬ 0 < rRk hp j (m + 1) := by
    rw [show (0 : Int32) = nI 0 from rfl, nI_leI (by omega) (by decide)]
    omega
  unfold Ci
  refine r_aload_n dX7_needed_0 (i := 0) rfl rfl ?_
  refine r_iload_n dX7_needed_1 (i := 1) rfl rfl ?_
  refine sX7_needed_2 (Nat.le_refl _) (Nat.le_refl _) rfl lv16 (Nat.le_of_ble_eq_true rfl) (tX7_isSecret) ?_
  refine r_if_ne dX7_needed_5 (tgt := 10) rfl (fun _ => ?_) (fun h5 => absurd h5 (bi_n0.mpr hx))
  refine r_aload_n dX7_needed_10 (i := 0) rfl rfl ?_
  refine r_getR dX7_needed_11 f_7_7 rfl rfl rfl lv16 ?_
  refine r_iload_n dX7_needed_14 (i := 1) rfl rfl ?_
  refine r_iconst dX7_needed_15 (v := 5) rfl ?_
  refine sX7_needed_16 (Nat.le_refl _) (Nat.le_refl _) (Nat.le_of_ble_eq_true rfl) (tX7_cell rfl (f := 5) rfl) ?_
  refine n_iald dX7_needed_19 rfl lv17 rfl (by first | assumption | omega | (unfold cI; omega)) ?_
  refine r_iconst dX7_needed_20 (v := 1) rfl ?_
  refine r_icmp_ne dX7_needed_21 (tgt := 28) rfl (fun h21 => ?_) (fun h21 => ?_)
  · refine r_aload_n dX7_needed_28 (i := 0) rfl rfl ?_
    refine r_iload_n dX7_needed_29 (i := 1) rfl rfl ?_
    refine sX7_needed_30 (Nat.le_refl _) (Nat.le_refl _) rfl lv16 (Nat.le_of_ble_eq_true rfl) (tX7_versionsAtRisk hj hm hM) ?_
    refine r_if_le dX7_needed_33 (tgt := 40) rfl (fun h33 => ?_) (fun h33 => ?_)
    · refine r_iconst dX7_needed_40 (v := 2) rfl ?_
      exact e_i dX7_needed_41 rfl (by first | rfl | exact bi_nar _) (by first | rfl | (simp only [hz] at *; simp [*]; done) | (simp only [hz] at *; simp_all; done)) rfl
    · refine r_iconst dX7_needed_36 (v := 1) rfl ?_
      refine r_goto dX7_needed_37 (tgt := 41) rfl ?_
      exact e_i dX7_needed_41 rfl (by first | rfl | exact bi_nar _) (by first | rfl | (simp only [hz] at *; simp [*]; done) | (simp only [hz] at *; simp_all; done)) rfl
  · refine r_iconst dX7_needed_24 (v := 0) rfl ?_
    refine r_goto dX7_needed_25 (tgt := 41) rfl ?_
    exact e_i dX7_needed_41 rfl (by first | rfl | exact bi_nar _) (by first | rfl | (simp only [hz] at *; simp [*]; done) | (simp only [hz] at *; simp_all; done)) rfl
theorem tX7_atRisk_e {g : Gh} {x : Int32} {hp : HPt} (hx : rHas hp x = false) : Ci g mX7_atRisk [vR (16, 0, 0, 0), vI x] hp (-1) hp := by
  unfold Ci
  refine r_aload_n dX7_atRisk_0 (i := 0) rfl rfl ?_
  refine r_iload_n dX7_atRisk_1 (i := 1) rfl rfl ?_
  refine sX7_atRisk_2 (Nat.le_refl _) (Nat.le_refl _) rfl lv16 (Nat.le_of_ble_eq_true rfl) (tX7_isSecret) ?_
  refine r_if_eq dX7_atRisk_5 (tgt := 16) rfl (fun _ => ?_) (fun h5 => absurd (bi_0.mpr hx) h5)
  refine r_iconst dX7_atRisk_16 (v := (-1)) rfl ?_
  exact e_i dX7_atRisk_17 rfl (by first | rfl | exact bi_nar _) (by first | rfl | simp [bi, *]) rfl
theorem tX7_atRisk {g : Gh} {j m : Nat} {hp : HPt} (hj : j < 8) (hm : m < 5) (hM : hp (17, 0, 0, 0) (cI j 0) = nI m) (hx : rHas hp (nI j) = true) : Ci g mX7_atRisk [vR (16, 0, 0, 0), vI (nI j)] hp (nI (rRk hp j (m + 1))) hp := by
  unfold Ci
  refine r_aload_n dX7_atRisk_0 (i := 0) rfl rfl ?_
  refine r_iload_n dX7_atRisk_1 (i := 1) rfl rfl ?_
  refine sX7_atRisk_2 (Nat.le_refl _) (Nat.le_refl _) rfl lv16 (Nat.le_of_ble_eq_true rfl) (tX7_isSecret) ?_
  refine r_if_eq dX7_atRisk_5 (tgt := 16) rfl (fun h5 => absurd h5 (bi_n0.mpr hx)) (fun _ => ?_)
  refine r_aload_n dX7_atRisk_8 (i := 0) rfl rfl ?_
  refine r_iload_n dX7_atRisk_9 (i := 1) rfl rfl ?_
  refine sX7_atRisk_10 (Nat.le_refl _) (Nat.le_refl _) rfl lv16 (Nat.le_of_ble_eq_true rfl) (tX7_versionsAtRisk hj hm hM) ?_
  refine r_goto dX7_atRisk_13 (tgt := 17) rfl ?_
  exact e_i dX7_atRisk_17 rfl (by first | rfl | exact bi_nar _) (by first | rfl | simp [bi, *]) rfl
theorem tX7_ifMerged_e {g : Gh} {x : Int32} {hp : HPt} (hx : rHas hp x = false) : Ci g mX7_ifMerged [vR (16, 0, 0, 0), vI x] hp (-1) hp := by
  unfold Ci
  refine r_aload_n dX7_ifMerged_0 (i := 0) rfl rfl ?_
  refine r_iload_n dX7_ifMerged_1 (i := 1) rfl rfl ?_
  refine sX7_ifMerged_2 (Nat.le_refl _) (Nat.le_refl _) rfl lv16 (Nat.le_of_ble_eq_true rfl) (tX7_isSecret) ?_
  refine r_if_ne dX7_ifMerged_5 (tgt := 12) rfl (fun h5 => absurd (bi_0.mpr hx) h5) (fun _ => ?_)
  refine r_iconst dX7_ifMerged_8 (v := (-1)) rfl ?_
  refine r_goto dX7_ifMerged_9 (tgt := 29) rfl ?_
  exact e_i dX7_ifMerged_29 rfl (by first | rfl | exact bi_nar _) (by first | rfl | simp [bi, *]) rfl
theorem tX7_ifMerged_e2 {g : Gh} {j : Nat} {hp : HPt} (hx : rHas hp (nI j) = true) (hs : rAwk hp = false) : Ci g mX7_ifMerged [vR (16, 0, 0, 0), vI (nI j)] hp (-5) hp := by
  unfold Ci
  refine r_aload_n dX7_ifMerged_0 (i := 0) rfl rfl ?_
  refine r_iload_n dX7_ifMerged_1 (i := 1) rfl rfl ?_
  refine sX7_ifMerged_2 (Nat.le_refl _) (Nat.le_refl _) rfl lv16 (Nat.le_of_ble_eq_true rfl) (tX7_isSecret) ?_
  refine r_if_ne dX7_ifMerged_5 (tgt := 12) rfl (fun _ => ?_) (fun h5 => absurd h5 (bi_n0.mpr hx))
  refine r_aload_n dX7_ifMerged_12 (i := 0) rfl rfl ?_
  refine sX7_ifMerged_13 (Nat.le_refl _) (Nat.le_refl _) rfl lv16 (Nat.le_of_ble_eq_true rfl) (tX7_areAwake) ?_
  refine r_if_eq dX7_ifMerged_16 (tgt := 27) rfl (fun _ => ?_) (fun h16 => absurd (bi_0.mpr hs) h16)
  refine r_bipush dX7_ifMerged_27 (v := (-5)) rfl ?_
  exact e_i dX7_ifMerged_29 rfl (by first | rfl | exact bi_nar _) (by first | rfl | simp [bi, *]) rfl
theorem tX7_ifMerged {g : Gh} {j : Nat} {hp : HPt} (hj : j < 8) (hx : rHas hp (nI j) = true) (hs : rAwk hp = true) : Ci g mX7_ifMerged [vR (16, 0, 0, 0), vI (nI j)] hp (rMg hp j) hp := by
  unfold Ci
  refine r_aload_n dX7_ifMerged_0 (i := 0) rfl rfl ?_
  refine r_iload_n dX7_ifMerged_1 (i := 1) rfl rfl ?_
  refine sX7_ifMerged_2 (Nat.le_refl _) (Nat.le_refl _) rfl lv16 (Nat.le_of_ble_eq_true rfl) (tX7_isSecret) ?_
  refine r_if_ne dX7_ifMerged_5 (tgt := 12) rfl (fun _ => ?_) (fun h5 => absurd h5 (bi_n0.mpr hx))
  refine r_aload_n dX7_ifMerged_12 (i := 0) rfl rfl ?_
  refine sX7_ifMerged_13 (Nat.le_refl _) (Nat.le_refl _) rfl lv16 (Nat.le_of_ble_eq_true rfl) (tX7_areAwake) ?_
  refine r_if_eq dX7_ifMerged_16 (tgt := 27) rfl (fun h16 => absurd h16 (bi_n0.mpr hs)) (fun _ => ?_)
  refine r_aload_n dX7_ifMerged_19 (i := 0) rfl rfl ?_
  refine r_iload_n dX7_ifMerged_20 (i := 1) rfl rfl ?_
  refine sX7_ifMerged_21 (Nat.le_refl _) (Nat.le_refl _) rfl lv16 (Nat.le_of_ble_eq_true rfl) (tX7_merged hj) ?_
  refine r_goto dX7_ifMerged_24 (tgt := 29) rfl ?_
  exact e_i dX7_ifMerged_29 rfl (by first | rfl | exact bi_nar _) (by first | rfl | simp [bi, *]) rfl
