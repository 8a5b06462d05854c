theorem tX5_changeX_e {g : Gh} {t : Nat} {x : Int32} {hp : HPt} (ht : t < 10) (hx : (!decide (x < 0) && decide (x ≤ 9999)) = false) : Ci g mX5_changeX [vR (0, t, 0, 0), vI x] hp (-2) hp := by
  unfold Ci
  refine r_iload_n dX5_changeX_0 (i := 1) rfl rfl ?_
  refine r_if_lt dX5_changeX_1 (tgt := 11) rfl (fun h1 => ?_) (fun h1 => ?_)
  · refine r_bipush dX5_changeX_11 (v := (-2)) rfl ?_
    exact e_i dX5_changeX_13 rfl (by first | rfl | exact bi_nar _) (by first | rfl | simp [bi, *]) rfl
  · refine r_iload_n dX5_changeX_4 (i := 1) rfl rfl ?_
    refine r_sipush dX5_changeX_5 (v := 9999) rfl ?_
    refine r_icmp_le dX5_changeX_8 (tgt := 14) rfl (fun h8 => ?_) (fun h8 => ?_)
    · simp_all
    · refine r_bipush dX5_changeX_11 (v := (-2)) rfl ?_
      exact e_i dX5_changeX_13 rfl (by first | rfl | exact bi_nar _) (by first | rfl | simp [bi, *]) rfl
theorem tX5_changeX {g : Gh} {t : Nat} {x : Int32} {hp : HPt} (ht : t < 10) (a1 : ¬ x < 0) (a2 : x ≤ 9999) : Ci g mX5_changeX [vR (0, t, 0, 0), vI x] hp (hp (0, t, 0, 0) 4) (hset hp (0, t, 0, 0) 4 x) := by
  unfold Ci
  refine r_iload_n dX5_changeX_0 (i := 1) rfl rfl ?_
  refine r_if_lt dX5_changeX_1 (tgt := 11) rfl (fun h1 => absurd h1 (a1)) (fun _ => ?_)
  refine r_iload_n dX5_changeX_4 (i := 1) rfl rfl ?_
  refine r_sipush dX5_changeX_5 (v := 9999) rfl ?_
  refine r_icmp_le dX5_changeX_8 (tgt := 14) rfl (fun _ => ?_) (fun h8 => absurd (a2) h8)
  refine r_aload_n dX5_changeX_14 (i := 0) rfl rfl ?_
  refine r_getI dX5_changeX_15 f_5_25 rfl rfl (lv0 (by first | assumption | decide | omega)) ?_
  refine r_istore_n dX5_changeX_18 (i := 2) rfl (Nat.le_of_ble_eq_true rfl) rfl rfl ?_
  refine r_aload_n dX5_changeX_19 (i := 0) rfl rfl ?_
  refine r_iload_n dX5_changeX_20 (i := 1) rfl rfl ?_
  refine r_putI dX5_changeX_21 f_5_25 rfl rfl (lv0 (by first | assumption | decide | omega)) ⟨rfl, rfl⟩ ?_
  refine r_iload_n dX5_changeX_24 (i := 2) rfl rfl ?_
  exact e_i dX5_changeX_25 rfl (by first | rfl | exact bi_nar _) (by first | rfl | simp [bi, *]) rfl
theorem tX5_changeSetting_e {g : Gh} {t : Nat} {x v : Int32} {hp : HPt} (ht : t < 10) (hx : (!decide (x < 0) && decide (x < 3)) = false) : Ci g mX5_changeSetting [vR (0, t, 0, 0), vI x, vI v] hp (-2) hp := by
  unfold Ci
  refine r_iload_n dX5_changeSetting_0 (i := 1) rfl rfl ?_
  refine r_if_lt dX5_changeSetting_1 (tgt := 9) rfl (fun h1 => ?_) (fun h1 => ?_)
  · refine r_bipush dX5_changeSetting_9 (v := (-2)) rfl ?_
    exact e_i dX5_changeSetting_11 rfl (by first | rfl | exact bi_nar _) (by first | rfl | simp [bi, *]) rfl
  · refine r_iload_n dX5_changeSetting_4 (i := 1) rfl rfl ?_
    refine r_iconst dX5_changeSetting_5 (v := 3) rfl ?_
    refine r_icmp_lt dX5_changeSetting_6 (tgt := 12) rfl (fun h6 => ?_) (fun h6 => ?_)
    · simp_all
    · refine r_bipush dX5_changeSetting_9 (v := (-2)) rfl ?_
      exact e_i dX5_changeSetting_11 rfl (by first | rfl | exact bi_nar _) (by first | rfl | simp [bi, *]) rfl
theorem tX5_changeSetting_e2 {g : Gh} {t k : Nat} {v : Int32} {hp : HPt} (hX : GX g) (ht : t < 10) (hk : k < 3) (hv : (!decide (v < fL k) && decide (v ≤ fM k)) = false) : Ci g mX5_changeSetting [vR (0, t, 0, 0), vI (nI k), vI v] hp (-2) hp := by
  unfold Ci
  refine r_iload_n dX5_changeSetting_0 (i := 1) rfl rfl ?_
  refine r_if_lt dX5_changeSetting_1 (tgt := 9) rfl (fun h1 => absurd h1 (nI_pos (by omega))) (fun _ => ?_)
  refine r_iload_n dX5_changeSetting_4 (i := 1) rfl rfl ?_
  refine r_iconst dX5_changeSetting_5 (v := 3) rfl ?_
  refine r_icmp_lt dX5_changeSetting_6 (tgt := 12) rfl (fun _ => ?_) (fun h6 => absurd (nI_lt (b := 3) hk (by decide)) h6)
  refine r_iload_n dX5_changeSetting_12 (i := 2) rfl rfl ?_
  refine r_getL dX5_changeSetting_13 wd_534 ?_
  refine r_iload_n dX5_changeSetting_16 (i := 1) rfl rfl ?_
  refine m_xald dX5_changeSetting_17 (by decide) hX.1 (by decide) rfl hk ?_
  refine r_icmp_lt dX5_changeSetting_18 (tgt := 30) rfl (fun h18 => ?_) (fun h18 => ?_)
  · refine r_bipush dX5_changeSetting_30 (v := (-2)) rfl ?_
    exact e_i dX5_changeSetting_32 rfl (by first | rfl | exact bi_nar _) (by first | rfl | simp [bi, *]) rfl
  · refine r_iload_n dX5_changeSetting_21 (i := 2) rfl rfl ?_
    refine r_getM dX5_changeSetting_22 wd_536 ?_
    refine r_iload_n dX5_changeSetting_25 (i := 1) rfl rfl ?_
    refine m_xald dX5_changeSetting_26 (by decide) hX.2 (by decide) rfl hk ?_
    refine r_icmp_le dX5_changeSetting_27 (tgt := 33) rfl (fun h27 => ?_) (fun h27 => ?_)
    · simp_all
    · refine r_bipush dX5_changeSetting_30 (v := (-2)) rfl ?_
      exact e_i dX5_changeSetting_32 rfl (by first | rfl | exact bi_nar _) (by first | rfl | simp [bi, *]) rfl
theorem tX5_changeSetting {g : Gh} {t k : Nat} {v : Int32} {hp : HPt} (hX : GX g) (ht : t < 10) (hk : k < 3) (a1 : ¬ v < fL k) (a2 : v ≤ fM k) : Ci g mX5_changeSetting [vR (0, t, 0, 0), vI (nI k), vI v] hp (hp (2, t, 0, 0) k) (hset hp (2, t, 0, 0) k v) := by
  unfold Ci
  refine r_iload_n dX5_changeSetting_0 (i := 1) rfl rfl ?_
  refine r_if_lt dX5_changeSetting_1 (tgt := 9) rfl (fun h1 => absurd h1 (nI_pos (by omega))) (fun _ => ?_)
  refine r_iload_n dX5_changeSetting_4 (i := 1) rfl rfl ?_
  refine r_iconst dX5_changeSetting_5 (v := 3) rfl ?_
  refine r_icmp_lt dX5_changeSetting_6 (tgt := 12) rfl (fun _ => ?_) (fun h6 => absurd (nI_lt (b := 3) hk (by decide)) h6)
  refine r_iload_n dX5_changeSetting_12 (i := 2) rfl rfl ?_
  refine r_getL dX5_changeSetting_13 wd_534 ?_
  refine r_iload_n dX5_changeSetting_16 (i := 1) rfl rfl ?_
  refine m_xald dX5_changeSetting_17 (by decide) hX.1 (by decide) rfl hk ?_
  refine r_icmp_lt dX5_changeSetting_18 (tgt := 30) rfl (fun h18 => absurd h18 (a1)) (fun _ => ?_)
  refine r_iload_n dX5_changeSetting_21 (i := 2) rfl rfl ?_
  refine r_getM dX5_changeSetting_22 wd_536 ?_
  refine r_iload_n dX5_changeSetting_25 (i := 1) rfl rfl ?_
  refine m_xald dX5_changeSetting_26 (by decide) hX.2 (by decide) rfl hk ?_
  refine r_icmp_le dX5_changeSetting_27 (tgt := 33) rfl (fun _ => ?_) (fun h27 => absurd (a2) h27)
  refine r_aload_n dX5_changeSetting_33 (i := 0) rfl rfl ?_
  refine r_getR dX5_changeSetting_34 f_5_17 rfl rfl rfl (lv0 (by first | assumption | decide | omega)) ?_
  refine r_iload_n dX5_changeSetting_37 (i := 1) rfl rfl ?_
  refine n_iald dX5_changeSetting_38 rfl (lv2 (by first | assumption | decide | omega)) rfl (by first | assumption | omega | (unfold cI; omega)) ?_
  refine r_istore_n dX5_changeSetting_39 (i := 3) rfl (Nat.le_of_ble_eq_true rfl) rfl rfl ?_
  refine r_aload_n dX5_changeSetting_40 (i := 0) rfl rfl ?_
  refine r_getR dX5_changeSetting_41 f_5_17 rfl rfl rfl (lv0 (by first | assumption | decide | omega)) ?_
  refine r_iload_n dX5_changeSetting_44 (i := 1) rfl rfl ?_
  refine r_iload_n dX5_changeSetting_45 (i := 2) rfl rfl ?_
  refine n_iast dX5_changeSetting_46 rfl (lv2 (by first | assumption | decide | omega)) rfl (by first | assumption | omega | (unfold cI; omega)) ?_
  refine r_iload_n dX5_changeSetting_47 (i := 3) rfl rfl ?_
  exact e_i dX5_changeSetting_48 rfl (by first | rfl | exact bi_nar _) (by first | rfl | simp [bi, *]) rfl
/-- a number is drawn -/
def dr (hp : HPt) (t : Nat) : HPt := hset hp (0, t, 0, 0) 4 (jrem (75 * hp (0, t, 0, 0) 4 + 74) 65537)
def dv (hp : HPt) (t : Nat) : Int32 := dr hp t (0, t, 0, 0) 4 / 16
theorem tX5_drawn {g : Gh} {t : Nat} {hp : HPt} (ht : t < 10) : Ci g mX5_drawn [vR (0, t, 0, 0)] hp (dv hp t) (dr hp t) := by
  unfold Ci
  refine r_aload_n dX5_drawn_0 (i := 0) rfl rfl ?_
  refine r_bipush dX5_drawn_1 (v := 75) rfl ?_
  refine r_aload_n dX5_drawn_3 (i := 0) rfl rfl ?_
  refine r_getI dX5_drawn_4 f_5_25 rfl rfl (lv0 (by first | assumption | decide | omega)) ?_
  refine r_imul dX5_drawn_7 ?_
  refine r_bipush dX5_drawn_8 (v := 74) rfl ?_
  refine r_iadd dX5_drawn_10 ?_
  refine r_ldc dX5_drawn_11 wd_378 ?_
  refine r_irem dX5_drawn_13 (by decide) ?_
  refine r_putI dX5_drawn_14 f_5_25 rfl rfl (lv0 (by first | assumption | decide | omega)) ⟨rfl, rfl⟩ ?_
  refine r_aload_n dX5_drawn_17 (i := 0) rfl rfl ?_
  refine r_getI dX5_drawn_18 f_5_25 rfl rfl (lv0 (by first | assumption | decide | omega)) ?_
  refine r_bipush dX5_drawn_21 (v := 16) rfl ?_
  refine r_idiv dX5_drawn_23 (by decide) ?_
  exact e_i dX5_drawn_24 rfl (by first | rfl | exact bi_nar _) (by first | rfl | simp [bi, *]) rfl
/-- a version is made -/
def mv1 (hp : HPt) (t j : Nat) (v : Int32) : HPt := hset (hset (dr hp t) (6, t, j, 0) 0 (jrem (dv hp t) 256)) (6, t, j, 1) 0 (fFM (v - hset (dr hp t) (6, t, j, 0) 0 (jrem (dv hp t) 256) (6, t, j, 0) 0) 256)
def mv2 (hp : HPt) (t j b : Nat) : HPt := hset (dr hp t) (5, t, j, b) 3 (jrem (dv hp t) 256 + 1)
def mv3 (hp : HPt) (t j b : Nat) : HPt := hset (dr hp t) (5, t, j, b) 4 (jrem (dv hp t) 257)
def mv4 (hp : HPt) (t j b : Nat) : HPt := hset hp (5, t, j, b) 2 (jrem (hp (5, t, j, 1 - b) 3 * hp (6, t, j, b) 0 + hp (5, t, j, 1 - b) 4) 257)
def mv5 (hp : HPt) (t j : Nat) : HPt := hset hp (4, t, j, 0) 2 (hp (4, t, j, 0) 2 + 1)
def mv6 (hp : HPt) (t : Nat) : HPt := hset hp (0, t, 0, 0) 6 (hp (0, t, 0, 0) 6 + 1)
def MV (hp : HPt) (t j : Nat) (v : Int32) : HPt := mv6 (mv5 (mv4 (mv4 (mv3 (mv2 (mv3 (mv2 (mv1 hp t j v) t j 1) t j 1) t j 0) t j 0) t j 0) t j 1) t j) t
theorem tX5_makeVersion {g : Gh} {t j : Nat} {v : Int32} {hp : HPt} (ht : t < 10) (hj : j < 8) : Cv g mX5_makeVersion [vR (0, t, 0, 0), vR (4, t, j, 0), vI v] hp (MV hp t j v) := by
  unfold Cv
  refine r_aload_n dX5_makeVersion_0 (i := 1) rfl rfl ?_
  refine r_getR dX5_makeVersion_1 f_5_80 rfl rfl rfl (lv4 (by first | assumption | decide | omega) (by first | assumption | decide | omega)) ?_
  refine r_astore_n dX5_makeVersion_4 (i := 3) rfl (Nat.le_of_ble_eq_true rfl) rfl rfl ?_
  refine r_aload_n dX5_makeVersion_5 (i := 1) rfl rfl ?_
  refine r_getR dX5_makeVersion_6 f_5_84 rfl rfl rfl (lv4 (by first | assumption | decide | omega) (by first | assumption | decide | omega)) ?_
  refine r_astore dX5_makeVersion_9 (Nat.le_of_ble_eq_true rfl) rfl rfl ?_
  refine r_aload_n dX5_makeVersion_11 (i := 3) rfl rfl ?_
  refine r_getR dX5_makeVersion_12 f_5_87 rfl rfl rfl (lv5 (by first | assumption | decide | omega) (by first | assumption | decide | omega) (by first | assumption | decide | omega)) ?_
  refine r_iconst dX5_makeVersion_15 (v := 0) rfl ?_
  refine r_aload_n dX5_makeVersion_16 (i := 0) rfl rfl ?_
  refine sX5_makeVersion_17 (Nat.le_refl _) (Nat.le_refl _) rfl (lv0 (by first | assumption | decide | omega)) (Nat.le_of_ble_eq_true rfl) (tX5_drawn ht) ?_
  refine r_sipush dX5_makeVersion_20 (v := 256) rfl ?_
  refine r_irem dX5_makeVersion_23 (by decide) ?_
  refine n_iast dX5_makeVersion_24 rfl (lv6 (by first | assumption | decide | omega) (by first | assumption | decide | omega) (by first | assumption | decide | omega)) (k := 0) rfl (by decide) ?_
  refine r_aload dX5_makeVersion_25 rfl ?_
  refine r_getR dX5_makeVersion_27 f_5_87 rfl rfl rfl (lv5 (by first | assumption | decide | omega) (by first | assumption | decide | omega) (by first | assumption | decide | omega)) ?_
  refine r_iconst dX5_makeVersion_30 (v := 0) rfl ?_
  refine r_iload_n dX5_makeVersion_31 (i := 2) rfl rfl ?_
  refine r_aload_n dX5_makeVersion_32 (i := 3) rfl rfl ?_
  refine r_getR dX5_makeVersion_33 f_5_87 rfl rfl rfl (lv5 (by first | assumption | decide | omega) (by first | assumption | decide | omega) (by first | assumption | decide | omega)) ?_
  refine r_iconst dX5_makeVersion_36 (v := 0) rfl ?_
  refine n_iald dX5_makeVersion_37 rfl (lv6 (by first | assumption | decide | omega) (by first | assumption | decide | omega) (by first | assumption | decide | omega)) (k := 0) rfl (by decide) ?_
  refine r_isub dX5_makeVersion_38 ?_
  refine r_sipush dX5_makeVersion_39 (v := 256) rfl ?_
  refine sX5_makeVersion_42 (Nat.le_refl _) (Nat.le_refl _) (Nat.le_of_ble_eq_true rfl) (tJ9_floorMod (by decide)) ?_
  refine n_iast dX5_makeVersion_45 rfl (lv6 (by first | assumption | decide | omega) (by first | assumption | decide | omega) (by first | assumption | decide | omega)) (k := 0) rfl (by decide) ?_
  refine r_aload dX5_makeVersion_46 rfl ?_
  refine r_aload_n dX5_makeVersion_48 (i := 0) rfl rfl ?_
  refine sX5_makeVersion_49 (Nat.le_refl _) (Nat.le_refl _) rfl (lv0 (by first | assumption | decide | omega)) (Nat.le_of_ble_eq_true rfl) (tX5_drawn ht) ?_
  refine r_sipush dX5_makeVersion_52 (v := 256) rfl ?_
  refine r_irem dX5_makeVersion_55 (by decide) ?_
  refine r_iconst dX5_makeVersion_56 (v := 1) rfl ?_
  refine r_iadd dX5_makeVersion_57 ?_
  refine r_putI dX5_makeVersion_58 f_5_102 rfl rfl (lv5 (by first | assumption | decide | omega) (by first | assumption | decide | omega) (by first | assumption | decide | omega)) ⟨rfl, rfl⟩ ?_
  refine r_aload dX5_makeVersion_61 rfl ?_
  refine r_aload_n dX5_makeVersion_63 (i := 0) rfl rfl ?_
  refine sX5_makeVersion_64 (Nat.le_refl _) (Nat.le_refl _) rfl (lv0 (by first | assumption | decide | omega)) (Nat.le_of_ble_eq_true rfl) (tX5_drawn ht) ?_
  refine r_sipush dX5_makeVersion_67 (v := 257) rfl ?_
  refine r_irem dX5_makeVersion_70 (by decide) ?_
  refine r_putI dX5_makeVersion_71 f_5_105 rfl rfl (lv5 (by first | assumption | decide | omega) (by first | assumption | decide | omega) (by first | assumption | decide | omega)) ⟨rfl, rfl⟩ ?_
  refine r_aload_n dX5_makeVersion_74 (i := 3) rfl rfl ?_
  refine r_aload_n dX5_makeVersion_75 (i := 0) rfl rfl ?_
  refine sX5_makeVersion_76 (Nat.le_refl _) (Nat.le_refl _) rfl (lv0 (by first | assumption | decide | omega)) (Nat.le_of_ble_eq_true rfl) (tX5_drawn ht) ?_
  refine r_sipush dX5_makeVersion_79 (v := 256) rfl ?_
  refine r_irem dX5_makeVersion_82 (by decide) ?_
  refine r_iconst dX5_makeVersion_83 (v := 1) rfl ?_
  refine r_iadd dX5_makeVersion_84 ?_
  refine r_putI dX5_makeVersion_85 f_5_102 rfl rfl (lv5 (by first | assumption | decide | omega) (by first | assumption | decide | omega) (by first | assumption | decide | omega)) ⟨rfl, rfl⟩ ?_
  refine r_aload_n dX5_makeVersion_88 (i := 3) rfl rfl ?_
  refine r_aload_n dX5_makeVersion_89 (i := 0) rfl rfl ?_
  refine sX5_makeVersion_90 (Nat.le_refl _) (Nat.le_refl _) rfl (lv0 (by first | assumption | decide | omega)) (Nat.le_of_ble_eq_true rfl) (tX5_drawn ht) ?_
  refine r_sipush dX5_makeVersion_93 (v := 257) rfl ?_
  refine r_irem dX5_makeVersion_96 (by decide) ?_
  refine r_putI dX5_makeVersion_97 f_5_105 rfl rfl (lv5 (by first | assumption | decide | omega) (by first | assumption | decide | omega) (by first | assumption | decide | omega)) ⟨rfl, rfl⟩ ?_
  refine r_aload_n dX5_makeVersion_100 (i := 3) rfl rfl ?_
  refine r_aload dX5_makeVersion_101 rfl ?_
  refine r_aload_n dX5_makeVersion_103 (i := 3) rfl rfl ?_
  refine r_getR dX5_makeVersion_104 f_5_87 rfl rfl rfl (lv5 (by first | assumption | decide | omega) (by first | assumption | decide | omega) (by first | assumption | decide | omega)) ?_
  refine r_iconst dX5_makeVersion_107 (v := 0) rfl ?_
  refine n_iald dX5_makeVersion_108 rfl (lv6 (by first | assumption | decide | omega) (by first | assumption | decide | omega) (by first | assumption | decide | omega)) (k := 0) rfl (by decide) ?_
  refine sX5_makeVersion_109 (Nat.le_refl _) (Nat.le_refl _) rfl (lv5 (by first | assumption | decide | omega) (by first | assumption | decide | omega) (by first | assumption | decide | omega)) (Nat.le_of_ble_eq_true rfl) (tX0_tagDueFor ht hj (by decide)) ?_
  refine r_putI dX5_makeVersion_112 f_5_112 rfl rfl (lv5 (by first | assumption | decide | omega) (by first | assumption | decide | omega) (by first | assumption | decide | omega)) ⟨rfl, rfl⟩ ?_
  refine r_aload dX5_makeVersion_115 rfl ?_
  refine r_aload_n dX5_makeVersion_117 (i := 3) rfl rfl ?_
  refine r_aload dX5_makeVersion_118 rfl ?_
  refine r_getR dX5_makeVersion_120 f_5_87 rfl rfl rfl (lv5 (by first | assumption | decide | omega) (by first | assumption | decide | omega) (by first | assumption | decide | omega)) ?_
  refine r_iconst dX5_makeVersion_123 (v := 0) rfl ?_
  refine n_iald dX5_makeVersion_124 rfl (lv6 (by first | assumption | decide | omega) (by first | assumption | decide | omega) (by first | assumption | decide | omega)) (k := 0) rfl (by decide) ?_
  refine sX5_makeVersion_125 (Nat.le_refl _) (Nat.le_refl _) rfl (lv5 (by first | assumption | decide | omega) (by first | assumption | decide | omega) (by first | assumption | decide | omega)) (Nat.le_of_ble_eq_true rfl) (tX0_tagDueFor ht hj (by decide)) ?_
  refine r_putI dX5_makeVersion_128 f_5_112 rfl rfl (lv5 (by first | assumption | decide | omega) (by first | assumption | decide | omega) (by first | assumption | decide | omega)) ⟨rfl, rfl⟩ ?_
  refine r_aload_n dX5_makeVersion_131 (i := 1) rfl rfl ?_
  refine r_dup dX5_makeVersion_132 rfl ?_
  refine r_getI dX5_makeVersion_133 f_5_59 rfl rfl (lv4 (by first | assumption | decide | omega) (by first | assumption | decide | omega)) ?_
  refine r_iconst dX5_makeVersion_136 (v := 1) rfl ?_
  refine r_iadd dX5_makeVersion_137 ?_
  refine r_putI dX5_makeVersion_138 f_5_59 rfl rfl (lv4 (by first | assumption | decide | omega) (by first | assumption | decide | omega)) ⟨rfl, rfl⟩ ?_
  refine r_aload_n dX5_makeVersion_141 (i := 0) rfl rfl ?_
  refine r_dup dX5_makeVersion_142 rfl ?_
  refine r_getI dX5_makeVersion_143 f_5_40 rfl rfl (lv0 (by first | assumption | decide | omega)) ?_
  refine r_iconst dX5_makeVersion_146 (v := 1) rfl ?_
  refine r_iadd dX5_makeVersion_147 ?_
  refine r_putI dX5_makeVersion_148 f_5_40 rfl rfl (lv0 (by first | assumption | decide | omega)) ⟨rfl, rfl⟩ ?_
  exact e_v dX5_makeVersion_151 rfl (by first | rfl | simp [hset])
def fVal (hp : HPt) (t j : Nat) : Int32 := jrem (hp (6, t, j, 0) 0 + hp (6, t, j, 1) 0) 256
/-- the next version is made -/
def mn1 (hp : HPt) (t j : Nat) : HPt := hset (hset (frS hp t j) (4, t, j, 0) 3 (fMin (hp (4, t, j, 0) 3 + 1) (hp (2, t, 0, 0) 2))) (0, t, 0, 0) 7 (hp (0, t, 0, 0) 7 + (hp (4, t, j, 0) 3 + 1 - fMin (hp (4, t, j, 0) 3 + 1) (hp (2, t, 0, 0) 2)))
def MN (hp : HPt) (t j : Nat) : HPt := MV (mn1 hp t j) t j (fVal hp t j)
theorem tX5_makeNextVersion {g : Gh} {t j : Nat} {hp : HPt} (ht : t < 10) (hj : j < 8) (hW : WT hp) : Cv g mX5_makeNextVersion [vR (0, t, 0, 0), vR (4, t, j, 0)] hp (MN hp t j) := by
  unfold Cv
  refine r_aload_n dX5_makeNextVersion_0 (i := 1) rfl rfl ?_
  refine sX5_makeNextVersion_1 (Nat.le_refl _) (Nat.le_refl _) rfl (lv4 (by first | assumption | decide | omega) (by first | assumption | decide | omega)) (Nat.le_of_ble_eq_true rfl) (tX4_value ht hj) ?_
  refine r_istore_n dX5_makeNextVersion_4 (i := 2) rfl (Nat.le_of_ble_eq_true rfl) rfl rfl ?_
  refine r_aload_n dX5_makeNextVersion_5 (i := 0) rfl rfl ?_
  refine r_dup dX5_makeNextVersion_6 rfl ?_
  refine r_getI dX5_makeNextVersion_7 f_5_43 rfl rfl (lv0 (by first | assumption | decide | omega)) ?_
  refine r_aload_n dX5_makeNextVersion_10 (i := 1) rfl rfl ?_
  refine r_aload_n dX5_makeNextVersion_11 (i := 0) rfl rfl ?_
  refine r_getR dX5_makeNextVersion_12 f_5_17 rfl rfl rfl (lv0 (by first | assumption | decide | omega)) ?_
  refine r_iconst dX5_makeNextVersion_15 (v := 2) rfl ?_
  refine n_iald dX5_makeNextVersion_16 rfl (lv2 (by first | assumption | decide | omega)) (k := 2) rfl (by decide) ?_
  refine sX5_makeNextVersion_17 (Nat.le_refl _) (Nat.le_refl _) rfl (lv4 (by first | assumption | decide | omega) (by first | assumption | decide | omega)) (Nat.le_of_ble_eq_true rfl) (tX4_ageKeeping ht hj hW) ?_
  refine r_iadd dX5_makeNextVersion_20 ?_
  refine r_putI dX5_makeNextVersion_21 f_5_43 rfl rfl (lv0 (by first | assumption | decide | omega)) ⟨rfl, rfl⟩ ?_
  refine r_aload_n dX5_makeNextVersion_24 (i := 0) rfl rfl ?_
  refine r_aload_n dX5_makeNextVersion_25 (i := 1) rfl rfl ?_
  refine r_iload_n dX5_makeNextVersion_26 (i := 2) rfl rfl ?_
  refine sX5_makeNextVersion_27 (Nat.le_refl _) (Nat.le_refl _) rfl (lv0 (by first | assumption | decide | omega)) (Nat.le_of_ble_eq_true rfl) (tX5_makeVersion ht hj) ?_
  exact e_v dX5_makeNextVersion_30 rfl (by first | rfl | simp [hset])
theorem tX5_adm_e {g : Gh} {t : Nat} {x : Int32} {hp : HPt} (ht : t < 10) (hx : fPt x = false) : Ci g mX5_adm [vR (0, t, 0, 0), vI x] hp (-2) hp := by
  unfold Ci
  refine r_iload_n dX5_adm_0 (i := 1) rfl rfl ?_
  refine sX5_adm_1 (Nat.le_refl _) (Nat.le_refl _) (Nat.le_of_ble_eq_true rfl) (tX6_isPart) ?_
  refine r_if_ne dX5_adm_4 (tgt := 10) rfl (fun h4 => absurd (bi_0.mpr hx) h4) (fun _ => ?_)
  refine r_bipush dX5_adm_7 (v := (-2)) rfl ?_
  exact e_i dX5_adm_9 rfl (by first | rfl | exact bi_nar _) (by first | rfl | simp [bi, *]) rfl
theorem tX5_adm_e2 {g : Gh} {t : Nat} {x : Int32} {hp : HPt} (ht : t < 10) (hx : fPt x = true) (hn : ¬ hp (0, t, 0, 0) 3 < 8) : Ci g mX5_adm [vR (0, t, 0, 0), vI x] hp (-4) hp := by
  unfold Ci
  refine r_iload_n dX5_adm_0 (i := 1) rfl rfl ?_
  refine sX5_adm_1 (Nat.le_refl _) (Nat.le_refl _) (Nat.le_of_ble_eq_true rfl) (tX6_isPart) ?_
  refine r_if_ne dX5_adm_4 (tgt := 10) rfl (fun _ => ?_) (fun h4 => absurd h4 (bi_n0.mpr hx))
  refine r_aload_n dX5_adm_10 (i := 0) rfl rfl ?_
  refine r_getI dX5_adm_11 f_5_34 rfl rfl (lv0 (by first | assumption | decide | omega)) ?_
  refine r_bipush dX5_adm_14 (v := 8) rfl ?_
  refine r_icmp_lt dX5_adm_16 (tgt := 22) rfl (fun h16 => absurd h16 (hn)) (fun _ => ?_)
  refine r_bipush dX5_adm_19 (v := (-4)) rfl ?_
  exact e_i dX5_adm_21 rfl (by first | rfl | exact bi_nar _) (by first | rfl | simp [bi, *]) rfl
theorem tX5_adm_e3 {g : Gh} {t : Nat} {x : Int32} {hp : HPt} (ht : t < 10) (hx : fPt x = true) (hn : hp (0, t, 0, 0) 3 < 8) (hs : fSlp hp t = true) : Ci g mX5_adm [vR (0, t, 0, 0), vI x] hp (-5) hp := by
  unfold Ci
  refine r_iload_n dX5_adm_0 (i := 1) rfl rfl ?_
  refine sX5_adm_1 (Nat.le_refl _) (Nat.le_refl _) (Nat.le_of_ble_eq_true rfl) (tX6_isPart) ?_
  refine r_if_ne dX5_adm_4 (tgt := 10) rfl (fun _ => ?_) (fun h4 => absurd h4 (bi_n0.mpr hx))
  refine r_aload_n dX5_adm_10 (i := 0) rfl rfl ?_
  refine r_getI dX5_adm_11 f_5_34 rfl rfl (lv0 (by first | assumption | decide | omega)) ?_
  refine r_bipush dX5_adm_14 (v := 8) rfl ?_
  refine r_icmp_lt dX5_adm_16 (tgt := 22) rfl (fun _ => ?_) (fun h16 => absurd (hn) h16)
  refine r_aload_n dX5_adm_22 (i := 0) rfl rfl ?_
  refine sX5_adm_23 (Nat.le_refl _) (Nat.le_refl _) rfl (lv0 (by first | assumption | decide | omega)) (Nat.le_of_ble_eq_true rfl) (tX5_someStoreSleeps ht) ?_
  refine r_if_eq dX5_adm_26 (tgt := 32) rfl (fun h26 => absurd h26 (bi_n0.mpr hs)) (fun _ => ?_)
  refine r_bipush dX5_adm_29 (v := (-5)) rfl ?_
  exact e_i dX5_adm_31 rfl (by first | rfl | exact bi_nar _) (by first | rfl | simp [bi, *]) rfl
theorem MV_kept {hp : HPt} {t j : Nat} {v : Int32} : MV hp t j v (0, t, 0, 0) 3 = hp (0, t, 0, 0) 3 := by simp [MV, mv1, mv2, mv3, mv4, mv5, mv6, dr, hset]
theorem tX5_adm {g : Gh} {t n : Nat} {x : Int32} {hp : HPt} (ht : t < 10) (hn8 : n < 8) (hk : hp (0, t, 0, 0) 3 = nI n) (hx : fPt x = true) (hs : fSlp hp t = false) : Ci g mX5_adm [vR (0, t, 0, 0), vI x] hp (nI n) (hset (MV hp t n x) (0, t, 0, 0) 3 (nI (n + 1))) := by
  unfold Ci
  refine r_iload_n dX5_adm_0 (i := 1) rfl rfl ?_
  refine sX5_adm_1 (Nat.le_refl _) (Nat.le_refl _) (Nat.le_of_ble_eq_true rfl) (tX6_isPart) ?_
  refine r_if_ne dX5_adm_4 (tgt := 10) rfl (fun _ => ?_) (fun h4 => absurd h4 (bi_n0.mpr hx))
  refine r_aload_n dX5_adm_10 (i := 0) rfl rfl ?_
  refine r_getI dX5_adm_11 f_5_34 rfl rfl (lv0 (by first | assumption | decide | omega)) ?_
  refine r_bipush dX5_adm_14 (v := 8) rfl ?_
  refine r_icmp_lt dX5_adm_16 (tgt := 22) rfl (fun _ => ?_) (fun h16 => absurd ((by rw [hk]; exact nI_lt (b := 8) hn8 (by decide))) h16)
  refine r_aload_n dX5_adm_22 (i := 0) rfl rfl ?_
  refine sX5_adm_23 (Nat.le_refl _) (Nat.le_refl _) rfl (lv0 (by first | assumption | decide | omega)) (Nat.le_of_ble_eq_true rfl) (tX5_someStoreSleeps ht) ?_
  refine r_if_eq dX5_adm_26 (tgt := 32) rfl (fun _ => ?_) (fun h26 => absurd (bi_0.mpr hs) h26)
  refine r_aload_n dX5_adm_32 (i := 0) rfl rfl ?_
  refine r_aload_n dX5_adm_33 (i := 0) rfl rfl ?_
  refine r_getR dX5_adm_34 f_5_11 rfl rfl rfl (lv0 (by first | assumption | decide | omega)) ?_
  refine r_aload_n dX5_adm_37 (i := 0) rfl rfl ?_
  refine r_getI dX5_adm_38 f_5_34 rfl rfl (lv0 (by first | assumption | decide | omega)) ?_
  refine n_aald dX5_adm_41 rfl (lv1 (by first | assumption | decide | omega)) (k := n) hk hn8 rfl ?_
  refine r_iload_n dX5_adm_42 (i := 1) rfl rfl ?_
  refine sX5_adm_43 (Nat.le_refl _) (Nat.le_refl _) rfl (lv0 (by first | assumption | decide | omega)) (Nat.le_of_ble_eq_true rfl) (tX5_makeVersion ht hn8) ?_
  refine r_aload_n dX5_adm_46 (i := 0) rfl rfl ?_
  refine r_dup dX5_adm_47 rfl ?_
  refine r_getI dX5_adm_48 f_5_34 rfl rfl (lv0 (by first | assumption | decide | omega)) ?_
  refine r_iconst dX5_adm_51 (v := 1) rfl ?_
  refine r_iadd dX5_adm_52 ?_
  refine r_putI dX5_adm_53 f_5_34 rfl rfl (lv0 (by first | assumption | decide | omega)) ⟨rfl, rfl⟩ ?_
  refine V.eqH (hp2 := hset (MV hp t n x) (0, t, 0, 0) 3 (nI (n + 1))) (by rw [MV_kept, hk, nI_1]) ?_
  refine r_aload_n dX5_adm_56 (i := 0) rfl rfl ?_
  refine r_getI dX5_adm_57 f_5_34 rfl rfl (lv0 (by first | assumption | decide | omega)) ?_
  refine r_iconst dX5_adm_60 (v := 1) rfl ?_
  refine r_isub dX5_adm_61 ?_
  exact e_i dX5_adm_62 rfl rfl (by rw [hs_eq, nI_succ]; exact Int32.add_sub_cancel _ _) rfl
theorem tX5_renew_e {g : Gh} {t : Nat} {x : Int32} {hp : HPt} (ht : t < 10) (hx : fHas hp t x = false) : Ci g mX5_renew [vR (0, t, 0, 0), vI x] hp (-1) hp := by
  unfold Ci
  refine r_aload_n dX5_renew_0 (i := 0) rfl rfl ?_
  refine r_iload_n dX5_renew_1 (i := 1) rfl rfl ?_
  refine sX5_renew_2 (Nat.le_refl _) (Nat.le_refl _) rfl (lv0 (by first | assumption | decide | omega)) (Nat.le_of_ble_eq_true rfl) (tX5_hasSecret ht) ?_
  refine r_if_ne dX5_renew_5 (tgt := 10) rfl (fun h5 => absurd (bi_0.mpr hx) h5) (fun _ => ?_)
  refine r_iconst dX5_renew_8 (v := (-1)) rfl ?_
  exact e_i dX5_renew_9 rfl (by first | rfl | exact bi_nar _) (by first | rfl | simp [bi, *]) rfl
theorem tX5_renew_e2 {g : Gh} {t j : Nat} {hp : HPt} (ht : t < 10) (hj : j < 8) (hx : fHas hp t (nI j) = true) (hs : (fSlp hp t || !decide (hp (4, t, j, 0) 2 < 999)) = true) : Ci g mX5_renew [vR (0, t, 0, 0), vI (nI j)] hp (-5) hp := by
  unfold Ci
  refine r_aload_n dX5_renew_0 (i := 0) rfl rfl ?_
  refine r_iload_n dX5_renew_1 (i := 1) rfl rfl ?_
  refine sX5_renew_2 (Nat.le_refl _) (Nat.le_refl _) rfl (lv0 (by first | assumption | decide | omega)) (Nat.le_of_ble_eq_true rfl) (tX5_hasSecret ht) ?_
  refine r_if_ne dX5_renew_5 (tgt := 10) rfl (fun _ => ?_) (fun h5 => absurd h5 (bi_n0.mpr hx))
  refine r_aload_n dX5_renew_10 (i := 0) rfl rfl ?_
  refine r_getR dX5_renew_11 f_5_11 rfl rfl rfl (lv0 (by first | assumption | decide | omega)) ?_
  refine r_iload_n dX5_renew_14 (i := 1) rfl rfl ?_
  refine n_aald dX5_renew_15 rfl (lv1 (by first | assumption | decide | omega)) rfl (by first | assumption | omega | (unfold cI; omega)) rfl ?_
  refine r_astore_n dX5_renew_16 (i := 2) rfl (Nat.le_of_ble_eq_true rfl) rfl rfl ?_
  refine r_aload_n dX5_renew_17 (i := 0) rfl rfl ?_
  refine sX5_renew_18 (Nat.le_refl _) (Nat.le_refl _) rfl (lv0 (by first | assumption | decide | omega)) (Nat.le_of_ble_eq_true rfl) (tX5_someStoreSleeps ht) ?_
  refine r_if_ne dX5_renew_21 (tgt := 34) rfl (fun h21 => ?_) (fun h21 => ?_)
  · refine r_bipush dX5_renew_34 (v := (-5)) rfl ?_
    exact e_i dX5_renew_36 rfl (by first | rfl | exact bi_nar _) (by first | rfl | simp [bi, *]) rfl
  · refine r_aload_n dX5_renew_24 (i := 2) rfl rfl ?_
    refine r_getI dX5_renew_25 f_5_59 rfl rfl (lv4 (by first | assumption | decide | omega) (by first | assumption | decide | omega)) ?_
    refine r_sipush dX5_renew_28 (v := 999) rfl ?_
    refine r_icmp_lt dX5_renew_31 (tgt := 37) rfl (fun h31 => ?_) (fun h31 => ?_)
    · simp_all [bi]
    · refine r_bipush dX5_renew_34 (v := (-5)) rfl ?_
      exact e_i dX5_renew_36 rfl (by first | rfl | exact bi_nar _) (by first | rfl | simp [bi, *]) rfl
theorem tX5_renew {g : Gh} {t j : Nat} {hp : HPt} (ht : t < 10) (hj : j < 8) (hW : WT hp) (hx : fHas hp t (nI j) = true) (hs : fSlp hp t = false) (hv : hp (4, t, j, 0) 2 < 999) : Ci g mX5_renew [vR (0, t, 0, 0), vI (nI j)] hp (MN hp t j (4, t, j, 0) 2) (MN hp t j) := by
  unfold Ci
  refine r_aload_n dX5_renew_0 (i := 0) rfl rfl ?_
  refine r_iload_n dX5_renew_1 (i := 1) rfl rfl ?_
  refine sX5_renew_2 (Nat.le_refl _) (Nat.le_refl _) rfl (lv0 (by first | assumption | decide | omega)) (Nat.le_of_ble_eq_true rfl) (tX5_hasSecret ht) ?_
  refine r_if_ne dX5_renew_5 (tgt := 10) rfl (fun _ => ?_) (fun h5 => absurd h5 (bi_n0.mpr hx))
  refine r_aload_n dX5_renew_10 (i := 0) rfl rfl ?_
  refine r_getR dX5_renew_11 f_5_11 rfl rfl rfl (lv0 (by first | assumption | decide | omega)) ?_
  refine r_iload_n dX5_renew_14 (i := 1) rfl rfl ?_
  refine n_aald dX5_renew_15 rfl (lv1 (by first | assumption | decide | omega)) rfl (by first | assumption | omega | (unfold cI; omega)) rfl ?_
  refine r_astore_n dX5_renew_16 (i := 2) rfl (Nat.le_of_ble_eq_true rfl) rfl rfl ?_
  refine r_aload_n dX5_renew_17 (i := 0) rfl rfl ?_
  refine sX5_renew_18 (Nat.le_refl _) (Nat.le_refl _) rfl (lv0 (by first | assumption | decide | omega)) (Nat.le_of_ble_eq_true rfl) (tX5_someStoreSleeps ht) ?_
  refine r_if_ne dX5_renew_21 (tgt := 34) rfl (fun h21 => absurd (bi_0.mpr hs) h21) (fun _ => ?_)
  refine r_aload_n dX5_renew_24 (i := 2) rfl rfl ?_
  refine r_getI dX5_renew_25 f_5_59 rfl rfl (lv4 (by first | assumption | decide | omega) (by first | assumption | decide | omega)) ?_
  refine r_sipush dX5_renew_28 (v := 999) rfl ?_
  refine r_icmp_lt dX5_renew_31 (tgt := 37) rfl (fun _ => ?_) (fun h31 => absurd (hv) h31)
  refine r_aload_n dX5_renew_37 (i := 0) rfl rfl ?_
  refine r_aload_n dX5_renew_38 (i := 2) rfl rfl ?_
  refine sX5_renew_39 (Nat.le_refl _) (Nat.le_refl _) rfl (lv0 (by first | assumption | decide | omega)) (Nat.le_of_ble_eq_true rfl) (tX5_makeNextVersion ht hj hW) ?_
  refine r_aload_n dX5_renew_42 (i := 2) rfl rfl ?_
  refine r_getI dX5_renew_43 f_5_59 rfl rfl (lv4 (by first | assumption | decide | omega) (by first | assumption | decide | omega)) ?_
  exact e_i dX5_renew_46 rfl (by first | rfl | exact bi_nar _) (by first | rfl | simp [bi, *]) rfl
theorem tX5_burnOldVersions_e {g : Gh} {t : Nat} {x : Int32} {hp : HPt} (ht : t < 10) (hx : fHas hp t x = false) : Ci g mX5_burnOldVersions [vR (0, t, 0, 0), vI x] hp (-1) hp := by
  unfold Ci
  refine r_aload_n dX5_burnOldVersions_0 (i := 0) rfl rfl ?_
  refine r_iload_n dX5_burnOldVersions_1 (i := 1) rfl rfl ?_
  refine sX5_burnOldVersions_2 (Nat.le_refl _) (Nat.le_refl _) rfl (lv0 (by first | assumption | decide | omega)) (Nat.le_of_ble_eq_true rfl) (tX5_hasSecret ht) ?_
  refine r_if_ne dX5_burnOldVersions_5 (tgt := 10) rfl (fun h5 => absurd (bi_0.mpr hx) h5) (fun _ => ?_)
  refine r_iconst dX5_burnOldVersions_8 (v := (-1)) rfl ?_
  exact e_i dX5_burnOldVersions_9 rfl (by first | rfl | exact bi_nar _) (by first | rfl | simp [bi, *]) rfl
theorem tX5_burnOldVersions_e2 {g : Gh} {t j : Nat} {hp : HPt} (ht : t < 10) (hj : j < 8) (hx : fHas hp t (nI j) = true) (hs : fSlp hp t = true) : Ci g mX5_burnOldVersions [vR (0, t, 0, 0), vI (nI j)] hp (-5) hp := by
  unfold Ci
  refine r_aload_n dX5_burnOldVersions_0 (i := 0) rfl rfl ?_
  refine r_iload_n dX5_burnOldVersions_1 (i := 1) rfl rfl ?_
  refine sX5_burnOldVersions_2 (Nat.le_refl _) (Nat.le_refl _) rfl (lv0 (by first | assumption | decide | omega)) (Nat.le_of_ble_eq_true rfl) (tX5_hasSecret ht) ?_
  refine r_if_ne dX5_burnOldVersions_5 (tgt := 10) rfl (fun _ => ?_) (fun h5 => absurd h5 (bi_n0.mpr hx))
  refine r_aload_n dX5_burnOldVersions_10 (i := 0) rfl rfl ?_
  refine sX5_burnOldVersions_11 (Nat.le_refl _) (Nat.le_refl _) rfl (lv0 (by first | assumption | decide | omega)) (Nat.le_of_ble_eq_true rfl) (tX5_someStoreSleeps ht) ?_
  refine r_if_eq dX5_burnOldVersions_14 (tgt := 20) rfl (fun h14 => absurd h14 (bi_n0.mpr hs)) (fun _ => ?_)
  refine r_bipush dX5_burnOldVersions_17 (v := (-5)) rfl ?_
  exact e_i dX5_burnOldVersions_19 rfl (by first | rfl | exact bi_nar _) (by first | rfl | simp [bi, *]) rfl
theorem tX5_burnOldVersions {g : Gh} {t j : Nat} {hp : HPt} (ht : t < 10) (hj : j < 8) (hx : fHas hp t (nI j) = true) (hs : fSlp hp t = false) : Ci g mX5_burnOldVersions [vR (0, t, 0, 0), vI (nI j)] hp (hp (4, t, j, 0) 3) (hset (hset hp (4, t, j, 0) 3 0) (0, t, 0, 0) 7 (hp (0, t, 0, 0) 7 + hp (4, t, j, 0) 3)) := by
  unfold Ci
  refine r_aload_n dX5_burnOldVersions_0 (i := 0) rfl rfl ?_
  refine r_iload_n dX5_burnOldVersions_1 (i := 1) rfl rfl ?_
  refine sX5_burnOldVersions_2 (Nat.le_refl _) (Nat.le_refl _) rfl (lv0 (by first | assumption | decide | omega)) (Nat.le_of_ble_eq_true rfl) (tX5_hasSecret ht) ?_
  refine r_if_ne dX5_burnOldVersions_5 (tgt := 10) rfl (fun _ => ?_) (fun h5 => absurd h5 (bi_n0.mpr hx))
  refine r_aload_n dX5_burnOldVersions_10 (i := 0) rfl rfl ?_
  refine sX5_burnOldVersions_11 (Nat.le_refl _) (Nat.le_refl _) rfl (lv0 (by first | assumption | decide | omega)) (Nat.le_of_ble_eq_true rfl) (tX5_someStoreSleeps ht) ?_
  refine r_if_eq dX5_burnOldVersions_14 (tgt := 20) rfl (fun _ => ?_) (fun h14 => absurd (bi_0.mpr hs) h14)
  refine r_aload_n dX5_burnOldVersions_20 (i := 0) rfl rfl ?_
  refine r_getR dX5_burnOldVersions_21 f_5_11 rfl rfl rfl (lv0 (by first | assumption | decide | omega)) ?_
  refine r_iload_n dX5_burnOldVersions_24 (i := 1) rfl rfl ?_
  refine n_aald dX5_burnOldVersions_25 rfl (lv1 (by first | assumption | decide | omega)) rfl (by first | assumption | omega | (unfold cI; omega)) rfl ?_
  refine r_getI dX5_burnOldVersions_26 f_5_124 rfl rfl (lv4 (by first | assumption | decide | omega) (by first | assumption | decide | omega)) ?_
  refine r_istore_n dX5_burnOldVersions_29 (i := 2) rfl (Nat.le_of_ble_eq_true rfl) rfl rfl ?_
  refine r_aload_n dX5_burnOldVersions_30 (i := 0) rfl rfl ?_
  refine r_getR dX5_burnOldVersions_31 f_5_11 rfl rfl rfl (lv0 (by first | assumption | decide | omega)) ?_
  refine r_iload_n dX5_burnOldVersions_34 (i := 1) rfl rfl ?_
  refine n_aald dX5_burnOldVersions_35 rfl (lv1 (by first | assumption | decide | omega)) rfl (by first | assumption | omega | (unfold cI; omega)) rfl ?_
  refine r_iconst dX5_burnOldVersions_36 (v := 0) rfl ?_
  refine r_putI dX5_burnOldVersions_37 f_5_124 rfl rfl (lv4 (by first | assumption | decide | omega) (by first | assumption | decide | omega)) ⟨rfl, rfl⟩ ?_
  refine r_aload_n dX5_burnOldVersions_40 (i := 0) rfl rfl ?_
  refine r_dup dX5_burnOldVersions_41 rfl ?_
  refine r_getI dX5_burnOldVersions_42 f_5_43 rfl rfl (lv0 (by first | assumption | decide | omega)) ?_
  refine r_iload_n dX5_burnOldVersions_45 (i := 2) rfl rfl ?_
  refine r_iadd dX5_burnOldVersions_46 ?_
  refine r_putI dX5_burnOldVersions_47 f_5_43 rfl rfl (lv0 (by first | assumption | decide | omega)) ⟨rfl, rfl⟩ ?_
  refine r_iload_n dX5_burnOldVersions_50 (i := 2) rfl rfl ?_
  refine e_i dX5_burnOldVersions_51 rfl rfl rfl ?_
  simp [hset]
theorem tX5_turnSleep_e {g : Gh} {t : Nat} {x : Int32} {hp : HPt} (ht : t < 10) (hx : fSt x = false) : Ci g mX5_turnSleep [vR (0, t, 0, 0), vI x] hp (-1) hp := by
  unfold Ci
  refine r_iload_n dX5_turnSleep_0 (i := 1) rfl rfl ?_
  refine sX5_turnSleep_1 (Nat.le_refl _) (Nat.le_refl _) (Nat.le_of_ble_eq_true rfl) (tX6_isStore) ?_
  refine r_if_ne dX5_turnSleep_4 (tgt := 9) rfl (fun h4 => absurd (bi_0.mpr hx) h4) (fun _ => ?_)
  refine r_iconst dX5_turnSleep_7 (v := (-1)) rfl ?_
  exact e_i dX5_turnSleep_8 rfl (by first | rfl | exact bi_nar _) (by first | rfl | simp [bi, *]) rfl
theorem tX5_turnSleep {g : Gh} {t b : Nat} {hp : HPt} (ht : t < 10) (hb : b < 2) : Ci g mX5_turnSleep [vR (0, t, 0, 0), vI (nI b)] hp (bi (decide (hp (3, t, 0, 0) b = 0))) (hset hp (3, t, 0, 0) b (bi (decide (hp (3, t, 0, 0) b = 0)))) := by
  have hx : fSt (nI b) = true := by
    match b, hb with
    | 0, _ => decide
    | 1, _ => decide
  unfold Ci
  refine r_iload_n dX5_turnSleep_0 (i := 1) rfl rfl ?_
  refine sX5_turnSleep_1 (Nat.le_refl _) (Nat.le_refl _) (Nat.le_of_ble_eq_true rfl) (tX6_isStore) ?_
  refine r_if_ne dX5_turnSleep_4 (tgt := 9) rfl (fun _ => ?_) (fun h4 => absurd h4 (bi_n0.mpr hx))
  refine r_aload_n dX5_turnSleep_9 (i := 0) rfl rfl ?_
  refine r_getR dX5_turnSleep_10 f_5_21 rfl rfl rfl (lv0 (by first | assumption | decide | omega)) ?_
  refine r_iload_n dX5_turnSleep_13 (i := 1) rfl rfl ?_
  refine r_aload_n dX5_turnSleep_14 (i := 0) rfl rfl ?_
  refine r_getR dX5_turnSleep_15 f_5_21 rfl rfl rfl (lv0 (by first | assumption | decide | omega)) ?_
  refine r_iload_n dX5_turnSleep_18 (i := 1) rfl rfl ?_
  refine n_zald dX5_turnSleep_19 rfl (lv3 (by first | assumption | decide | omega)) rfl (by first | assumption | omega | (unfold cI; omega)) ?_
  refine r_if_ne dX5_turnSleep_20 (tgt := 27) rfl (fun h20 => ?_) (fun h20 => ?_)
  · refine r_iconst dX5_turnSleep_27 (v := 0) rfl ?_
    refine n_zast dX5_turnSleep_28 rfl (lv3 (by first | assumption | decide | omega)) rfl (by first | assumption | omega | (unfold cI; omega)) rfl ?_
    refine r_aload_n dX5_turnSleep_29 (i := 0) rfl rfl ?_
    refine r_getR dX5_turnSleep_30 f_5_21 rfl rfl rfl (lv0 (by first | assumption | decide | omega)) ?_
    refine r_iload_n dX5_turnSleep_33 (i := 1) rfl rfl ?_
    refine n_zald dX5_turnSleep_34 rfl (lv3 (by first | assumption | decide | omega)) rfl (by first | assumption | omega | (unfold cI; omega)) ?_
    refine r_if_eq dX5_turnSleep_35 (tgt := 42) rfl (fun h35 => ?_) (fun h35 => ?_)
    · refine r_iconst dX5_turnSleep_42 (v := 0) rfl ?_
      refine e_i dX5_turnSleep_43 rfl rfl (by simp_all [bi, hset]) (by simp_all [bi, hset])
    · refine r_iconst dX5_turnSleep_38 (v := 1) rfl ?_
      refine r_goto dX5_turnSleep_39 (tgt := 43) rfl ?_
      refine e_i dX5_turnSleep_43 rfl rfl (by simp_all [bi, hset]) (by simp_all [bi, hset])
  · refine r_iconst dX5_turnSleep_23 (v := 1) rfl ?_
    refine r_goto dX5_turnSleep_24 (tgt := 28) rfl ?_
    refine n_zast dX5_turnSleep_28 rfl (lv3 (by first | assumption | decide | omega)) rfl (by first | assumption | omega | (unfold cI; omega)) rfl ?_
    refine r_aload_n dX5_turnSleep_29 (i := 0) rfl rfl ?_
    refine r_getR dX5_turnSleep_30 f_5_21 rfl rfl rfl (lv0 (by first | assumption | decide | omega)) ?_
    refine r_iload_n dX5_turnSleep_33 (i := 1) rfl rfl ?_
    refine n_zald dX5_turnSleep_34 rfl (lv3 (by first | assumption | decide | omega)) rfl (by first | assumption | omega | (unfold cI; omega)) ?_
    refine r_if_eq dX5_turnSleep_35 (tgt := 42) rfl (fun h35 => ?_) (fun h35 => ?_)
    · refine r_iconst dX5_turnSleep_42 (v := 0) rfl ?_
      refine e_i dX5_turnSleep_43 rfl rfl (by simp_all [bi, hset]) (by simp_all [bi, hset])
    · refine r_iconst dX5_turnSleep_38 (v := 1) rfl ?_
      refine r_goto dX5_turnSleep_39 (tgt := 43) rfl ?_
      refine e_i dX5_turnSleep_43 rfl rfl (by simp_all [bi, hset]) (by simp_all [bi, hset])
theorem tX5_takeUpLie_e {g : Gh} {t : Nat} {s x o q : Int32} {hp : HPt} (ht : t < 10) (hx : fHalf hp t s x = false) : Ci g mX5_takeUpLie [vR (0, t, 0, 0), vI s, vI x, vI o, vI q] hp (-1) hp := by
  unfold Ci
  refine r_aload_n dX5_takeUpLie_0 (i := 0) rfl rfl ?_
  refine r_iload_n dX5_takeUpLie_1 (i := 1) rfl rfl ?_
  refine r_iload_n dX5_takeUpLie_2 (i := 2) rfl rfl ?_
  refine sX5_takeUpLie_3 (Nat.le_refl _) (Nat.le_refl _) rfl (lv0 (by first | assumption | decide | omega)) (Nat.le_of_ble_eq_true rfl) (tX5_hasHalf ht) ?_
  refine r_if_ne dX5_takeUpLie_6 (tgt := 11) rfl (fun h6 => absurd (bi_0.mpr hx) h6) (fun _ => ?_)
  refine r_iconst dX5_takeUpLie_9 (v := (-1)) rfl ?_
  exact e_i dX5_takeUpLie_10 rfl (by first | rfl | exact bi_nar _) (by first | rfl | simp [bi, *]) rfl
theorem tX5_takeUpLie_e2 {g : Gh} {t : Nat} {s x o q : Int32} {hp : HPt} (ht : t < 10) (hx : fHalf hp t s x = true) (ho : (fPt o && fTg q) = false) : Ci g mX5_takeUpLie [vR (0, t, 0, 0), vI s, vI x, vI o, vI q] hp (-2) hp := by
  unfold Ci
  refine r_aload_n dX5_takeUpLie_0 (i := 0) rfl rfl ?_
  refine r_iload_n dX5_takeUpLie_1 (i := 1) rfl rfl ?_
  refine r_iload_n dX5_takeUpLie_2 (i := 2) rfl rfl ?_
  refine sX5_takeUpLie_3 (Nat.le_refl _) (Nat.le_refl _) rfl (lv0 (by first | assumption | decide | omega)) (Nat.le_of_ble_eq_true rfl) (tX5_hasHalf ht) ?_
  refine r_if_ne dX5_takeUpLie_6 (tgt := 11) rfl (fun _ => ?_) (fun h6 => absurd h6 (bi_n0.mpr hx))
  refine r_iload_n dX5_takeUpLie_11 (i := 3) rfl rfl ?_
  refine sX5_takeUpLie_12 (Nat.le_refl _) (Nat.le_refl _) (Nat.le_of_ble_eq_true rfl) (tX6_isPart) ?_
  refine r_if_eq dX5_takeUpLie_15 (tgt := 26) rfl (fun h15 => ?_) (fun h15 => ?_)
  · refine r_bipush dX5_takeUpLie_26 (v := (-2)) rfl ?_
    exact e_i dX5_takeUpLie_28 rfl (by first | rfl | exact bi_nar _) (by first | rfl | simp [bi, *]) rfl
  · refine r_iload dX5_takeUpLie_18 rfl ?_
    refine sX5_takeUpLie_20 (Nat.le_refl _) (Nat.le_refl _) (Nat.le_of_ble_eq_true rfl) (tX6_isTag) ?_
    refine r_if_ne dX5_takeUpLie_23 (tgt := 29) rfl (fun h23 => ?_) (fun h23 => ?_)
    · simp_all [bi]
    · refine r_bipush dX5_takeUpLie_26 (v := (-2)) rfl ?_
      exact e_i dX5_takeUpLie_28 rfl (by first | rfl | exact bi_nar _) (by first | rfl | simp [bi, *]) rfl
theorem tX5_takeUpLie {g : Gh} {t j b : Nat} {o q : Int32} {hp : HPt} (ht : t < 10) (hj : j < 8) (hb : b < 2) (hx : fHalf hp t (nI b) (nI j) = true) (ho : fPt o = true) (hq : fTg q = true) : Ci g mX5_takeUpLie [vR (0, t, 0, 0), vI (nI b), vI (nI j), vI o, vI q] hp (hp (5, t, j, b) 5) (hset (hset hp (5, t, j, b) 5 o) (5, t, j, b) 6 q) := by
  unfold Ci
  refine r_aload_n dX5_takeUpLie_0 (i := 0) rfl rfl ?_
  refine r_iload_n dX5_takeUpLie_1 (i := 1) rfl rfl ?_
  refine r_iload_n dX5_takeUpLie_2 (i := 2) rfl rfl ?_
  refine sX5_takeUpLie_3 (Nat.le_refl _) (Nat.le_refl _) rfl (lv0 (by first | assumption | decide | omega)) (Nat.le_of_ble_eq_true rfl) (tX5_hasHalf ht) ?_
  refine r_if_ne dX5_takeUpLie_6 (tgt := 11) rfl (fun _ => ?_) (fun h6 => absurd h6 (bi_n0.mpr hx))
  refine r_iload_n dX5_takeUpLie_11 (i := 3) rfl rfl ?_
  refine sX5_takeUpLie_12 (Nat.le_refl _) (Nat.le_refl _) (Nat.le_of_ble_eq_true rfl) (tX6_isPart) ?_
  refine r_if_eq dX5_takeUpLie_15 (tgt := 26) rfl (fun h15 => absurd h15 (bi_n0.mpr ho)) (fun _ => ?_)
  refine r_iload dX5_takeUpLie_18 rfl ?_
  refine sX5_takeUpLie_20 (Nat.le_refl _) (Nat.le_refl _) (Nat.le_of_ble_eq_true rfl) (tX6_isTag) ?_
  refine r_if_ne dX5_takeUpLie_23 (tgt := 29) rfl (fun _ => ?_) (fun h23 => absurd h23 (bi_n0.mpr hq))
  refine r_aload_n dX5_takeUpLie_29 (i := 0) rfl rfl ?_
  refine r_getR dX5_takeUpLie_30 f_5_11 rfl rfl rfl (lv0 (by first | assumption | decide | omega)) ?_
  refine r_iload_n dX5_takeUpLie_33 (i := 2) rfl rfl ?_
  refine n_aald dX5_takeUpLie_34 rfl (lv1 (by first | assumption | decide | omega)) rfl (by first | assumption | omega | (unfold cI; omega)) rfl ?_
  refine r_iload_n dX5_takeUpLie_35 (i := 1) rfl rfl ?_
  refine sX5_takeUpLie_36 (Nat.le_refl _) (Nat.le_refl _) rfl (lv4 (by first | assumption | decide | omega) (by first | assumption | decide | omega)) (Nat.le_of_ble_eq_true rfl) (tX4_halfIn ht hj hb) ?_
  refine r_astore dX5_takeUpLie_39 (Nat.le_of_ble_eq_true rfl) rfl rfl ?_
  refine r_aload dX5_takeUpLie_41 rfl ?_
  refine r_getI dX5_takeUpLie_43 f_5_138 rfl rfl (lv5 (by first | assumption | decide | omega) (by first | assumption | decide | omega) (by first | assumption | decide | omega)) ?_
  refine r_istore dX5_takeUpLie_46 (Nat.le_of_ble_eq_true rfl) rfl rfl ?_
  refine r_aload dX5_takeUpLie_48 rfl ?_
  refine r_iload_n dX5_takeUpLie_50 (i := 3) rfl rfl ?_
  refine r_putI dX5_takeUpLie_51 f_5_138 rfl rfl (lv5 (by first | assumption | decide | omega) (by first | assumption | decide | omega) (by first | assumption | decide | omega)) ⟨rfl, rfl⟩ ?_
  refine r_aload dX5_takeUpLie_54 rfl ?_
  refine r_iload dX5_takeUpLie_56 rfl ?_
  refine r_putI dX5_takeUpLie_58 f_5_141 rfl rfl (lv5 (by first | assumption | decide | omega) (by first | assumption | decide | omega) (by first | assumption | decide | omega)) ⟨rfl, rfl⟩ ?_
  refine r_iload dX5_takeUpLie_61 rfl ?_
  exact e_i dX5_takeUpLie_63 rfl (by first | rfl | exact bi_nar _) (by first | rfl | simp [bi, *]) rfl
