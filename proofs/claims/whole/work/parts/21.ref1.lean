/-- a cell of a secret in the reference's row -/
abbrev cI (j f : Nat) : Nat := 12 + 35 * j + f
def fIn (v l m : Int32) : Bool := !decide (v < l) && !decide (m < v)
theorem tX7_in {g : Gh} {v l m : Int32} {hp : HPt} : Ci g mX7_in [vI v, vI l, vI m] hp (bi (fIn v l m)) hp := by
  unfold Ci
  refine r_iload_n dX7_in_0 (i := 0) rfl rfl ?_
  refine r_iload_n dX7_in_1 (i := 1) rfl rfl ?_
  refine r_icmp_lt dX7_in_2 (tgt := 14) rfl (fun h2 => ?_) (fun h2 => ?_)
  · refine r_iconst dX7_in_14 (v := 0) rfl ?_
    exact e_i dX7_in_15 rfl (by first | rfl | exact bi_nar _) (by first | rfl | simp_all [bi, fIn]) rfl
  · refine r_iload_n dX7_in_5 (i := 0) rfl rfl ?_
    refine r_iload_n dX7_in_6 (i := 2) rfl rfl ?_
    refine r_icmp_gt dX7_in_7 (tgt := 14) rfl (fun h7 => ?_) (fun h7 => ?_)
    · refine r_iconst dX7_in_14 (v := 0) rfl ?_
      exact e_i dX7_in_15 rfl (by first | rfl | exact bi_nar _) (by first | rfl | simp_all [bi, fIn]) rfl
    · refine r_iconst dX7_in_10 (v := 1) rfl ?_
      refine r_goto dX7_in_11 (tgt := 15) rfl ?_
      exact e_i dX7_in_15 rfl (by first | rfl | exact bi_nar _) (by first | rfl | simp_all [bi, fIn]) rfl
theorem tX7_isStore {g : Gh} {v : Int32} {hp : HPt} : Ci g mX7_isStore [vI v] hp (bi (fIn v 0 1)) hp := by
  unfold Ci
  refine r_iload_n dX7_isStore_0 (i := 0) rfl rfl ?_
  refine r_iconst dX7_isStore_1 (v := 0) rfl ?_
  refine r_iconst dX7_isStore_2 (v := 1) rfl ?_
  refine sX7_isStore_3 (Nat.le_refl _) (Nat.le_refl _) (Nat.le_of_ble_eq_true rfl) (tX7_in) ?_
  exact e_i dX7_isStore_6 rfl (by first | rfl | exact bi_nar _) (by first | rfl | simp [bi, *]) rfl
def rHas (hp : HPt) (x : Int32) : Bool := fIn x 0 (hp (17, 0, 0, 0) 5 - 1)
theorem tX7_isSecret {g : Gh} {v : Int32} {hp : HPt} : Ci g mX7_isSecret [vR (16, 0, 0, 0), vI v] hp (bi (rHas hp v)) hp := by
  unfold Ci
  refine r_iload_n dX7_isSecret_0 (i := 1) rfl rfl ?_
  refine r_iconst dX7_isSecret_1 (v := 0) rfl ?_
  refine r_aload_n dX7_isSecret_2 (i := 0) rfl rfl ?_
  refine r_getR dX7_isSecret_3 f_7_7 rfl rfl rfl lv16 ?_
  refine r_iconst dX7_isSecret_6 (v := 5) rfl ?_
  refine n_iald dX7_isSecret_7 rfl lv17 (k := 5) rfl (by decide) ?_
  refine r_iconst dX7_isSecret_8 (v := 1) rfl ?_
  refine r_isub dX7_isSecret_9 ?_
  refine sX7_isSecret_10 (Nat.le_refl _) (Nat.le_refl _) (Nat.le_of_ble_eq_true rfl) (tX7_in) ?_
  exact e_i dX7_isSecret_13 rfl (by first | rfl | exact bi_nar _) (by first | rfl | simp [bi, *]) rfl
def rAwk (hp : HPt) : Bool := decide (hp (17, 0, 0, 0) 6 + hp (17, 0, 0, 0) 7 = 0)
theorem tX7_areAwake {g : Gh} {hp : HPt} : Ci g mX7_areAwake [vR (16, 0, 0, 0)] hp (bi (rAwk hp)) hp := by
  unfold Ci
  refine r_aload_n dX7_areAwake_0 (i := 0) rfl rfl ?_
  refine r_getR dX7_areAwake_1 f_7_7 rfl rfl rfl lv16 ?_
  refine r_bipush dX7_areAwake_4 (v := 6) rfl ?_
  refine n_iald dX7_areAwake_6 rfl lv17 (k := 6) rfl (by decide) ?_
  refine r_aload_n dX7_areAwake_7 (i := 0) rfl rfl ?_
  refine r_getR dX7_areAwake_8 f_7_7 rfl rfl rfl lv16 ?_
  refine r_bipush dX7_areAwake_11 (v := 7) rfl ?_
  refine n_iald dX7_areAwake_13 rfl lv17 (k := 7) rfl (by decide) ?_
  refine r_iadd dX7_areAwake_14 ?_
  refine r_if_ne dX7_areAwake_15 (tgt := 22) rfl (fun h15 => ?_) (fun h15 => ?_)
  · refine r_iconst dX7_areAwake_22 (v := 0) rfl ?_
    exact e_i dX7_areAwake_23 rfl (by first | rfl | exact bi_nar _) (by first | rfl | simp_all [bi, rAwk]) rfl
  · refine r_iconst dX7_areAwake_18 (v := 1) rfl ?_
    refine r_goto dX7_areAwake_19 (tgt := 23) rfl ?_
    exact e_i dX7_areAwake_23 rfl (by first | rfl | exact bi_nar _) (by first | rfl | simp_all [bi, rAwk]) rfl
theorem tX7_cell {g : Gh} {x y : Int32} {j f : Nat} {hp : HPt} (hx : x = nI j) (hy : y = nI f) : Ci g mX7_cell [vI x, vI y] hp (nI (cI j f)) hp := by
  subst hx
  subst hy
  unfold Ci
  refine r_bipush dX7_cell_0 (v := 12) rfl ?_
  refine r_bipush dX7_cell_2 (v := 35) rfl ?_
  refine r_iload_n dX7_cell_4 (i := 0) rfl rfl ?_
  refine r_imul dX7_cell_5 ?_
  refine r_iadd dX7_cell_6 ?_
  refine r_iload_n dX7_cell_7 (i := 1) rfl rfl ?_
  refine r_iadd dX7_cell_8 ?_
  exact e_i dX7_cell_9 rfl (by first | rfl | exact bi_nar _) (by rw [show (12 : Int32) = nI 12 from rfl, show (35 : Int32) = nI 35 from rfl, pk_mul, nI_add, nI_add]) rfl
theorem tX7_at {g : Gh} {x y z : Int32} {j r w f : Nat} {hp : HPt} (hx : x = nI j) (hy : y = nI r) (hz : z = nI w) (hf : 15 + 4 * r + w = f) : Ci g mX7_at [vI x, vI y, vI z] hp (nI (cI j f)) hp := by
  subst hx
  subst hy
  subst hz
  unfold Ci
  refine r_iload_n dX7_at_0 (i := 0) rfl rfl ?_
  refine r_bipush dX7_at_1 (v := 15) rfl ?_
  refine r_iconst dX7_at_3 (v := 4) rfl ?_
  refine r_iload_n dX7_at_4 (i := 1) rfl rfl ?_
  refine r_imul dX7_at_5 ?_
  refine r_iadd dX7_at_6 ?_
  refine r_iload_n dX7_at_7 (i := 2) rfl rfl ?_
  refine r_iadd dX7_at_8 ?_
  refine sX7_at_9 (Nat.le_refl _) (Nat.le_refl _) (Nat.le_of_ble_eq_true rfl) (tX7_cell (f := f) rfl (by rw [← hf, show (15 : Int32) = nI 15 from rfl, show (4 : Int32) = nI 4 from rfl, pk_mul, nI_add, nI_add])) ?_
  exact e_i dX7_at_12 rfl (by first | rfl | exact bi_nar _) (by first | rfl | simp [bi, *]) rfl
theorem tX7_partOf {g : Gh} {j b : Nat} {hp : HPt} (hj : j < 8) (hb : b < 2) : Ci g mX7_partOf [vR (16, 0, 0, 0), vI (nI b), vI (nI j)] hp (hp (17, 0, 0, 0) (cI j (16 + b))) hp := by
  unfold Ci
  refine r_aload_n dX7_partOf_0 (i := 0) rfl rfl ?_
  refine r_getR dX7_partOf_1 f_7_7 rfl rfl rfl lv16 ?_
  refine r_iload_n dX7_partOf_4 (i := 2) rfl rfl ?_
  refine r_iconst dX7_partOf_5 (v := 0) rfl ?_
  refine r_iconst dX7_partOf_6 (v := 1) rfl ?_
  refine r_iload_n dX7_partOf_7 (i := 1) rfl rfl ?_
  refine r_iadd dX7_partOf_8 ?_
  refine sX7_partOf_9 (Nat.le_refl _) (Nat.le_refl _) (Nat.le_of_ble_eq_true rfl) (tX7_at rfl (r := 0) rfl (nI_add 1 _) (f := 16 + b) (by omega)) ?_
  refine n_iald dX7_partOf_12 rfl lv17 rfl (by first | assumption | omega | (unfold cI; omega)) ?_
  exact e_i dX7_partOf_13 rfl (by first | rfl | exact bi_nar _) (by first | rfl | simp [bi, *]) rfl
def rdr (hp : HPt) : HPt := hset hp (17, 0, 0, 0) 3 (jrem (75 * hp (17, 0, 0, 0) 3 + 74) 65537)
def rdv (hp : HPt) (m : Int32) : Int32 := jrem (rdr hp (17, 0, 0, 0) 3 / 16) m
theorem tX7_draw {g : Gh} {m : Int32} {hp : HPt} (hm : ¬ m = 0) : Ci g mX7_draw [vR (16, 0, 0, 0), vI m] hp (rdv hp m) (rdr hp) := by
  unfold Ci
  refine r_aload_n dX7_draw_0 (i := 0) rfl rfl ?_
  refine r_getR dX7_draw_1 f_7_7 rfl rfl rfl lv16 ?_
  refine r_iconst dX7_draw_4 (v := 3) rfl ?_
  refine r_bipush dX7_draw_5 (v := 75) rfl ?_
  refine r_aload_n dX7_draw_7 (i := 0) rfl rfl ?_
  refine r_getR dX7_draw_8 f_7_7 rfl rfl rfl lv16 ?_
  refine r_iconst dX7_draw_11 (v := 3) rfl ?_
  refine n_iald dX7_draw_12 rfl lv17 (k := 3) rfl (by decide) ?_
  refine r_imul dX7_draw_13 ?_
  refine r_bipush dX7_draw_14 (v := 74) rfl ?_
  refine r_iadd dX7_draw_16 ?_
  refine r_ldc dX7_draw_17 wd_856 ?_
  refine r_irem dX7_draw_19 (by decide) ?_
  refine n_iast dX7_draw_20 rfl lv17 (k := 3) rfl (by decide) ?_
  refine r_aload_n dX7_draw_21 (i := 0) rfl rfl ?_
  refine r_getR dX7_draw_22 f_7_7 rfl rfl rfl lv16 ?_
  refine r_iconst dX7_draw_25 (v := 3) rfl ?_
  refine n_iald dX7_draw_26 rfl lv17 (k := 3) rfl (by decide) ?_
  refine r_bipush dX7_draw_27 (v := 16) rfl ?_
  refine r_idiv dX7_draw_29 (by decide) ?_
  refine r_iload_n dX7_draw_30 (i := 1) rfl rfl ?_
  refine r_irem dX7_draw_31 hm ?_
  exact e_i dX7_draw_32 rfl (by first | rfl | exact bi_nar _) (by first | rfl | simp [bi, *]) rfl
def rm1 (hp : HPt) (j : Nat) (v num : Int32) : HPt := hset (hset (hset (hset (rdr hp) (17, 0, 0, 0) (cI j 15) num) (17, 0, 0, 0) (cI j 16) (rdv hp 256)) (17, 0, 0, 0) (cI j 17) (jrem (v + 256 - rdv hp 256) 256)) (17, 0, 0, 0) (cI j 18) 0
def rm2 (hp : HPt) (j b : Nat) : HPt := hset (rdr hp) (17, 0, 0, 0) (cI j (11 + b)) (rdv hp 256 + 1)
def rm3 (hp : HPt) (j b : Nat) : HPt := hset (rdr hp) (17, 0, 0, 0) (cI j (13 + b)) (rdv hp 257)
def rm4 (hp : HPt) : HPt := hset hp (17, 0, 0, 0) 8 (hp (17, 0, 0, 0) 8 + 1)
def RM (hp : HPt) (j : Nat) (v num : Int32) : HPt := rm4 (rm3 (rm2 (rm3 (rm2 (rm1 hp j v num) j 0) j 0) j 1) j 1)
theorem tX7_makes {g : Gh} {j : Nat} {v num : Int32} {hp : HPt} (hj : j < 8) : Cv g mX7_makes [vR (16, 0, 0, 0), vI (nI j), vI v, vI num] hp (RM hp j v num) := by
  have fin : V g mX7_makes 0 0 0 0 616 72 [some (vR (16, 0, 0, 0)), some (vI (nI j)), some (vI v), some (vI num), some (vI (rdv hp 256)), some (vI (nI 2))] [] RP (rm3 (rm2 (rm3 (rm2 (rm1 hp j v num) j 0) j 0) j 1) j 1) (Pv (RM hp j v num)) := by
    refine r_iload dX7_makes_72 rfl ?_
    refine r_iconst dX7_makes_74 (v := 2) rfl ?_
    refine r_icmp_ge dX7_makes_75 (tgt := 128) rfl (fun _ => ?_) (fun h75 => absurd ((by decide : (2 : Int32) ≤ nI 2)) h75)
    refine r_aload_n dX7_makes_128 (i := 0) rfl rfl ?_
    refine r_getR dX7_makes_129 f_7_7 rfl rfl rfl lv16 ?_
    refine r_bipush dX7_makes_132 (v := 8) rfl ?_
    refine r_dup2 dX7_makes_134 rfl rfl ?_
    refine n_iald dX7_makes_135 rfl lv17 (k := 8) rfl (by decide) ?_
    refine r_iconst dX7_makes_136 (v := 1) rfl ?_
    refine r_iadd dX7_makes_137 ?_
    refine n_iast dX7_makes_138 rfl lv17 (k := 8) rfl (by decide) ?_
    exact e_v dX7_makes_139 rfl (by first | rfl | simp [hset])
  have s1 : V g mX7_makes 0 0 0 0 616 72 [some (vR (16, 0, 0, 0)), some (vI (nI j)), some (vI v), some (vI num), some (vI (rdv hp 256)), some (vI (nI 1))] [] RP (rm3 (rm2 (rm1 hp j v num) j 0) j 0) (Pv (RM hp j v num)) := by
    refine r_iload dX7_makes_72 rfl ?_
    refine r_iconst dX7_makes_74 (v := 2) rfl ?_
    refine r_icmp_ge dX7_makes_75 (tgt := 128) rfl (fun h75 => absurd h75 ((by decide : ¬ (2 : Int32) ≤ nI 1))) (fun _ => ?_)
    refine r_aload_n dX7_makes_78 (i := 0) rfl rfl ?_
    refine r_getR dX7_makes_79 f_7_7 rfl rfl rfl lv16 ?_
    refine r_iload_n dX7_makes_82 (i := 1) rfl rfl ?_
    refine r_bipush dX7_makes_83 (v := 11) rfl ?_
    refine r_iload dX7_makes_85 rfl ?_
    refine r_iadd dX7_makes_87 ?_
    refine sX7_makes_88 (Nat.le_refl _) (Nat.le_refl _) (Nat.le_of_ble_eq_true rfl) (tX7_cell rfl (nI_add 11 _)) ?_
    refine r_aload_n dX7_makes_91 (i := 0) rfl rfl ?_
    refine r_sipush dX7_makes_92 (v := 256) rfl ?_
    refine sX7_makes_95 (Nat.le_refl _) (Nat.le_refl _) rfl lv16 (Nat.le_of_ble_eq_true rfl) (tX7_draw (by decide)) ?_
    refine r_iconst dX7_makes_98 (v := 1) rfl ?_
    refine r_iadd dX7_makes_99 ?_
    refine n_iast dX7_makes_100 rfl lv17 rfl (by first | assumption | omega | (unfold cI; omega)) ?_
    refine r_aload_n dX7_makes_101 (i := 0) rfl rfl ?_
    refine r_getR dX7_makes_102 f_7_7 rfl rfl rfl lv16 ?_
    refine r_iload_n dX7_makes_105 (i := 1) rfl rfl ?_
    refine r_bipush dX7_makes_106 (v := 13) rfl ?_
    refine r_iload dX7_makes_108 rfl ?_
    refine r_iadd dX7_makes_110 ?_
    refine sX7_makes_111 (Nat.le_refl _) (Nat.le_refl _) (Nat.le_of_ble_eq_true rfl) (tX7_cell rfl (nI_add 13 _)) ?_
    refine r_aload_n dX7_makes_114 (i := 0) rfl rfl ?_
    refine r_sipush dX7_makes_115 (v := 257) rfl ?_
    refine sX7_makes_118 (Nat.le_refl _) (Nat.le_refl _) rfl lv16 (Nat.le_of_ble_eq_true rfl) (tX7_draw (by decide)) ?_
    refine n_iast dX7_makes_121 rfl lv17 rfl (by first | assumption | omega | (unfold cI; omega)) ?_
    refine r_inc1 dX7_makes_122 rfl (Nat.le_of_ble_eq_true rfl) rfl ?_
    refine r_goto dX7_makes_125 (tgt := 72) rfl ?_
    exact fin
  have s0 : V g mX7_makes 0 0 0 0 616 72 [some (vR (16, 0, 0, 0)), some (vI (nI j)), some (vI v), some (vI num), some (vI (rdv hp 256)), some (vI (nI 0))] [] RP (rm1 hp j v num) (Pv (RM hp j v num)) := by
    refine r_iload dX7_makes_72 rfl ?_
    refine r_iconst dX7_makes_74 (v := 2) rfl ?_
    refine r_icmp_ge dX7_makes_75 (tgt := 128) rfl (fun h75 => absurd h75 ((by decide : ¬ (2 : Int32) ≤ nI 0))) (fun _ => ?_)
    refine r_aload_n dX7_makes_78 (i := 0) rfl rfl ?_
    refine r_getR dX7_makes_79 f_7_7 rfl rfl rfl lv16 ?_
    refine r_iload_n dX7_makes_82 (i := 1) rfl rfl ?_
    refine r_bipush dX7_makes_83 (v := 11) rfl ?_
    refine r_iload dX7_makes_85 rfl ?_
    refine r_iadd dX7_makes_87 ?_
    refine sX7_makes_88 (Nat.le_refl _) (Nat.le_refl _) (Nat.le_of_ble_eq_true rfl) (tX7_cell rfl (nI_add 11 _)) ?_
    refine r_aload_n dX7_makes_91 (i := 0) rfl rfl ?_
    refine r_sipush dX7_makes_92 (v := 256) rfl ?_
    refine sX7_makes_95 (Nat.le_refl _) (Nat.le_refl _) rfl lv16 (Nat.le_of_ble_eq_true rfl) (tX7_draw (by decide)) ?_
    refine r_iconst dX7_makes_98 (v := 1) rfl ?_
    refine r_iadd dX7_makes_99 ?_
    refine n_iast dX7_makes_100 rfl lv17 rfl (by first | assumption | omega | (unfold cI; omega)) ?_
    refine r_aload_n dX7_makes_101 (i := 0) rfl rfl ?_
    refine r_getR dX7_makes_102 f_7_7 rfl rfl rfl lv16 ?_
    refine r_iload_n dX7_makes_105 (i := 1) rfl rfl ?_
    refine r_bipush dX7_makes_106 (v := 13) rfl ?_
    refine r_iload dX7_makes_108 rfl ?_
    refine r_iadd dX7_makes_110 ?_
    refine sX7_makes_111 (Nat.le_refl _) (Nat.le_refl _) (Nat.le_of_ble_eq_true rfl) (tX7_cell rfl (nI_add 13 _)) ?_
    refine r_aload_n dX7_makes_114 (i := 0) rfl rfl ?_
    refine r_sipush dX7_makes_115 (v := 257) rfl ?_
    refine sX7_makes_118 (Nat.le_refl _) (Nat.le_refl _) rfl lv16 (Nat.le_of_ble_eq_true rfl) (tX7_draw (by decide)) ?_
    refine n_iast dX7_makes_121 rfl lv17 rfl (by first | assumption | omega | (unfold cI; omega)) ?_
    refine r_inc1 dX7_makes_122 rfl (Nat.le_of_ble_eq_true rfl) rfl ?_
    refine r_goto dX7_makes_125 (tgt := 72) rfl ?_
    exact s1
  unfold Cv
  refine r_aload_n dX7_makes_0 (i := 0) rfl rfl ?_
  refine r_sipush dX7_makes_1 (v := 256) rfl ?_
  refine sX7_makes_4 (Nat.le_refl _) (Nat.le_refl _) rfl lv16 (Nat.le_of_ble_eq_true rfl) (tX7_draw (by decide)) ?_
  refine r_istore dX7_makes_7 (Nat.le_of_ble_eq_true rfl) rfl rfl ?_
  refine r_aload_n dX7_makes_9 (i := 0) rfl rfl ?_
  refine r_getR dX7_makes_10 f_7_7 rfl rfl rfl lv16 ?_
  refine r_iload_n dX7_makes_13 (i := 1) rfl rfl ?_
  refine r_iconst dX7_makes_14 (v := 0) rfl ?_
  refine r_iconst dX7_makes_15 (v := 0) rfl ?_
  refine sX7_makes_16 (Nat.le_refl _) (Nat.le_refl _) (Nat.le_of_ble_eq_true rfl) (tX7_at rfl (r := 0) rfl (w := 0) rfl (f := 15) rfl) ?_
  refine r_iload_n dX7_makes_19 (i := 3) rfl rfl ?_
  refine n_iast dX7_makes_20 rfl lv17 rfl (by first | assumption | omega | (unfold cI; omega)) ?_
  refine r_aload_n dX7_makes_21 (i := 0) rfl rfl ?_
  refine r_getR dX7_makes_22 f_7_7 rfl rfl rfl lv16 ?_
  refine r_iload_n dX7_makes_25 (i := 1) rfl rfl ?_
  refine r_iconst dX7_makes_26 (v := 0) rfl ?_
  refine r_iconst dX7_makes_27 (v := 1) rfl ?_
  refine sX7_makes_28 (Nat.le_refl _) (Nat.le_refl _) (Nat.le_of_ble_eq_true rfl) (tX7_at rfl (r := 0) rfl (w := 1) rfl (f := 16) rfl) ?_
  refine r_iload dX7_makes_31 rfl ?_
  refine n_iast dX7_makes_33 rfl lv17 rfl (by first | assumption | omega | (unfold cI; omega)) ?_
  refine r_aload_n dX7_makes_34 (i := 0) rfl rfl ?_
  refine r_getR dX7_makes_35 f_7_7 rfl rfl rfl lv16 ?_
  refine r_iload_n dX7_makes_38 (i := 1) rfl rfl ?_
  refine r_iconst dX7_makes_39 (v := 0) rfl ?_
  refine r_iconst dX7_makes_40 (v := 2) rfl ?_
  refine sX7_makes_41 (Nat.le_refl _) (Nat.le_refl _) (Nat.le_of_ble_eq_true rfl) (tX7_at rfl (r := 0) rfl (w := 2) rfl (f := 17) rfl) ?_
  refine r_iload_n dX7_makes_44 (i := 2) rfl rfl ?_
  refine r_sipush dX7_makes_45 (v := 256) rfl ?_
  refine r_iadd dX7_makes_48 ?_
  refine r_iload dX7_makes_49 rfl ?_
  refine r_isub dX7_makes_51 ?_
  refine r_sipush dX7_makes_52 (v := 256) rfl ?_
  refine r_irem dX7_makes_55 (by decide) ?_
  refine n_iast dX7_makes_56 rfl lv17 rfl (by first | assumption | omega | (unfold cI; omega)) ?_
  refine r_aload_n dX7_makes_57 (i := 0) rfl rfl ?_
  refine r_getR dX7_makes_58 f_7_7 rfl rfl rfl lv16 ?_
  refine r_iload_n dX7_makes_61 (i := 1) rfl rfl ?_
  refine r_iconst dX7_makes_62 (v := 0) rfl ?_
  refine r_iconst dX7_makes_63 (v := 3) rfl ?_
  refine sX7_makes_64 (Nat.le_refl _) (Nat.le_refl _) (Nat.le_of_ble_eq_true rfl) (tX7_at rfl (r := 0) rfl (w := 3) rfl (f := 18) rfl) ?_
  refine r_iconst dX7_makes_67 (v := 0) rfl ?_
  refine n_iast dX7_makes_68 rfl lv17 rfl (by first | assumption | omega | (unfold cI; omega)) ?_
  refine r_iconst dX7_makes_69 (v := 0) rfl ?_
  refine r_istore dX7_makes_70 (Nat.le_of_ble_eq_true rfl) rfl rfl ?_
  exact s0
/-- the rank r of old versions is emptied -/
def rz (hp : HPt) (j r : Nat) : Nat → HPt
  | 0 => hp
  | w + 1 => hset (rz hp j r w) (17, 0, 0, 0) (cI j (15 + 4 * r + w)) 0
/-- k old versions, of m, are burnt -/
def rbs (hp : HPt) (j m : Nat) : Nat → HPt
  | 0 => hp
  | k + 1 => hset (rz (rbs hp j m k) j (m - k) 4) (17, 0, 0, 0) (cI j 0) (nI (m - (k + 1)))
theorem rz_i {hp : HPt} {j r i : Nat} (h : i < cI j (15 + 4 * r) ∨ cI j (15 + 4 * r + 4) ≤ i) : ∀ w, w ≤ 4 → rz hp j r w (17, 0, 0, 0) i = hp (17, 0, 0, 0) i
  | 0, _ => rfl
  | w + 1, hw => by
    show hset _ _ _ _ _ i = _
    rw [hs_i (by unfold cI at h ⊢; omega)]
    exact rz_i h w (by omega)
theorem rz_a {hp : HPt} {j r i : Nat} {a : A4} (h : a ≠ (17, 0, 0, 0)) : ∀ w, rz hp j r w a i = hp a i
  | 0 => rfl
  | w + 1 => by
    show hset _ _ _ _ a i = _
    rw [hs_a h]
    exact rz_a h w
theorem rbs_0 {hp : HPt} {j m : Nat} (hm : hp (17, 0, 0, 0) (cI j 0) = nI m) : ∀ k, rbs hp j m k (17, 0, 0, 0) (cI j 0) = nI (m - k)
  | 0 => hm
  | k + 1 => hs_eq
theorem rbs_i {hp : HPt} {j m i : Nat} (h : i < cI j 0 ∨ (cI j 0 < i ∧ i < cI j 19) ∨ cI j 35 ≤ i) (hm : m < 5) : ∀ k, k ≤ m → rbs hp j m k (17, 0, 0, 0) i = hp (17, 0, 0, 0) i
  | 0, _ => rfl
  | k + 1, hk => by
    show hset _ _ _ _ _ i = _
    rw [hs_i (by unfold cI at h ⊢; omega), rz_i (by unfold cI at h ⊢; omega) 4 (Nat.le_refl _)]
    exact rbs_i h hm k (by omega)
theorem rbs_a {hp : HPt} {j m i : Nat} {a : A4} (h : a ≠ (17, 0, 0, 0)) : ∀ k, rbs hp j m k a i = hp a i
  | 0 => rfl
  | k + 1 => by
    show hset _ _ _ _ a i = _
    rw [hs_a h, rz_a h]
    exact rbs_a h k
def RB (hp : HPt) (j m l : Nat) : HPt := hset (rbs hp j m (m - l)) (17, 0, 0, 0) 9 (hp (17, 0, 0, 0) 9 + nI (m - l))
theorem tX7_burns {g : Gh} {j m l : Nat} {hp : HPt} (hj : j < 8) (hm : m < 5) (hM : hp (17, 0, 0, 0) (cI j 0) = nI m) (hl : l < 5) : Ci g mX7_burns [vR (16, 0, 0, 0), vI (nI j), vI (nI l)] hp (nI (m - l)) (RB hp j m l) := by
  have inner : ∀ H : HPt, ∀ r n4, 0 < r → r < 5 → H (17, 0, 0, 0) (cI j 0) = nI r → ∀ L4 : Int32, ∀ P : Pst, V g mX7_burns 0 0 0 0 616 53 [some (vR (16, 0, 0, 0)), some (vI (nI j)), some (vI (nI l)), some (vI n4), some (vI (nI 4))] [] RP (rz H j r 4) P → ∀ k w, w + k = 4 → V g mX7_burns 0 0 0 0 616 19 [some (vR (16, 0, 0, 0)), some (vI (nI j)), some (vI (nI l)), some (vI n4), some (vI (nI w))] [] RP (rz H j r w) P := by
    intro H r n4 h0 h5 hH L4 P hE k
    induction k with
    | zero =>
      intro w hw
      have hw : w = 4 := by omega
      subst hw
      refine r_iload dX7_burns_19 rfl ?_
      refine r_iconst dX7_burns_21 (v := 4) rfl ?_
      refine r_icmp_ge dX7_burns_22 (tgt := 53) rfl (fun _ => ?_) (fun h22 => absurd ((by decide : (4 : Int32) ≤ nI 4)) h22)
      exact hE
    | succ k ih =>
      intro w hw
      have hw4 : w < 4 := by omega
      have h := ih (w + 1) (by omega)
      rw [nI_succ] at h
      have e : rz H j r w (17, 0, 0, 0) (cI j 0) = nI r := by rw [rz_i (by unfold cI; omega) w (by omega)]; exact hH
      refine r_iload dX7_burns_19 rfl ?_
      refine r_iconst dX7_burns_21 (v := 4) rfl ?_
      refine r_icmp_ge dX7_burns_22 (tgt := 53) rfl (fun h22 => absurd h22 ((nI_ge (b := 4) hw4 (by decide) : ¬ (4 : Int32) ≤ nI w))) (fun _ => ?_)
      refine r_aload_n dX7_burns_25 (i := 0) rfl rfl ?_
      refine r_getR dX7_burns_26 f_7_7 rfl rfl rfl lv16 ?_
      refine r_iload_n dX7_burns_29 (i := 1) rfl rfl ?_
      refine r_aload_n dX7_burns_30 (i := 0) rfl rfl ?_
      refine r_getR dX7_burns_31 f_7_7 rfl rfl rfl lv16 ?_
      refine r_iload_n dX7_burns_34 (i := 1) rfl rfl ?_
      refine r_iconst dX7_burns_35 (v := 0) rfl ?_
      refine sX7_burns_36 (Nat.le_refl _) (Nat.le_refl _) (Nat.le_of_ble_eq_true rfl) (tX7_cell rfl (f := 0) rfl) ?_
      refine n_iald dX7_burns_39 rfl lv17 rfl (by first | assumption | omega | (unfold cI; omega)) ?_
      refine r_iload dX7_burns_40 rfl ?_
      rw [e]
      refine sX7_burns_42 (Nat.le_refl _) (Nat.le_refl _) (Nat.le_of_ble_eq_true rfl) (tX7_at rfl rfl rfl rfl) ?_
      refine r_iconst dX7_burns_45 (v := 0) rfl ?_
      refine n_iast dX7_burns_46 rfl lv17 rfl (by first | assumption | omega | (unfold cI; omega)) ?_
      refine r_inc1 dX7_burns_47 rfl (Nat.le_of_ble_eq_true rfl) rfl ?_
      refine r_goto dX7_burns_50 (tgt := 19) rfl ?_
      exact h
  have outer : ∀ x4 : Option Vv, ∀ i k, k + i = m - l → V g mX7_burns 0 0 0 0 616 2 [some (vR (16, 0, 0, 0)), some (vI (nI j)), some (vI (nI l)), some (vI (nI k)), x4] [] RP (rbs hp j m k) (Pi (nI (m - l)) (RB hp j m l)) := by
    intro x4 i
    induction i generalizing x4 with
    | zero =>
      intro k hk
      have hk : k = m - l := by omega
      subst hk
      refine r_aload_n dX7_burns_2 (i := 0) rfl rfl ?_
      refine r_getR dX7_burns_3 f_7_7 rfl rfl rfl lv16 ?_
      refine r_iload_n dX7_burns_6 (i := 1) rfl rfl ?_
      refine r_iconst dX7_burns_7 (v := 0) rfl ?_
      refine sX7_burns_8 (Nat.le_refl _) (Nat.le_refl _) (Nat.le_of_ble_eq_true rfl) (tX7_cell rfl (f := 0) rfl) ?_
      refine n_iald dX7_burns_11 rfl lv17 rfl (by first | assumption | omega | (unfold cI; omega)) ?_
      refine r_iload_n dX7_burns_12 (i := 2) rfl rfl ?_
      refine r_icmp_le dX7_burns_13 (tgt := 73) rfl (fun _ => ?_) (fun h13 => absurd ((by rw [rbs_0 hM]; exact nI_le (by omega) (by omega))) h13)
      refine r_aload_n dX7_burns_73 (i := 0) rfl rfl ?_
      refine r_getR dX7_burns_74 f_7_7 rfl rfl rfl lv16 ?_
      refine r_bipush dX7_burns_77 (v := 9) rfl ?_
      refine r_dup2 dX7_burns_79 rfl rfl ?_
      refine n_iald dX7_burns_80 rfl lv17 (k := 9) rfl (by decide) ?_
      refine r_iload_n dX7_burns_81 (i := 3) rfl rfl ?_
      refine r_iadd dX7_burns_82 ?_
      refine n_iast dX7_burns_83 rfl lv17 (k := 9) rfl (by decide) ?_
      refine r_iload_n dX7_burns_84 (i := 3) rfl rfl ?_
      exact e_i dX7_burns_85 rfl rfl rfl (by unfold RB; rw [rbs_i (by unfold cI; omega) hm _ (by omega)])
    | succ i ih =>
      intro k hk
      have hml : m - k ≠ 0 := by omega
      have h := ih (some (vI (nI 4))) (k + 1) (by omega)
      rw [nI_succ] at h
      have e := rbs_0 hM k
      have e3 : rz (rbs hp j m k) j (m - k) 4 (17, 0, 0, 0) (cI j 0) = nI (m - k) := by rw [rz_i (by unfold cI; omega) 4 (Nat.le_refl _)]; exact e
      have e4 : nI (m - k) - 1 = nI (m - (k + 1)) := by
        rw [show m - k = (m - (k + 1)) + 1 by omega]
        exact nI_pred _
      have cont : V g mX7_burns 0 0 0 0 616 53 [some (vR (16, 0, 0, 0)), some (vI (nI j)), some (vI (nI l)), some (vI (nI k)), some (vI (nI 4))] [] RP (rz (rbs hp j m k) j (m - k) 4) (Pi (nI (m - l)) (RB hp j m l)) := by
        refine r_aload_n dX7_burns_53 (i := 0) rfl rfl ?_
        refine r_getR dX7_burns_54 f_7_7 rfl rfl rfl lv16 ?_
        refine r_iload_n dX7_burns_57 (i := 1) rfl rfl ?_
        refine r_iconst dX7_burns_58 (v := 0) rfl ?_
        refine sX7_burns_59 (Nat.le_refl _) (Nat.le_refl _) (Nat.le_of_ble_eq_true rfl) (tX7_cell rfl (f := 0) rfl) ?_
        refine r_dup2 dX7_burns_62 rfl rfl ?_
        refine n_iald dX7_burns_63 rfl lv17 rfl (by first | assumption | omega | (unfold cI; omega)) ?_
        refine r_iconst dX7_burns_64 (v := 1) rfl ?_
        refine r_isub dX7_burns_65 ?_
        refine n_iast dX7_burns_66 rfl lv17 rfl (by first | assumption | omega | (unfold cI; omega)) ?_
        refine V.eqH (hp2 := rbs hp j m (k + 1)) (by rw [e3, e4]; rfl) ?_
        refine r_inc1 dX7_burns_67 rfl (Nat.le_of_ble_eq_true rfl) rfl ?_
        refine r_goto dX7_burns_70 (tgt := 2) rfl ?_
        exact h
      refine r_aload_n dX7_burns_2 (i := 0) rfl rfl ?_
      refine r_getR dX7_burns_3 f_7_7 rfl rfl rfl lv16 ?_
      refine r_iload_n dX7_burns_6 (i := 1) rfl rfl ?_
      refine r_iconst dX7_burns_7 (v := 0) rfl ?_
      refine sX7_burns_8 (Nat.le_refl _) (Nat.le_refl _) (Nat.le_of_ble_eq_true rfl) (tX7_cell rfl (f := 0) rfl) ?_
      refine n_iald dX7_burns_11 rfl lv17 rfl (by first | assumption | omega | (unfold cI; omega)) ?_
      refine r_iload_n dX7_burns_12 (i := 2) rfl rfl ?_
      refine r_icmp_le dX7_burns_13 (tgt := 73) rfl (fun h13 => absurd h13 ((by rw [e]; exact nI_ge (by omega) (by omega)))) (fun _ => ?_)
      refine r_iconst dX7_burns_16 (v := 0) rfl ?_
      refine r_istore dX7_burns_17 (Nat.le_of_ble_eq_true rfl) rfl rfl ?_
      exact inner (rbs hp j m k) (m - k) (nI k) (by omega) (by omega) e 0 _ cont 4 0 rfl
  unfold Ci
  refine r_iconst dX7_burns_0 (v := 0) rfl ?_
  refine r_istore_n dX7_burns_1 (i := 3) rfl (Nat.le_of_ble_eq_true rfl) rfl rfl ?_
  exact outer none (m - l) 0 (by omega)
