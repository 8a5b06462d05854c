variable {sr : Nat → Int32}
section ORD
variable {g : Gh} {hp hB hD : HPt} {n : Nat} {r : Int32}
theorem isD_x {L : Int32} (h0 : hB (23, 0, 0, 0) 0 = L) (hL : ¬ L = 116) (D : Ci g mX7_does [vR (16, 0, 0, 0), vI L, vI (hB (23, 0, 0, 0) 1), vI (hB (23, 0, 0, 0) 2), vI (hB (23, 0, 0, 0) 3), vI (hB (23, 0, 0, 0) 4)] hB r hD) : Ci g mX7_isDone [vR (16, 0, 0, 0)] hB (bi (!decide (r < 0))) hD := by
  unfold Ci
  refine r_aload_n dX7_isDone_0 (i := 0) rfl rfl ?_
  refine r_getR dX7_isDone_1 f_7_29 rfl rfl rfl lv16 ?_
  refine r_iconst dX7_isDone_4 (v := 0) rfl ?_
  refine n_iald dX7_isDone_5 rfl lv23 (k := 0) rfl (by decide) ?_
  refine r_bipush dX7_isDone_6 (v := 116) rfl ?_
  refine r_icmp_ne dX7_isDone_8 (tgt := 39) rfl (fun _ => ?_) (fun h8 => absurd h8 ((by rw [h0]; exact hL)))
  refine r_iconst dX7_isDone_39 (v := 0) rfl ?_
  refine r_istore_n dX7_isDone_40 (i := 1) rfl (Nat.le_of_ble_eq_true rfl) rfl rfl ?_
  refine r_iload_n dX7_isDone_41 (i := 1) rfl rfl ?_
  refine r_if_eq dX7_isDone_42 (tgt := 64) rfl (fun _ => ?_) (fun h42 => absurd (rfl) h42)
  refine r_aload_n dX7_isDone_64 (i := 0) rfl rfl ?_
  refine r_getR dX7_isDone_65 f_7_29 rfl rfl rfl lv16 ?_
  refine r_iconst dX7_isDone_68 (v := 3) rfl ?_
  refine n_iald dX7_isDone_69 rfl lv23 (k := 3) rfl (by decide) ?_
  refine r_istore_n dX7_isDone_70 (i := 2) rfl (Nat.le_of_ble_eq_true rfl) rfl rfl ?_
  refine r_aload_n dX7_isDone_71 (i := 0) rfl rfl ?_
  refine r_aload_n dX7_isDone_72 (i := 0) rfl rfl ?_
  refine r_getR dX7_isDone_73 f_7_29 rfl rfl rfl lv16 ?_
  refine r_iconst dX7_isDone_76 (v := 0) rfl ?_
  refine n_iald dX7_isDone_77 rfl lv23 (k := 0) rfl (by decide) ?_
  refine r_aload_n dX7_isDone_78 (i := 0) rfl rfl ?_
  refine r_getR dX7_isDone_79 f_7_29 rfl rfl rfl lv16 ?_
  refine r_iconst dX7_isDone_82 (v := 1) rfl ?_
  refine n_iald dX7_isDone_83 rfl lv23 (k := 1) rfl (by decide) ?_
  refine r_aload_n dX7_isDone_84 (i := 0) rfl rfl ?_
  refine r_getR dX7_isDone_85 f_7_29 rfl rfl rfl lv16 ?_
  refine r_iconst dX7_isDone_88 (v := 2) rfl ?_
  refine n_iald dX7_isDone_89 rfl lv23 (k := 2) rfl (by decide) ?_
  refine r_iload_n dX7_isDone_90 (i := 2) rfl rfl ?_
  refine r_aload_n dX7_isDone_91 (i := 0) rfl rfl ?_
  refine r_getR dX7_isDone_92 f_7_29 rfl rfl rfl lv16 ?_
  refine r_iconst dX7_isDone_95 (v := 4) rfl ?_
  refine n_iald dX7_isDone_96 rfl lv23 (k := 4) rfl (by decide) ?_
  rw [h0]
  refine sX7_isDone_97 (Nat.le_refl _) (Nat.le_refl _) rfl lv16 (Nat.le_of_ble_eq_true rfl) (D) ?_
  refine r_if_lt dX7_isDone_100 (tgt := 107) rfl (fun h100 => ?_) (fun h100 => ?_)
  · refine r_iconst dX7_isDone_107 (v := 0) rfl ?_
    exact e_i dX7_isDone_108 rfl (by first | rfl | exact bi_nar _) (by first | (simp [bi, *]; done) | (simp_all [bi])) rfl
  · refine r_iconst dX7_isDone_103 (v := 1) rfl ?_
    refine r_goto dX7_isDone_104 (tgt := 108) rfl ?_
    exact e_i dX7_isDone_108 rfl (by first | rfl | exact bi_nar _) (by first | (simp [bi, *]; done) | (simp_all [bi])) rfl
theorem isD_t3 (h0 : hB (23, 0, 0, 0) 0 = 116) (h3 : ¬ hB (23, 0, 0, 0) 3 = -6) (D : Ci g mX7_does [vR (16, 0, 0, 0), vI 116, vI (hB (23, 0, 0, 0) 1), vI (hB (23, 0, 0, 0) 2), vI (hB (23, 0, 0, 0) 3), vI (hB (23, 0, 0, 0) 4)] hB r hD) : Ci g mX7_isDone [vR (16, 0, 0, 0)] hB (bi (!decide (r < 0))) hD := by
  unfold Ci
  refine r_aload_n dX7_isDone_0 (i := 0) rfl rfl ?_
  refine r_getR dX7_isDone_1 f_7_29 rfl rfl rfl lv16 ?_
  refine r_iconst dX7_isDone_4 (v := 0) rfl ?_
  refine n_iald dX7_isDone_5 rfl lv23 (k := 0) rfl (by decide) ?_
  refine r_bipush dX7_isDone_6 (v := 116) rfl ?_
  refine r_icmp_ne dX7_isDone_8 (tgt := 39) rfl (fun h8 => absurd (h0) h8) (fun _ => ?_)
  refine r_aload_n dX7_isDone_11 (i := 0) rfl rfl ?_
  refine r_getR dX7_isDone_12 f_7_29 rfl rfl rfl lv16 ?_
  refine r_iconst dX7_isDone_15 (v := 3) rfl ?_
  refine n_iald dX7_isDone_16 rfl lv23 (k := 3) rfl (by decide) ?_
  refine r_bipush dX7_isDone_17 (v := (-6)) rfl ?_
  refine r_icmp_ne dX7_isDone_19 (tgt := 39) rfl (fun _ => ?_) (fun h19 => absurd h19 (h3))
  refine r_iconst dX7_isDone_39 (v := 0) rfl ?_
  refine r_istore_n dX7_isDone_40 (i := 1) rfl (Nat.le_of_ble_eq_true rfl) rfl rfl ?_
  refine r_iload_n dX7_isDone_41 (i := 1) rfl rfl ?_
  refine r_if_eq dX7_isDone_42 (tgt := 64) rfl (fun _ => ?_) (fun h42 => absurd (rfl) h42)
  refine r_aload_n dX7_isDone_64 (i := 0) rfl rfl ?_
  refine r_getR dX7_isDone_65 f_7_29 rfl rfl rfl lv16 ?_
  refine r_iconst dX7_isDone_68 (v := 3) rfl ?_
  refine n_iald dX7_isDone_69 rfl lv23 (k := 3) rfl (by decide) ?_
  refine r_istore_n dX7_isDone_70 (i := 2) rfl (Nat.le_of_ble_eq_true rfl) rfl rfl ?_
  refine r_aload_n dX7_isDone_71 (i := 0) rfl rfl ?_
  refine r_aload_n dX7_isDone_72 (i := 0) rfl rfl ?_
  refine r_getR dX7_isDone_73 f_7_29 rfl rfl rfl lv16 ?_
  refine r_iconst dX7_isDone_76 (v := 0) rfl ?_
  refine n_iald dX7_isDone_77 rfl lv23 (k := 0) rfl (by decide) ?_
  refine r_aload_n dX7_isDone_78 (i := 0) rfl rfl ?_
  refine r_getR dX7_isDone_79 f_7_29 rfl rfl rfl lv16 ?_
  refine r_iconst dX7_isDone_82 (v := 1) rfl ?_
  refine n_iald dX7_isDone_83 rfl lv23 (k := 1) rfl (by decide) ?_
  refine r_aload_n dX7_isDone_84 (i := 0) rfl rfl ?_
  refine r_getR dX7_isDone_85 f_7_29 rfl rfl rfl lv16 ?_
  refine r_iconst dX7_isDone_88 (v := 2) rfl ?_
  refine n_iald dX7_isDone_89 rfl lv23 (k := 2) rfl (by decide) ?_
  refine r_iload_n dX7_isDone_90 (i := 2) rfl rfl ?_
  refine r_aload_n dX7_isDone_91 (i := 0) rfl rfl ?_
  refine r_getR dX7_isDone_92 f_7_29 rfl rfl rfl lv16 ?_
  refine r_iconst dX7_isDone_95 (v := 4) rfl ?_
  refine n_iald dX7_isDone_96 rfl lv23 (k := 4) rfl (by decide) ?_
  rw [h0]
  refine sX7_isDone_97 (Nat.le_refl _) (Nat.le_refl _) rfl lv16 (Nat.le_of_ble_eq_true rfl) (D) ?_
  refine r_if_lt dX7_isDone_100 (tgt := 107) rfl (fun h100 => ?_) (fun h100 => ?_)
  · refine r_iconst dX7_isDone_107 (v := 0) rfl ?_
    exact e_i dX7_isDone_108 rfl (by first | rfl | exact bi_nar _) (by first | (simp [bi, *]; done) | (simp_all [bi])) rfl
  · refine r_iconst dX7_isDone_103 (v := 1) rfl ?_
    refine r_goto dX7_isDone_104 (tgt := 108) rfl ?_
    exact e_i dX7_isDone_108 rfl (by first | rfl | exact bi_nar _) (by first | (simp [bi, *]; done) | (simp_all [bi])) rfl
theorem isD_t2 (h0 : hB (23, 0, 0, 0) 0 = 116) (h3 : hB (23, 0, 0, 0) 3 = -6) (hh : rHas hB (hB (23, 0, 0, 0) 2) = false) (D : Ci g mX7_does [vR (16, 0, 0, 0), vI 116, vI (hB (23, 0, 0, 0) 1), vI (hB (23, 0, 0, 0) 2), vI (hB (23, 0, 0, 0) 3), vI (hB (23, 0, 0, 0) 4)] hB r hD) : Ci g mX7_isDone [vR (16, 0, 0, 0)] hB (bi (!decide (r < 0))) hD := by
  unfold Ci
  refine r_aload_n dX7_isDone_0 (i := 0) rfl rfl ?_
  refine r_getR dX7_isDone_1 f_7_29 rfl rfl rfl lv16 ?_
  refine r_iconst dX7_isDone_4 (v := 0) rfl ?_
  refine n_iald dX7_isDone_5 rfl lv23 (k := 0) rfl (by decide) ?_
  refine r_bipush dX7_isDone_6 (v := 116) rfl ?_
  refine r_icmp_ne dX7_isDone_8 (tgt := 39) rfl (fun h8 => absurd (h0) h8) (fun _ => ?_)
  refine r_aload_n dX7_isDone_11 (i := 0) rfl rfl ?_
  refine r_getR dX7_isDone_12 f_7_29 rfl rfl rfl lv16 ?_
  refine r_iconst dX7_isDone_15 (v := 3) rfl ?_
  refine n_iald dX7_isDone_16 rfl lv23 (k := 3) rfl (by decide) ?_
  refine r_bipush dX7_isDone_17 (v := (-6)) rfl ?_
  refine r_icmp_ne dX7_isDone_19 (tgt := 39) rfl (fun h19 => absurd (h3) h19) (fun _ => ?_)
  refine r_aload_n dX7_isDone_22 (i := 0) rfl rfl ?_
  refine r_aload_n dX7_isDone_23 (i := 0) rfl rfl ?_
  refine r_getR dX7_isDone_24 f_7_29 rfl rfl rfl lv16 ?_
  refine r_iconst dX7_isDone_27 (v := 2) rfl ?_
  refine n_iald dX7_isDone_28 rfl lv23 (k := 2) rfl (by decide) ?_
  refine sX7_isDone_29 (Nat.le_refl _) (Nat.le_refl _) rfl lv16 (Nat.le_of_ble_eq_true rfl) (tX7_isSecret) ?_
  refine r_if_eq dX7_isDone_32 (tgt := 39) rfl (fun _ => ?_) (fun h32 => absurd (bi_0.mpr hh) h32)
  refine r_iconst dX7_isDone_39 (v := 0) rfl ?_
  refine r_istore_n dX7_isDone_40 (i := 1) rfl (Nat.le_of_ble_eq_true rfl) rfl rfl ?_
  refine r_iload_n dX7_isDone_41 (i := 1) rfl rfl ?_
  refine r_if_eq dX7_isDone_42 (tgt := 64) rfl (fun _ => ?_) (fun h42 => absurd (rfl) h42)
  refine r_aload_n dX7_isDone_64 (i := 0) rfl rfl ?_
  refine r_getR dX7_isDone_65 f_7_29 rfl rfl rfl lv16 ?_
  refine r_iconst dX7_isDone_68 (v := 3) rfl ?_
  refine n_iald dX7_isDone_69 rfl lv23 (k := 3) rfl (by decide) ?_
  refine r_istore_n dX7_isDone_70 (i := 2) rfl (Nat.le_of_ble_eq_true rfl) rfl rfl ?_
  refine r_aload_n dX7_isDone_71 (i := 0) rfl rfl ?_
  refine r_aload_n dX7_isDone_72 (i := 0) rfl rfl ?_
  refine r_getR dX7_isDone_73 f_7_29 rfl rfl rfl lv16 ?_
  refine r_iconst dX7_isDone_76 (v := 0) rfl ?_
  refine n_iald dX7_isDone_77 rfl lv23 (k := 0) rfl (by decide) ?_
  refine r_aload_n dX7_isDone_78 (i := 0) rfl rfl ?_
  refine r_getR dX7_isDone_79 f_7_29 rfl rfl rfl lv16 ?_
  refine r_iconst dX7_isDone_82 (v := 1) rfl ?_
  refine n_iald dX7_isDone_83 rfl lv23 (k := 1) rfl (by decide) ?_
  refine r_aload_n dX7_isDone_84 (i := 0) rfl rfl ?_
  refine r_getR dX7_isDone_85 f_7_29 rfl rfl rfl lv16 ?_
  refine r_iconst dX7_isDone_88 (v := 2) rfl ?_
  refine n_iald dX7_isDone_89 rfl lv23 (k := 2) rfl (by decide) ?_
  refine r_iload_n dX7_isDone_90 (i := 2) rfl rfl ?_
  refine r_aload_n dX7_isDone_91 (i := 0) rfl rfl ?_
  refine r_getR dX7_isDone_92 f_7_29 rfl rfl rfl lv16 ?_
  refine r_iconst dX7_isDone_95 (v := 4) rfl ?_
  refine n_iald dX7_isDone_96 rfl lv23 (k := 4) rfl (by decide) ?_
  rw [h0]
  refine sX7_isDone_97 (Nat.le_refl _) (Nat.le_refl _) rfl lv16 (Nat.le_of_ble_eq_true rfl) (D) ?_
  refine r_if_lt dX7_isDone_100 (tgt := 107) rfl (fun h100 => ?_) (fun h100 => ?_)
  · refine r_iconst dX7_isDone_107 (v := 0) rfl ?_
    exact e_i dX7_isDone_108 rfl (by first | rfl | exact bi_nar _) (by first | (simp [bi, *]; done) | (simp_all [bi])) rfl
  · refine r_iconst dX7_isDone_103 (v := 1) rfl ?_
    refine r_goto dX7_isDone_104 (tgt := 108) rfl ?_
    exact e_i dX7_isDone_108 rfl (by first | rfl | exact bi_nar _) (by first | (simp [bi, *]; done) | (simp_all [bi])) rfl
theorem isD_t1 {j : Nat} (h0 : hB (23, 0, 0, 0) 0 = 116) (h3 : hB (23, 0, 0, 0) 3 = -6) (h2 : hB (23, 0, 0, 0) 2 = nI j) (hj : j < 8) (hh : rHas hB (nI j) = true) (D : Ci g mX7_does [vR (16, 0, 0, 0), vI 116, vI (hB (23, 0, 0, 0) 1), vI (nI j), vI (hB (17, 0, 0, 0) (cI j 15)), vI (hB (23, 0, 0, 0) 4)] hB r hD) : Ci g mX7_isDone [vR (16, 0, 0, 0)] hB (bi (!decide (r < 0))) hD := by
  unfold Ci
  refine r_aload_n dX7_isDone_0 (i := 0) rfl rfl ?_
  refine r_getR dX7_isDone_1 f_7_29 rfl rfl rfl lv16 ?_
  refine r_iconst dX7_isDone_4 (v := 0) rfl ?_
  refine n_iald dX7_isDone_5 rfl lv23 (k := 0) rfl (by decide) ?_
  refine r_bipush dX7_isDone_6 (v := 116) rfl ?_
  refine r_icmp_ne dX7_isDone_8 (tgt := 39) rfl (fun h8 => absurd (h0) h8) (fun _ => ?_)
  refine r_aload_n dX7_isDone_11 (i := 0) rfl rfl ?_
  refine r_getR dX7_isDone_12 f_7_29 rfl rfl rfl lv16 ?_
  refine r_iconst dX7_isDone_15 (v := 3) rfl ?_
  refine n_iald dX7_isDone_16 rfl lv23 (k := 3) rfl (by decide) ?_
  refine r_bipush dX7_isDone_17 (v := (-6)) rfl ?_
  refine r_icmp_ne dX7_isDone_19 (tgt := 39) rfl (fun h19 => absurd (h3) h19) (fun _ => ?_)
  refine r_aload_n dX7_isDone_22 (i := 0) rfl rfl ?_
  refine r_aload_n dX7_isDone_23 (i := 0) rfl rfl ?_
  refine r_getR dX7_isDone_24 f_7_29 rfl rfl rfl lv16 ?_
  refine r_iconst dX7_isDone_27 (v := 2) rfl ?_
  refine n_iald dX7_isDone_28 rfl lv23 (k := 2) rfl (by decide) ?_
  rw [h2]
  refine sX7_isDone_29 (Nat.le_refl _) (Nat.le_refl _) rfl lv16 (Nat.le_of_ble_eq_true rfl) (tX7_isSecret) ?_
  refine r_if_eq dX7_isDone_32 (tgt := 39) rfl (fun h32 => absurd h32 (bi_n0.mpr hh)) (fun _ => ?_)
  refine r_iconst dX7_isDone_35 (v := 1) rfl ?_
  refine r_goto dX7_isDone_36 (tgt := 40) rfl ?_
  refine r_istore_n dX7_isDone_40 (i := 1) rfl (Nat.le_of_ble_eq_true rfl) rfl rfl ?_
  refine r_iload_n dX7_isDone_41 (i := 1) rfl rfl ?_
  refine r_if_eq dX7_isDone_42 (tgt := 64) rfl (fun h42 => absurd h42 ((by decide))) (fun _ => ?_)
  refine r_aload_n dX7_isDone_45 (i := 0) rfl rfl ?_
  refine r_getR dX7_isDone_46 f_7_7 rfl rfl rfl lv16 ?_
  refine r_aload_n dX7_isDone_49 (i := 0) rfl rfl ?_
  refine r_getR dX7_isDone_50 f_7_29 rfl rfl rfl lv16 ?_
  refine r_iconst dX7_isDone_53 (v := 2) rfl ?_
  refine n_iald dX7_isDone_54 rfl lv23 (k := 2) rfl (by decide) ?_
  refine r_iconst dX7_isDone_55 (v := 0) rfl ?_
  refine r_iconst dX7_isDone_56 (v := 0) rfl ?_
  rw [h2]
  refine sX7_isDone_57 (Nat.le_refl _) (Nat.le_refl _) (Nat.le_of_ble_eq_true rfl) (tX7_at rfl (r := 0) rfl (w := 0) rfl (f := 15) rfl) ?_
  refine n_iald dX7_isDone_60 rfl lv17 rfl (by first | assumption | omega | (unfold cI; omega)) ?_
  refine r_goto dX7_isDone_61 (tgt := 70) rfl ?_
  refine r_istore_n dX7_isDone_70 (i := 2) rfl (Nat.le_of_ble_eq_true rfl) rfl rfl ?_
  refine r_aload_n dX7_isDone_71 (i := 0) rfl rfl ?_
  refine r_aload_n dX7_isDone_72 (i := 0) rfl rfl ?_
  refine r_getR dX7_isDone_73 f_7_29 rfl rfl rfl lv16 ?_
  refine r_iconst dX7_isDone_76 (v := 0) rfl ?_
  refine n_iald dX7_isDone_77 rfl lv23 (k := 0) rfl (by decide) ?_
  refine r_aload_n dX7_isDone_78 (i := 0) rfl rfl ?_
  refine r_getR dX7_isDone_79 f_7_29 rfl rfl rfl lv16 ?_
  refine r_iconst dX7_isDone_82 (v := 1) rfl ?_
  refine n_iald dX7_isDone_83 rfl lv23 (k := 1) rfl (by decide) ?_
  refine r_aload_n dX7_isDone_84 (i := 0) rfl rfl ?_
  refine r_getR dX7_isDone_85 f_7_29 rfl rfl rfl lv16 ?_
  refine r_iconst dX7_isDone_88 (v := 2) rfl ?_
  refine n_iald dX7_isDone_89 rfl lv23 (k := 2) rfl (by decide) ?_
  refine r_iload_n dX7_isDone_90 (i := 2) rfl rfl ?_
  refine r_aload_n dX7_isDone_91 (i := 0) rfl rfl ?_
  refine r_getR dX7_isDone_92 f_7_29 rfl rfl rfl lv16 ?_
  refine r_iconst dX7_isDone_95 (v := 4) rfl ?_
  refine n_iald dX7_isDone_96 rfl lv23 (k := 4) rfl (by decide) ?_
  rw [h0, h2]
  refine sX7_isDone_97 (Nat.le_refl _) (Nat.le_refl _) rfl lv16 (Nat.le_of_ble_eq_true rfl) (D) ?_
  refine r_if_lt dX7_isDone_100 (tgt := 107) rfl (fun h100 => ?_) (fun h100 => ?_)
  · refine r_iconst dX7_isDone_107 (v := 0) rfl ?_
    exact e_i dX7_isDone_108 rfl (by first | rfl | exact bi_nar _) (by first | (simp [bi, *]; done) | (simp_all [bi])) rfl
  · refine r_iconst dX7_isDone_103 (v := 1) rfl ?_
    refine r_goto dX7_isDone_104 (tgt := 108) rfl ?_
    exact e_i dX7_isDone_108 rfl (by first | rfl | exact bi_nar _) (by first | (simp [bi, *]; done) | (simp_all [bi])) rfl
/-- an order done in both -/
def OKo (g : Gh) (hp : HPt) (sr : Nat → Int32) (o : Nat → Int32) : Prop := ∃ r hA s2 n, Ci g mX6_answerOfOrder [vR (15, 0, 0, 0)] hp r hA ∧ WT hA ∧ offS hp hA ∧ Rep hA 0 s2 n ∧ ∀ hB : HPt, hB (17, 0, 0, 0) = sr → (∀ k, k < 5 → hB (23, 0, 0, 0) k = o k) → ∃ hD, Ci g mX7_isDone [vR (16, 0, 0, 0)] hB (bi (!decide (r < 0))) hD ∧ offR hB hD ∧ hD (17, 0, 0, 0) = s2
theorem OKo.mk {M5 M7 : Md} {ac ar : List Vv} {o : Nat → Int32} (h : OK g M5 M7 ac ar hp sr) (tc : ∀ r hA, Ci g M5 ac hp r hA → Ci g mX6_answerOfOrder [vR (15, 0, 0, 0)] hp r hA) (tr : ∀ hB r hD, hB (17, 0, 0, 0) = sr → (∀ k, k < 5 → hB (23, 0, 0, 0) k = o k) → Ci g M7 ar hB r hD → Ci g mX7_isDone [vR (16, 0, 0, 0)] hB (bi (!decide (r < 0))) hD) : OKo g hp sr o := by
  obtain ⟨r, hA, s2, n, hC, hW, hS, hR, hB⟩ := h.new
  refine ⟨r, hA, s2, n, tc r hA hC, hW, hS, hR, fun hB1 e e23 => ?_⟩
  obtain ⟨hD, D, ho, h17⟩ := hB hB1 e
  exact ⟨hD, tr hB1 r hD e e23 D, ho, h17⟩
end ORD
section AO
variable {g : Gh} {hp hA : HPt} {n : Nat} {r : Int32} {o : Nat → Int32}
theorem ao_k (h2 : hp (14, 0, 0, 0) 2 = 107) (C : Ci g mX5_adm [vR (0, 0, 0, 0), vI (hp (14, 0, 0, 0) 5)] hp r hA) : Ci g mX6_answerOfOrder [vR (15, 0, 0, 0)] hp r hA := by
  unfold Ci
  refine r_aload_n dX6_answerOfOrder_0 (i := 0) rfl rfl ?_
  refine r_getR dX6_answerOfOrder_1 f_6_43 rfl rfl rfl lv15 ?_
  refine r_getI dX6_answerOfOrder_4 f_6_163 rfl rfl lv14 ?_
  rw [h2]
  refine r_tabIn dX6_answerOfOrder_7 (off := 113) (tgt := 120) (by decide) (by decide) (by decide) rfl ?_
  refine r_aload_n dX6_answerOfOrder_120 (i := 0) rfl rfl ?_
  refine r_getR dX6_answerOfOrder_121 f_6_12 rfl rfl rfl lv15 ?_
  refine r_aload_n dX6_answerOfOrder_124 (i := 0) rfl rfl ?_
  refine r_getR dX6_answerOfOrder_125 f_6_43 rfl rfl rfl lv15 ?_
  refine r_getI dX6_answerOfOrder_128 f_6_167 rfl rfl lv14 ?_
  refine sX6_answerOfOrder_131 (Nat.le_refl _) (Nat.le_refl _) rfl (lv0 (by first | assumption | decide | omega)) (Nat.le_of_ble_eq_true rfl) (C) ?_
  exact e_i dX6_answerOfOrder_134 rfl (by first | rfl | exact bi_nar _) (by first | rfl | simp [bi, *]) rfl
theorem ao_r (h2 : hp (14, 0, 0, 0) 2 = 114) (C : Ci g mX5_renew [vR (0, 0, 0, 0), vI (hp (14, 0, 0, 0) 4)] hp r hA) : Ci g mX6_answerOfOrder [vR (15, 0, 0, 0)] hp r hA := by
  unfold Ci
  refine r_aload_n dX6_answerOfOrder_0 (i := 0) rfl rfl ?_
  refine r_getR dX6_answerOfOrder_1 f_6_43 rfl rfl rfl lv15 ?_
  refine r_getI dX6_answerOfOrder_4 f_6_163 rfl rfl lv14 ?_
  rw [h2]
  refine r_tabIn dX6_answerOfOrder_7 (off := 128) (tgt := 135) (by decide) (by decide) (by decide) rfl ?_
  refine r_aload_n dX6_answerOfOrder_135 (i := 0) rfl rfl ?_
  refine r_getR dX6_answerOfOrder_136 f_6_12 rfl rfl rfl lv15 ?_
  refine r_aload_n dX6_answerOfOrder_139 (i := 0) rfl rfl ?_
  refine r_getR dX6_answerOfOrder_140 f_6_43 rfl rfl rfl lv15 ?_
  refine r_getI dX6_answerOfOrder_143 f_6_170 rfl rfl lv14 ?_
  refine sX6_answerOfOrder_146 (Nat.le_refl _) (Nat.le_refl _) rfl (lv0 (by first | assumption | decide | omega)) (Nat.le_of_ble_eq_true rfl) (C) ?_
  exact e_i dX6_answerOfOrder_149 rfl (by first | rfl | exact bi_nar _) (by first | rfl | simp [bi, *]) rfl
theorem ao_u (h2 : hp (14, 0, 0, 0) 2 = 117) (C : Ci g mX5_burnOldVersions [vR (0, 0, 0, 0), vI (hp (14, 0, 0, 0) 4)] hp r hA) : Ci g mX6_answerOfOrder [vR (15, 0, 0, 0)] hp r hA := by
  unfold Ci
  refine r_aload_n dX6_answerOfOrder_0 (i := 0) rfl rfl ?_
  refine r_getR dX6_answerOfOrder_1 f_6_43 rfl rfl rfl lv15 ?_
  refine r_getI dX6_answerOfOrder_4 f_6_163 rfl rfl lv14 ?_
  rw [h2]
  refine r_tabIn dX6_answerOfOrder_7 (off := 143) (tgt := 150) (by decide) (by decide) (by decide) rfl ?_
  refine r_aload_n dX6_answerOfOrder_150 (i := 0) rfl rfl ?_
  refine r_getR dX6_answerOfOrder_151 f_6_12 rfl rfl rfl lv15 ?_
  refine r_aload_n dX6_answerOfOrder_154 (i := 0) rfl rfl ?_
  refine r_getR dX6_answerOfOrder_155 f_6_43 rfl rfl rfl lv15 ?_
  refine r_getI dX6_answerOfOrder_158 f_6_170 rfl rfl lv14 ?_
  refine sX6_answerOfOrder_161 (Nat.le_refl _) (Nat.le_refl _) rfl (lv0 (by first | assumption | decide | omega)) (Nat.le_of_ble_eq_true rfl) (C) ?_
  exact e_i dX6_answerOfOrder_164 rfl (by first | rfl | exact bi_nar _) (by first | rfl | simp [bi, *]) rfl
theorem ao_m (h2 : hp (14, 0, 0, 0) 2 = 109) (C : Ci g mX5_mergeParts [vR (0, 0, 0, 0), vI (hp (14, 0, 0, 0) 4)] hp r hA) : Ci g mX6_answerOfOrder [vR (15, 0, 0, 0)] hp r hA := by
  unfold Ci
  refine r_aload_n dX6_answerOfOrder_0 (i := 0) rfl rfl ?_
  refine r_getR dX6_answerOfOrder_1 f_6_43 rfl rfl rfl lv15 ?_
  refine r_getI dX6_answerOfOrder_4 f_6_163 rfl rfl lv14 ?_
  rw [h2]
  refine r_tabIn dX6_answerOfOrder_7 (off := 158) (tgt := 165) (by decide) (by decide) (by decide) rfl ?_
  refine r_aload_n dX6_answerOfOrder_165 (i := 0) rfl rfl ?_
  refine r_getR dX6_answerOfOrder_166 f_6_12 rfl rfl rfl lv15 ?_
  refine r_aload_n dX6_answerOfOrder_169 (i := 0) rfl rfl ?_
  refine r_getR dX6_answerOfOrder_170 f_6_43 rfl rfl rfl lv15 ?_
  refine r_getI dX6_answerOfOrder_173 f_6_170 rfl rfl lv14 ?_
  refine sX6_answerOfOrder_176 (Nat.le_refl _) (Nat.le_refl _) rfl (lv0 (by first | assumption | decide | omega)) (Nat.le_of_ble_eq_true rfl) (C) ?_
  exact e_i dX6_answerOfOrder_179 rfl (by first | rfl | exact bi_nar _) (by first | rfl | simp [bi, *]) rfl
theorem ao_z (h2 : hp (14, 0, 0, 0) 2 = 122) (C : Ci g mX5_turnSleep [vR (0, 0, 0, 0), vI (hp (14, 0, 0, 0) 3)] hp r hA) : Ci g mX6_answerOfOrder [vR (15, 0, 0, 0)] hp r hA := by
  unfold Ci
  refine r_aload_n dX6_answerOfOrder_0 (i := 0) rfl rfl ?_
  refine r_getR dX6_answerOfOrder_1 f_6_43 rfl rfl rfl lv15 ?_
  refine r_getI dX6_answerOfOrder_4 f_6_163 rfl rfl lv14 ?_
  rw [h2]
  refine r_tabIn dX6_answerOfOrder_7 (off := 173) (tgt := 180) (by decide) (by decide) (by decide) rfl ?_
  refine r_aload_n dX6_answerOfOrder_180 (i := 0) rfl rfl ?_
  refine r_getR dX6_answerOfOrder_181 f_6_12 rfl rfl rfl lv15 ?_
  refine r_aload_n dX6_answerOfOrder_184 (i := 0) rfl rfl ?_
  refine r_getR dX6_answerOfOrder_185 f_6_43 rfl rfl rfl lv15 ?_
  refine r_getI dX6_answerOfOrder_188 f_6_173 rfl rfl lv14 ?_
  refine sX6_answerOfOrder_191 (Nat.le_refl _) (Nat.le_refl _) rfl (lv0 (by first | assumption | decide | omega)) (Nat.le_of_ble_eq_true rfl) (C) ?_
  exact e_i dX6_answerOfOrder_194 rfl (by first | rfl | exact bi_nar _) (by first | rfl | simp [bi, *]) rfl
theorem ao_b (h2 : hp (14, 0, 0, 0) 2 = 98) (C : Ci g mX5_passBeats [vR (0, 0, 0, 0), vI (hp (14, 0, 0, 0) 5)] hp r hA) : Ci g mX6_answerOfOrder [vR (15, 0, 0, 0)] hp r hA := by
  unfold Ci
  refine r_aload_n dX6_answerOfOrder_0 (i := 0) rfl rfl ?_
  refine r_getR dX6_answerOfOrder_1 f_6_43 rfl rfl rfl lv15 ?_
  refine r_getI dX6_answerOfOrder_4 f_6_163 rfl rfl lv14 ?_
  rw [h2]
  refine r_tabIn dX6_answerOfOrder_7 (off := 250) (tgt := 257) (by decide) (by decide) (by decide) rfl ?_
  refine r_aload_n dX6_answerOfOrder_257 (i := 0) rfl rfl ?_
  refine r_getR dX6_answerOfOrder_258 f_6_12 rfl rfl rfl lv15 ?_
  refine r_aload_n dX6_answerOfOrder_261 (i := 0) rfl rfl ?_
  refine r_getR dX6_answerOfOrder_262 f_6_43 rfl rfl rfl lv15 ?_
  refine r_getI dX6_answerOfOrder_265 f_6_167 rfl rfl lv14 ?_
  refine sX6_answerOfOrder_268 (Nat.le_refl _) (Nat.le_refl _) rfl (lv0 (by first | assumption | decide | omega)) (Nat.le_of_ble_eq_true rfl) (C) ?_
  exact e_i dX6_answerOfOrder_271 rfl (by first | rfl | exact bi_nar _) (by first | rfl | simp [bi, *]) rfl
theorem ao_l (h2 : hp (14, 0, 0, 0) 2 = 108) (C : Ci g mX5_takeUpLie [vR (0, 0, 0, 0), vI (hp (14, 0, 0, 0) 3), vI (hp (14, 0, 0, 0) 4), vI (hp (14, 0, 0, 0) 5), vI (hp (14, 0, 0, 0) 6)] hp r hA) : Ci g mX6_answerOfOrder [vR (15, 0, 0, 0)] hp r hA := by
  unfold Ci
  refine r_aload_n dX6_answerOfOrder_0 (i := 0) rfl rfl ?_
  refine r_getR dX6_answerOfOrder_1 f_6_43 rfl rfl rfl lv15 ?_
  refine r_getI dX6_answerOfOrder_4 f_6_163 rfl rfl lv14 ?_
  rw [h2]
  refine r_tabIn dX6_answerOfOrder_7 (off := 188) (tgt := 195) (by decide) (by decide) (by decide) rfl ?_
  refine r_aload_n dX6_answerOfOrder_195 (i := 0) rfl rfl ?_
  refine r_getR dX6_answerOfOrder_196 f_6_12 rfl rfl rfl lv15 ?_
  refine r_aload_n dX6_answerOfOrder_199 (i := 0) rfl rfl ?_
  refine r_getR dX6_answerOfOrder_200 f_6_43 rfl rfl rfl lv15 ?_
  refine r_getI dX6_answerOfOrder_203 f_6_173 rfl rfl lv14 ?_
  refine r_aload_n dX6_answerOfOrder_206 (i := 0) rfl rfl ?_
  refine r_getR dX6_answerOfOrder_207 f_6_43 rfl rfl rfl lv15 ?_
  refine r_getI dX6_answerOfOrder_210 f_6_170 rfl rfl lv14 ?_
  refine r_aload_n dX6_answerOfOrder_213 (i := 0) rfl rfl ?_
  refine r_getR dX6_answerOfOrder_214 f_6_43 rfl rfl rfl lv15 ?_
  refine r_getI dX6_answerOfOrder_217 f_6_167 rfl rfl lv14 ?_
  refine r_aload_n dX6_answerOfOrder_220 (i := 0) rfl rfl ?_
  refine r_getR dX6_answerOfOrder_221 f_6_43 rfl rfl rfl lv15 ?_
  refine r_getI dX6_answerOfOrder_224 f_6_176 rfl rfl lv14 ?_
  refine sX6_answerOfOrder_227 (Nat.le_refl _) (Nat.le_refl _) rfl (lv0 (by first | assumption | decide | omega)) (Nat.le_of_ble_eq_true rfl) (C) ?_
  exact e_i dX6_answerOfOrder_230 rfl (by first | rfl | exact bi_nar _) (by first | rfl | simp [bi, *]) rfl
theorem ao_t {ve : Int32} (h2 : hp (14, 0, 0, 0) 2 = 116) (E : Ci g mX6_versionOfOrder [vR (15, 0, 0, 0)] hp ve hp) (C : Ci g mX5_givePartToThief [vR (0, 0, 0, 0), vI (hp (14, 0, 0, 0) 3), vI (hp (14, 0, 0, 0) 4), vI ve] hp r hA) : Ci g mX6_answerOfOrder [vR (15, 0, 0, 0)] hp r hA := by
  unfold Ci
  refine r_aload_n dX6_answerOfOrder_0 (i := 0) rfl rfl ?_
  refine r_getR dX6_answerOfOrder_1 f_6_43 rfl rfl rfl lv15 ?_
  refine r_getI dX6_answerOfOrder_4 f_6_163 rfl rfl lv14 ?_
  rw [h2]
  refine r_tabIn dX6_answerOfOrder_7 (off := 224) (tgt := 231) (by decide) (by decide) (by decide) rfl ?_
  refine r_aload_n dX6_answerOfOrder_231 (i := 0) rfl rfl ?_
  refine r_getR dX6_answerOfOrder_232 f_6_12 rfl rfl rfl lv15 ?_
  refine r_aload_n dX6_answerOfOrder_235 (i := 0) rfl rfl ?_
  refine r_getR dX6_answerOfOrder_236 f_6_43 rfl rfl rfl lv15 ?_
  refine r_getI dX6_answerOfOrder_239 f_6_173 rfl rfl lv14 ?_
  refine r_aload_n dX6_answerOfOrder_242 (i := 0) rfl rfl ?_
  refine r_getR dX6_answerOfOrder_243 f_6_43 rfl rfl rfl lv15 ?_
  refine r_getI dX6_answerOfOrder_246 f_6_170 rfl rfl lv14 ?_
  refine r_aload_n dX6_answerOfOrder_249 (i := 0) rfl rfl ?_
  refine sX6_answerOfOrder_250 (Nat.le_refl _) (Nat.le_refl _) rfl lv15 (Nat.le_of_ble_eq_true rfl) (E) ?_
  refine sX6_answerOfOrder_253 (Nat.le_refl _) (Nat.le_refl _) rfl (lv0 (by first | assumption | decide | omega)) (Nat.le_of_ble_eq_true rfl) (C) ?_
  exact e_i dX6_answerOfOrder_256 rfl (by first | rfl | exact bi_nar _) (by first | rfl | simp [bi, *]) rfl
theorem vo_n (h5 : ¬ hp (14, 0, 0, 0) 5 = -1) : Ci g mX6_versionOfOrder [vR (15, 0, 0, 0)] hp (hp (14, 0, 0, 0) 5) hp := by
  unfold Ci
  refine r_aload_n dX6_versionOfOrder_0 (i := 0) rfl rfl ?_
  refine r_getR dX6_versionOfOrder_1 f_6_43 rfl rfl rfl lv15 ?_
  refine r_getI dX6_versionOfOrder_4 f_6_167 rfl rfl lv14 ?_
  refine r_iconst dX6_versionOfOrder_7 (v := (-1)) rfl ?_
  refine r_icmp_ne dX6_versionOfOrder_8 (tgt := 28) rfl (fun _ => ?_) (fun h8 => absurd h8 (h5))
  refine r_aload_n dX6_versionOfOrder_28 (i := 0) rfl rfl ?_
  refine r_getR dX6_versionOfOrder_29 f_6_43 rfl rfl rfl lv15 ?_
  refine r_getI dX6_versionOfOrder_32 f_6_167 rfl rfl lv14 ?_
  exact e_i dX6_versionOfOrder_35 rfl (by first | rfl | exact bi_nar _) (by first | rfl | simp [bi, *]) rfl
theorem vo_y {ve : Int32} (h5 : hp (14, 0, 0, 0) 5 = -1) (C : Ci g mX5_versionNow [vR (0, 0, 0, 0), vI (hp (14, 0, 0, 0) 4)] hp ve hp) : Ci g mX6_versionOfOrder [vR (15, 0, 0, 0)] hp ve hp := by
  unfold Ci
  refine r_aload_n dX6_versionOfOrder_0 (i := 0) rfl rfl ?_
  refine r_getR dX6_versionOfOrder_1 f_6_43 rfl rfl rfl lv15 ?_
  refine r_getI dX6_versionOfOrder_4 f_6_167 rfl rfl lv14 ?_
  refine r_iconst dX6_versionOfOrder_7 (v := (-1)) rfl ?_
  refine r_icmp_ne dX6_versionOfOrder_8 (tgt := 28) rfl (fun h8 => absurd (h5) h8) (fun _ => ?_)
  refine r_aload_n dX6_versionOfOrder_11 (i := 0) rfl rfl ?_
  refine r_getR dX6_versionOfOrder_12 f_6_12 rfl rfl rfl lv15 ?_
  refine r_aload_n dX6_versionOfOrder_15 (i := 0) rfl rfl ?_
  refine r_getR dX6_versionOfOrder_16 f_6_43 rfl rfl rfl lv15 ?_
  refine r_getI dX6_versionOfOrder_19 f_6_170 rfl rfl lv14 ?_
  refine sX6_versionOfOrder_22 (Nat.le_refl _) (Nat.le_refl _) rfl (lv0 (by first | assumption | decide | omega)) (Nat.le_of_ble_eq_true rfl) (C) ?_
  refine r_goto dX6_versionOfOrder_25 (tgt := 35) rfl ?_
  exact e_i dX6_versionOfOrder_35 rfl (by first | rfl | exact bi_nar _) (by first | rfl | simp [bi, *]) rfl
theorem OKo_all {a : Int32 × Int32 × Int32 × Int32} (hR : Rep hp 0 sr n) (hW : WT hp) (hL : o 0 = 107 ∨ o 0 = 98 ∨ o 0 = 114 ∨ o 0 = 117 ∨ o 0 = 109 ∨ o 0 = 122 ∨ o 0 = 108 ∨ o 0 = 116) (h2 : hp (14, 0, 0, 0) 2 = o 0) (hF : FLD (hp (14, 0, 0, 0)) (o 0) a) (o1 : o 1 = a.1) (o2 : o 2 = a.2.1) (o3 : o 3 = a.2.2.1) (o4 : o 4 = a.2.2.2) (hv : o 0 = 116 → ¬ a.2.2.1 = -1) : OKo g hp sr o := by
  obtain ⟨F1, F2, F3, F4, F5⟩ := hF
  rcases hL with h | h | h | h | h | h | h | h
  · rw [h] at h2
    exact OKo.mk (OK_keep (x := a.1) hR hW) (fun r hA C => ao_k h2 (by rw [F1 (Or.inl h)]; exact C)) (fun hB r hD e e23 D => isD_x (L := 107) (by rw [e23 0 (by decide), h]) (by decide) (tX7_does_k (by rw [e23 1 (by decide), o1]; exact D)))
  · rw [h] at h2
    exact OKo.mk (OK_pass (x := a.1) hR hW) (fun r hA C => ao_b h2 (by rw [F1 (Or.inr h)]; exact C)) (fun hB r hD e e23 D => isD_x (L := 98) (by rw [e23 0 (by decide), h]) (by decide) (tX7_does_b (by rw [e23 1 (by decide), o1]; exact D)))
  · rw [h] at h2
    exact OKo.mk (OK_refresh (x := a.1) hR hW) (fun r hA C => ao_r h2 (by rw [F2 (Or.inl h)]; exact C)) (fun hB r hD e e23 D => isD_x (L := 114) (by rw [e23 0 (by decide), h]) (by decide) (tX7_does_r (by rw [e23 1 (by decide), o1]; exact D)))
  · rw [h] at h2
    exact OKo.mk (OK_burn (x := a.1) hR hW) (fun r hA C => ao_u h2 (by rw [F2 (Or.inr (Or.inl h))]; exact C)) (fun hB r hD e e23 D => isD_x (L := 117) (by rw [e23 0 (by decide), h]) (by decide) (tX7_does_u (by rw [e23 1 (by decide), o1]; exact D)))
  · rw [h] at h2
    exact OKo.mk (OK_merge (x := a.1) hR hW) (fun r hA C => ao_m h2 (by rw [F2 (Or.inr (Or.inr h))]; exact C)) (fun hB r hD e e23 D => isD_x (L := 109) (by rw [e23 0 (by decide), h]) (by decide) (tX7_does_m (by rw [e23 1 (by decide), o1]; exact D)))
  · rw [h] at h2
    exact OKo.mk (OK_sleep (x := a.1) hR hW) (fun r hA C => ao_z h2 (by rw [F3 h]; exact C)) (fun hB r hD e e23 D => isD_x (L := 122) (by rw [e23 0 (by decide), h]) (by decide) (tX7_does_z (by rw [e23 1 (by decide), o1]; exact D)))
  · rw [h] at h2
    obtain ⟨f3, f4, f5, f6⟩ := F4 h
    exact OKo.mk (OK_lie (x := a.1) (y := a.2.1) (z := a.2.2.1) (w := a.2.2.2) hR hW) (fun r hA C => ao_l h2 (by rw [f3, f4, f5, f6]; exact C)) (fun hB r hD e e23 D => isD_x (L := 108) (by rw [e23 0 (by decide), h]) (by decide) (tX7_does_l (by rw [e23 1 (by decide), e23 2 (by decide), e23 3 (by decide), e23 4 (by decide), o1, o2, o3, o4]; exact D)))
  · rw [h] at h2
    obtain ⟨f3, f4, f5⟩ := F5 h
    have hv1 := hv h
    have hG := hR.1
    by_cases h6 : a.2.2.1 = -6
    · rw [if_pos h6] at f5
      cases hh : fHas hp 0 a.2.1
      · have hx : fHalf hp 0 a.1 a.2.1 = false := by
          unfold fHalf
          rw [hh, Bool.and_false]
        have C := tX5_givePartToThief_e (g := g) (t := 0) (s := a.1) (x := a.2.1) (v := -1) (hp := hp) (by decide) hx
        refine ⟨-1, hp, sr, n, ao_t h2 (vo_y f5 (tX5_versionNow_e (by decide) (by rw [f4]; exact hh))) (by rw [f3, f4]; exact C), hW, offS.rfl', hR, fun hB e e23 => ⟨hB, ?_, offR.rfl', e⟩⟩
        exact isD_t2 (r := -1) (by rw [e23 0 (by decide), h]) (by rw [e23 3 (by decide), o3, h6]) (by rw [e23 2 (by decide), o2, has_eq hG e]; exact hh) (tX7_does_t (tX7_steals_e (by rw [e23 1 (by decide), e23 2 (by decide), o1, o2, half_eq hG e]; exact hx)))
      · obtain ⟨j, hj, ej⟩ := has_of hG hh
        have hn8 := hG.1
        rw [ej] at hh
        obtain ⟨m, ve, hS⟩ := hR.2.1 j hj
        refine OKo.mk (OK_steal (x := a.1) (y := nI j) (z := nI ve) hR hW) (fun r hA C => ao_t h2 (vo_y f5 (by rw [f4, ej]; exact (tX5_versionNow (by decide) (by omega) hh).eq hS.2.2.1 rfl)) (by rw [f3, f4, ej]; exact C)) (fun hB r hD e e23 D => ?_)
        have q2 : hB (23, 0, 0, 0) 2 = nI j := by rw [e23 2 (by decide), o2, ej]
        have q15 : hB (17, 0, 0, 0) (cI j 15) = nI ve := by rw [e]; exact ver0 hS
        refine isD_t1 (j := j) (by rw [e23 0 (by decide), h]) (by rw [e23 3 (by decide), o3, h6]) q2 (by omega) (by rw [has_eq hG e]; exact hh) (tX7_does_t ?_)
        rw [q15, e23 1 (by decide), o1]
        exact D
    · rw [if_neg h6] at f5
      exact OKo.mk (OK_steal (x := a.1) (y := a.2.1) (z := a.2.2.1) hR hW) (fun r hA C => ao_t h2 (vo_n (by rw [f5]; exact hv1)) (by rw [f3, f4, f5]; exact C)) (fun hB r hD e e23 D => isD_t3 (by rw [e23 0 (by decide), h]) (by rw [e23 3 (by decide), o3]; exact h6) (tX7_does_t (by rw [e23 1 (by decide), e23 2 (by decide), e23 3 (by decide), o1, o2, o3]; exact D)))
end AO
