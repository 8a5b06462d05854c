theorem nt_cop : ∀ f, f < 257 → 1 ≤ f → Nat.gcd 257 f = 1 := by decide +kernel
theorem nt_lt {f x y s : Nat} (h1 : 1 ≤ f) (h2 : f < 257) (hxy : x < y) (hy : y < 257) : ¬ (f * y + s) % 257 = (f * x + s) % 257 := by
  intro h
  have e := Nat.sub_mod_eq_zero_of_mod_eq h
  rw [Nat.add_sub_add_right, ← Nat.mul_sub] at e
  have d := Nat.dvd_of_mod_eq_zero e
  have d2 := Nat.Coprime.dvd_of_dvd_mul_left (nt_cop f h2 h1) d
  have := Nat.le_of_dvd (by omega) d2
  omega
theorem nt_ne {f x y s : Nat} (h1 : 1 ≤ f) (h2 : f < 257) (hxy : x ≠ y) (hx : x < 257) (hy : y < 257) : ¬ (f * x + s) % 257 = (f * y + s) % 257 := by
  by_cases h : x < y
  · exact fun q => nt_lt h1 h2 h hy q.symm
  · exact nt_lt h1 h2 (by omega) hx
section STO
variable {g : Gh} {hp : HPt} {n j b E : Nat}
theorem pas_0 (h : GO hp n E) (hj : j < n) (hb : b < 2) : fPass hp 0 j b (nI 0) = 0 := by
  obtain ⟨f, p, s, f1, f2, hp1, s1, e, -⟩ := pas_v (o := 0) h hj hb (by decide)
  rw [e, show (p + 0) % 256 = p from Nat.mod_eq_of_lt hp1]
  have h1 := Nat.mod_lt (f * p + s) (show 257 > 0 by decide)
  rw [show (f * p + s) % 257 + 257 - (f * p + s) % 257 = 257 by omega]
  rfl
theorem pas_ne {o : Nat} (h : GO hp n E) (hj : j < n) (hb : b < 2) (h1 : 1 ≤ o) (ho : o < 256) : ¬ fPass hp 0 j b (nI o) = 0 := by
  obtain ⟨f, p, s, f1, f2, hp1, s1, e, -⟩ := pas_v (o := o) h hj hb ho
  have q := nt_ne (s := s) f1 f2 (x := (p + o) % 256) (y := p) (by omega) (by omega) (by omega)
  have l1 := Nat.mod_lt (f * ((p + o) % 256) + s) (show 257 > 0 by decide)
  have l2 := Nat.mod_lt (f * p + s) (show 257 > 0 by decide)
  have l3 := Nat.mod_lt ((f * ((p + o) % 256) + s) % 257 + 257 - (f * p + s) % 257) (show 257 > 0 by decide)
  rw [e]
  refine nI_ne0 ?_ (by omega)
  omega
theorem nPass_0 (h : GO hp n E) (hj : j < n) (hb : b < 2) : ∀ r, r < 256 → nPass hp 0 j b 0 r = 0
  | 0, _ => rfl
  | r + 1, hr => by
    unfold nPass
    rw [nPass_0 h hj hb r (by omega), if_neg (pas_ne h hj hb (by omega) hr)]
theorem c_of {k : Nat} (h : GO hp n E) (hj : j < n) (hb : b < 2) (hk : k < 8) : Ci g mX6_of [vR (15, 0, 0, 0), vI (nI b), vI (nI j), vI (nI k)] hp (figH hp 0 j b k) hp :=
  tX6_of (tX5_figureOfHalf (by decide) (by have := h.kept.2; omega) hb (h.half hj hb) hk)
theorem c_pss (h : GO hp n E) (hj : j < n) (hb : b < 2) : Ci g mX6_passes [vR (15, 0, 0, 0), vI (nI b), vI (nI j), vI 0] hp 0 hp :=
  (tX6_passes (tX5_offsetsThatPass (by decide) (by have := h.kept.2; omega) hb (h.half hj hb) (by decide))).eq (by rw [nPass_0 h hj hb 255 (by decide)]; rfl) rfl
theorem tL_isStore (h : GO hp n E) (hj : j < n) (hb : b < 2) : Ci g mL_isStore [vR (15, 0, 0, 0), vI (nI b), vI (nI j)] hp 1 hp := by
  have hb2 : 1 - b < 2 := by omega
  have e1 : (1 : Int32) - nI b = nI (1 - b) := pk_sub (a := 1) (by omega)
  have hv : ∃ f p s, 1 ≤ f ∧ f < 257 ∧ p < 256 ∧ s < 257 ∧ figH hp 0 j b 0 = nI p ∧ figH hp 0 j (1 - b) 2 = nI f ∧ figH hp 0 j (1 - b) 3 = nI s ∧ figH hp 0 j b 1 = nI ((f * p + s) % 257) := by
    obtain ⟨m, v, c, hG, hS, -⟩ := h
    obtain ⟨-, -, a4, a5, -⟩ := hS j hj
    obtain ⟨f, s, f1, f2, s1, q1, q2, q3⟩ := a5 b hb
    have hp0 : ∃ p, p < 256 ∧ hp (6, 0, j, b) 0 = nI p := by
      obtain ⟨p, q, hp1, hq1, c0, c1, -⟩ := a4 0 (Nat.zero_le _)
      match b, hb with
      | 0, _ => exact ⟨p, hp1, c0⟩
      | 1, _ => exact ⟨q, hq1, c1⟩
    obtain ⟨p, hp1, ep⟩ := hp0
    refine ⟨f, p, s, f1, f2, hp1, s1, ep, q1, q2, ?_⟩
    show hp (5, 0, j, b) 2 = _
    rw [q3, ep, pk_mul, nI_add]
    have : f * p ≤ 257 * 256 := Nat.mul_le_mul (by omega) (by omega)
    exact rem7 (by omega)
  obtain ⟨f, p, s, f1, f2, hp1, s1, vP, vF, vS, vT⟩ := hv
  have hm : f * p + s < 2 ^ 31 := by
    have : f * p ≤ 257 * 256 := Nat.mul_le_mul (by omega) (by omega)
    omega
  unfold Ci
  refine r_aload_n dL_isStore_0 (i := 0) rfl rfl ?_
  refine r_iload_n dL_isStore_1 (i := 1) rfl rfl ?_
  refine r_iload_n dL_isStore_2 (i := 2) rfl rfl ?_
  refine r_iconst dL_isStore_3 (v := 0) rfl ?_
  refine sL_isStore_4 (Nat.le_refl _) (Nat.le_refl _) rfl lv15 (Nat.le_of_ble_eq_true rfl) ((c_of (k := 0) h hj hb (by decide)).eq vP rfl) ?_
  refine r_istore_n dL_isStore_7 (i := 3) rfl (Nat.le_of_ble_eq_true rfl) rfl rfl ?_
  refine r_aload_n dL_isStore_8 (i := 0) rfl rfl ?_
  refine r_iconst dL_isStore_9 (v := 1) rfl ?_
  refine r_iload_n dL_isStore_10 (i := 1) rfl rfl ?_
  refine r_isub dL_isStore_11 ?_
  refine r_iload_n dL_isStore_12 (i := 2) rfl rfl ?_
  refine r_iconst dL_isStore_13 (v := 2) rfl ?_
  rw [e1]
  refine sL_isStore_14 (Nat.le_refl _) (Nat.le_refl _) rfl lv15 (Nat.le_of_ble_eq_true rfl) ((c_of (k := 2) h hj hb2 (by decide)).eq vF rfl) ?_
  refine r_istore dL_isStore_17 (Nat.le_of_ble_eq_true rfl) rfl rfl ?_
  refine r_aload_n dL_isStore_19 (i := 0) rfl rfl ?_
  refine r_iconst dL_isStore_20 (v := 1) rfl ?_
  refine r_iload_n dL_isStore_21 (i := 1) rfl rfl ?_
  refine r_isub dL_isStore_22 ?_
  refine r_iload_n dL_isStore_23 (i := 2) rfl rfl ?_
  refine r_iconst dL_isStore_24 (v := 3) rfl ?_
  rw [e1]
  refine sL_isStore_25 (Nat.le_refl _) (Nat.le_refl _) rfl lv15 (Nat.le_of_ble_eq_true rfl) ((c_of (k := 3) h hj hb2 (by decide)).eq vS rfl) ?_
  refine r_istore dL_isStore_28 (Nat.le_of_ble_eq_true rfl) rfl rfl ?_
  refine r_iload_n dL_isStore_30 (i := 3) rfl rfl ?_
  refine r_if_lt dL_isStore_31 (tgt := 92) rfl (fun h31 => absurd h31 (nI_pos (by omega))) (fun _ => ?_)
  refine r_iload_n dL_isStore_34 (i := 3) rfl rfl ?_
  refine r_sipush dL_isStore_35 (v := 256) rfl ?_
  refine r_icmp_ge dL_isStore_38 (tgt := 92) rfl (fun h38 => absurd h38 (nI_ge (b := 256) hp1 (by decide))) (fun _ => ?_)
  refine r_iload dL_isStore_41 rfl ?_
  refine r_if_le dL_isStore_43 (tgt := 92) rfl (fun h43 => absurd h43 (nI_nle (by omega) (by omega))) (fun _ => ?_)
  refine r_iload dL_isStore_46 rfl ?_
  refine r_sipush dL_isStore_48 (v := 257) rfl ?_
  refine r_icmp_ge dL_isStore_51 (tgt := 92) rfl (fun h51 => absurd h51 (nI_ge (b := 257) f2 (by decide))) (fun _ => ?_)
  refine r_iload dL_isStore_54 rfl ?_
  refine r_if_lt dL_isStore_56 (tgt := 92) rfl (fun h56 => absurd h56 (nI_pos (by omega))) (fun _ => ?_)
  refine r_iload dL_isStore_59 rfl ?_
  refine r_sipush dL_isStore_61 (v := 257) rfl ?_
  refine r_icmp_ge dL_isStore_64 (tgt := 92) rfl (fun h64 => absurd h64 (nI_ge (b := 257) s1 (by decide))) (fun _ => ?_)
  refine r_aload_n dL_isStore_67 (i := 0) rfl rfl ?_
  refine r_iload_n dL_isStore_68 (i := 1) rfl rfl ?_
  refine r_iload_n dL_isStore_69 (i := 2) rfl rfl ?_
  refine r_iconst dL_isStore_70 (v := 1) rfl ?_
  refine sL_isStore_71 (Nat.le_refl _) (Nat.le_refl _) rfl lv15 (Nat.le_of_ble_eq_true rfl) ((c_of (k := 1) h hj hb (by decide)).eq vT rfl) ?_
  refine r_iload dL_isStore_74 rfl ?_
  refine r_iload_n dL_isStore_76 (i := 3) rfl rfl ?_
  refine r_imul dL_isStore_77 ?_
  refine r_iload dL_isStore_78 rfl ?_
  refine r_iadd dL_isStore_80 ?_
  refine r_sipush dL_isStore_81 (v := 257) rfl ?_
  refine r_irem dL_isStore_84 (by decide) ?_
  refine r_icmp_ne dL_isStore_85 (tgt := 92) rfl (fun h85 => absurd ((by rw [pk_mul, nI_add]; exact (rem7 hm).symm)) h85) (fun _ => ?_)
  refine r_iconst dL_isStore_88 (v := 1) rfl ?_
  refine r_goto dL_isStore_89 (tgt := 93) rfl ?_
  refine r_istore dL_isStore_93 (Nat.le_of_ble_eq_true rfl) rfl rfl ?_
  refine r_iload dL_isStore_95 rfl ?_
  refine r_if_eq dL_isStore_97 (tgt := 158) rfl (fun h97 => absurd h97 ((by decide))) (fun _ => ?_)
  refine r_aload_n dL_isStore_100 (i := 0) rfl rfl ?_
  refine r_iload_n dL_isStore_101 (i := 1) rfl rfl ?_
  refine r_iload_n dL_isStore_102 (i := 2) rfl rfl ?_
  refine r_bipush dL_isStore_103 (v := 6) rfl ?_
  refine sL_isStore_105 (Nat.le_refl _) (Nat.le_refl _) rfl lv15 (Nat.le_of_ble_eq_true rfl) (c_of (k := 6) h hj hb (by decide)) ?_
  refine r_iload_n dL_isStore_108 (i := 3) rfl rfl ?_
  refine r_aload_n dL_isStore_109 (i := 0) rfl rfl ?_
  refine r_iload_n dL_isStore_110 (i := 1) rfl rfl ?_
  refine r_iload_n dL_isStore_111 (i := 2) rfl rfl ?_
  refine r_iconst dL_isStore_112 (v := 4) rfl ?_
  refine sL_isStore_113 (Nat.le_refl _) (Nat.le_refl _) rfl lv15 (Nat.le_of_ble_eq_true rfl) (c_of (k := 4) h hj hb (by decide)) ?_
  refine r_iadd dL_isStore_116 ?_
  refine r_sipush dL_isStore_117 (v := 256) rfl ?_
  refine r_irem dL_isStore_120 (by decide) ?_
  refine r_icmp_ne dL_isStore_121 (tgt := 158) rfl (fun h121 => absurd ((by rw [← vP]; rfl)) h121) (fun _ => ?_)
  refine r_aload_n dL_isStore_124 (i := 0) rfl rfl ?_
  refine r_iload_n dL_isStore_125 (i := 1) rfl rfl ?_
  refine r_iload_n dL_isStore_126 (i := 2) rfl rfl ?_
  refine r_bipush dL_isStore_127 (v := 7) rfl ?_
  refine sL_isStore_129 (Nat.le_refl _) (Nat.le_refl _) rfl lv15 (Nat.le_of_ble_eq_true rfl) (c_of (k := 7) h hj hb (by decide)) ?_
  refine r_aload_n dL_isStore_132 (i := 0) rfl rfl ?_
  refine r_iload_n dL_isStore_133 (i := 1) rfl rfl ?_
  refine r_iload_n dL_isStore_134 (i := 2) rfl rfl ?_
  refine r_iconst dL_isStore_135 (v := 1) rfl ?_
  refine sL_isStore_136 (Nat.le_refl _) (Nat.le_refl _) rfl lv15 (Nat.le_of_ble_eq_true rfl) (c_of (k := 1) h hj hb (by decide)) ?_
  refine r_aload_n dL_isStore_139 (i := 0) rfl rfl ?_
  refine r_iload_n dL_isStore_140 (i := 1) rfl rfl ?_
  refine r_iload_n dL_isStore_141 (i := 2) rfl rfl ?_
  refine r_iconst dL_isStore_142 (v := 5) rfl ?_
  refine sL_isStore_143 (Nat.le_refl _) (Nat.le_refl _) rfl lv15 (Nat.le_of_ble_eq_true rfl) (c_of (k := 5) h hj hb (by decide)) ?_
  refine r_iadd dL_isStore_146 ?_
  refine r_sipush dL_isStore_147 (v := 257) rfl ?_
  refine r_irem dL_isStore_150 (by decide) ?_
  refine r_icmp_ne dL_isStore_151 (tgt := 158) rfl (fun h151 => absurd (rfl) h151) (fun _ => ?_)
  refine r_iconst dL_isStore_154 (v := 1) rfl ?_
  refine r_goto dL_isStore_155 (tgt := 159) rfl ?_
  refine r_istore dL_isStore_159 (Nat.le_of_ble_eq_true rfl) rfl rfl ?_
  refine r_iload dL_isStore_161 rfl ?_
  refine r_if_eq dL_isStore_163 (tgt := 190) rfl (fun h163 => absurd h163 ((by decide))) (fun _ => ?_)
  refine r_aload_n dL_isStore_166 (i := 0) rfl rfl ?_
  refine r_iload_n dL_isStore_167 (i := 1) rfl rfl ?_
  refine r_iload_n dL_isStore_168 (i := 2) rfl rfl ?_
  refine r_iconst dL_isStore_169 (v := 0) rfl ?_
  refine sL_isStore_170 (Nat.le_refl _) (Nat.le_refl _) rfl lv15 (Nat.le_of_ble_eq_true rfl) ((c_pas (x := 0) h hj hb (by decide)).eq (pas_0 h hj hb) rfl) ?_
  refine r_if_ne dL_isStore_173 (tgt := 190) rfl (fun h173 => absurd (rfl) h173) (fun _ => ?_)
  refine r_aload_n dL_isStore_176 (i := 0) rfl rfl ?_
  refine r_iload_n dL_isStore_177 (i := 1) rfl rfl ?_
  refine r_iload_n dL_isStore_178 (i := 2) rfl rfl ?_
  refine r_iconst dL_isStore_179 (v := 0) rfl ?_
  refine sL_isStore_180 (Nat.le_refl _) (Nat.le_refl _) rfl lv15 (Nat.le_of_ble_eq_true rfl) (c_pss h hj hb) ?_
  refine r_if_ne dL_isStore_183 (tgt := 190) rfl (fun h183 => absurd (rfl) h183) (fun _ => ?_)
  refine r_iconst dL_isStore_186 (v := 1) rfl ?_
  refine r_goto dL_isStore_187 (tgt := 191) rfl ?_
  exact e_i dL_isStore_191 rfl (by first | rfl | exact bi_nar _) rfl rfl
theorem tL_isCaught (h : GO hp n E) (hj : j < n) (hb : b < 2) : Ci g mL_isCaught [vR (15, 0, 0, 0), vI (nI b), vI (nI j)] hp (bi (fCatch (hp (5, 0, j, 1 - b) 3) (hp (5, 0, j, 1 - b) 4) (hp (6, 0, j, b) 0) (hp (5, 0, j, b) 5) (hp (5, 0, j, b) 2) (hp (5, 0, j, b) 6))) hp := by
  have hb2 : 1 - b < 2 := by omega
  have e1 : (1 : Int32) - nI b = nI (1 - b) := pk_sub (a := 1) (by omega)
  have e2 : fCatch (hp (5, 0, j, 1 - b) 3) (hp (5, 0, j, 1 - b) 4) (hp (6, 0, j, b) 0) (hp (5, 0, j, b) 5) (hp (5, 0, j, b) 2) (hp (5, 0, j, b) 6) = !decide (jrem (figH hp 0 j (1 - b) 2 * figH hp 0 j b 6 + figH hp 0 j (1 - b) 3) 257 = figH hp 0 j b 7) := rfl
  rw [e2]
  unfold Ci
  refine r_aload_n dL_isCaught_0 (i := 0) rfl rfl ?_
  refine r_iconst dL_isCaught_1 (v := 1) rfl ?_
  refine r_iload_n dL_isCaught_2 (i := 1) rfl rfl ?_
  refine r_isub dL_isCaught_3 ?_
  refine r_iload_n dL_isCaught_4 (i := 2) rfl rfl ?_
  refine r_iconst dL_isCaught_5 (v := 2) rfl ?_
  rw [e1]
  refine sL_isCaught_6 (Nat.le_refl _) (Nat.le_refl _) rfl lv15 (Nat.le_of_ble_eq_true rfl) (c_of (k := 2) h hj hb2 (by decide)) ?_
  refine r_aload_n dL_isCaught_9 (i := 0) rfl rfl ?_
  refine r_iload_n dL_isCaught_10 (i := 1) rfl rfl ?_
  refine r_iload_n dL_isCaught_11 (i := 2) rfl rfl ?_
  refine r_bipush dL_isCaught_12 (v := 6) rfl ?_
  refine sL_isCaught_14 (Nat.le_refl _) (Nat.le_refl _) rfl lv15 (Nat.le_of_ble_eq_true rfl) (c_of (k := 6) h hj hb (by decide)) ?_
  refine r_imul dL_isCaught_17 ?_
  refine r_aload_n dL_isCaught_18 (i := 0) rfl rfl ?_
  refine r_iconst dL_isCaught_19 (v := 1) rfl ?_
  refine r_iload_n dL_isCaught_20 (i := 1) rfl rfl ?_
  refine r_isub dL_isCaught_21 ?_
  refine r_iload_n dL_isCaught_22 (i := 2) rfl rfl ?_
  refine r_iconst dL_isCaught_23 (v := 3) rfl ?_
  rw [e1]
  refine sL_isCaught_24 (Nat.le_refl _) (Nat.le_refl _) rfl lv15 (Nat.le_of_ble_eq_true rfl) (c_of (k := 3) h hj hb2 (by decide)) ?_
  refine r_iadd dL_isCaught_27 ?_
  refine r_sipush dL_isCaught_28 (v := 257) rfl ?_
  refine r_irem dL_isCaught_31 (by decide) ?_
  refine r_aload_n dL_isCaught_32 (i := 0) rfl rfl ?_
  refine r_iload_n dL_isCaught_33 (i := 1) rfl rfl ?_
  refine r_iload_n dL_isCaught_34 (i := 2) rfl rfl ?_
  refine r_bipush dL_isCaught_35 (v := 7) rfl ?_
  refine sL_isCaught_37 (Nat.le_refl _) (Nat.le_refl _) rfl lv15 (Nat.le_of_ble_eq_true rfl) (c_of (k := 7) h hj hb (by decide)) ?_
  refine r_icmp_eq dL_isCaught_40 (tgt := 47) rfl (fun h40 => ?_) (fun h40 => ?_)
  · refine r_iconst dL_isCaught_47 (v := 0) rfl ?_
    exact e_i dL_isCaught_48 rfl (by first | rfl | exact bi_nar _) (by simp [bi, h40]) rfl
  · refine r_iconst dL_isCaught_43 (v := 1) rfl ?_
    refine r_goto dL_isCaught_44 (tgt := 48) rfl ?_
    exact e_i dL_isCaught_48 rfl (by first | rfl | exact bi_nar _) (by simp [bi, h40]) rfl
end STO
