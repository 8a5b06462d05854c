section PUT2
variable {g : Gh} {hp : HPt} {len n : Nat} {x : Int64}
theorem lX7_put0 {P : Pst} (h : V g mX7_put 0 0 0 0 616 8 [some (vR (16, 0, 0, 0)), some (vJ x), none, some (vI (nI (rg x 0).1)), some (vI (bi (rg x 0).2)), some (vI (nI 0)), none, none] [] RP hp P) : V g mX7_put 0 0 0 0 616 0 [some (vR (16, 0, 0, 0)), some (vJ x), none, none, none, none, none, none] [] RP hp P := by
  refine r_iconst dX7_put_0 (v := 0) rfl ?_
  refine r_istore_n dX7_put_1 (i := 3) rfl (Nat.le_of_ble_eq_true rfl) rfl rfl ?_
  refine r_iconst dX7_put_2 (v := 0) rfl ?_
  refine r_istore dX7_put_3 (Nat.le_of_ble_eq_true rfl) rfl rfl ?_
  refine r_iconst dX7_put_5 (v := 0) rfl ?_
  refine r_istore dX7_put_6 (Nat.le_of_ble_eq_true rfl) rfl rfl ?_
  exact h
theorem tX7_put_e (h : (rg x 8).2 = true) : Ci g mX7_put [vR (16, 0, 0, 0), vJ x] hp (-2) hp := by
  unfold Ci
  refine lX7_put0 (lX7_put ?_ 8 0 none none rfl)
  intro L5 L6 L7
  refine r_iload dX7_put_101 rfl ?_
  refine r_if_eq dX7_put_103 (tgt := 109) rfl (fun h103 => absurd h103 ((by rw [h]; decide))) (fun _ => ?_)
  refine r_bipush dX7_put_106 (v := (-2)) rfl ?_
  exact e_i dX7_put_108 rfl (by first | rfl | exact bi_nar _) (by first | rfl | simp [bi, *]) rfl
theorem tX7_put_e2 (h : rg x 8 = (n, false)) (hn8 : n ≤ 8) (hl : len ≤ 80) (hL : hp (16, 0, 0, 0) 6 = nI len) (hb : 80 < len + n) : Ci g mX7_put [vR (16, 0, 0, 0), vJ x] hp (-4) hp := by
  unfold Ci
  refine lX7_put0 (lX7_put ?_ 8 0 none none rfl)
  intro L5 L6 L7
  rw [h]
  refine r_iload dX7_put_101 rfl ?_
  refine r_if_eq dX7_put_103 (tgt := 109) rfl (fun _ => ?_) (fun h103 => absurd (rfl) h103)
  refine r_aload_n dX7_put_109 (i := 0) rfl rfl ?_
  refine r_getI dX7_put_110 f_7_151 rfl rfl lv16 ?_
  refine r_iload_n dX7_put_113 (i := 3) rfl rfl ?_
  refine r_iadd dX7_put_114 ?_
  refine r_bipush dX7_put_115 (v := 80) rfl ?_
  refine r_icmp_le dX7_put_117 (tgt := 123) rfl (fun h117 => absurd h117 ((by rw [hL, nI_add]; exact nI_ge (a := 80) (b := len + n) hb (by omega)))) (fun _ => ?_)
  refine r_bipush dX7_put_120 (v := (-4)) rfl ?_
  exact e_i dX7_put_122 rfl (by first | rfl | exact bi_nar _) (by first | rfl | simp [bi, *]) rfl
theorem tX7_put (h : rg x 8 = (n, false)) (hn8 : n ≤ 8) (hL : hp (16, 0, 0, 0) 6 = nI len) (hb : len + n ≤ 80) : Ci g mX7_put [vR (16, 0, 0, 0), vJ x] hp (nI (len + n)) (hset (wrt hp (21, 0, 0, 0) len n x n) (16, 0, 0, 0) 6 (nI (len + n))) := by
  have eL : ∀ i, wrt hp (21, 0, 0, 0) len n x i (16, 0, 0, 0) 6 = nI len := fun i => by rw [wrt_a (by decide)]; exact hL
  have key : ∀ k i L6 L7, i + k = n → V g mX7_put 0 0 0 0 616 126 [some (vR (16, 0, 0, 0)), some (vJ x), none, some (vI (nI n)), some (vI (bi false)), some (vI (nI i)), L6, L7] [] RP (wrt hp (21, 0, 0, 0) len n x i) (Pi (nI (len + n)) (hset (wrt hp (21, 0, 0, 0) len n x n) (16, 0, 0, 0) 6 (nI (len + n)))) := by
    intro k
    induction k with
    | zero =>
      intro i L6 L7 hi
      have : i = n := by omega
      subst this
      refine r_iload dX7_put_126 rfl ?_
      refine r_iload_n dX7_put_128 (i := 3) rfl rfl ?_
      refine r_icmp_ge dX7_put_129 (tgt := 166) rfl (fun _ => ?_) (fun h129 => absurd (Int32.le_refl _) h129)
      refine r_aload_n dX7_put_166 (i := 0) rfl rfl ?_
      refine r_dup dX7_put_167 rfl ?_
      refine r_getI dX7_put_168 f_7_151 rfl rfl lv16 ?_
      refine r_iload_n dX7_put_171 (i := 3) rfl rfl ?_
      refine r_iadd dX7_put_172 ?_
      refine r_putI dX7_put_173 f_7_151 rfl rfl lv16 ⟨rfl, rfl⟩ ?_
      refine V.eqH (hp2 := hset (wrt hp (21, 0, 0, 0) len i x i) (16, 0, 0, 0) 6 (nI (len + i))) (by rw [eL, nI_add]) ?_
      refine r_aload_n dX7_put_176 (i := 0) rfl rfl ?_
      refine r_getI dX7_put_177 f_7_151 rfl rfl lv16 ?_
      exact e_i dX7_put_180 rfl rfl hs_eq rfl
    | succ k ih =>
      intro i L6 L7 hi
      have hc := ih (i + 1) L6 L7 (by omega)
      rw [nI_succ] at hc
      refine r_iload dX7_put_126 rfl ?_
      refine r_iload_n dX7_put_128 (i := 3) rfl rfl ?_
      refine r_icmp_ge dX7_put_129 (tgt := 166) rfl (fun h129 => absurd h129 (nI_ge (by omega) (by omega))) (fun _ => ?_)
      refine r_aload_n dX7_put_132 (i := 0) rfl rfl ?_
      refine r_getR dX7_put_133 f_7_23 rfl rfl rfl lv16 ?_
      refine r_aload_n dX7_put_136 (i := 0) rfl rfl ?_
      refine r_getI dX7_put_137 f_7_151 rfl rfl lv16 ?_
      refine r_iload_n dX7_put_140 (i := 3) rfl rfl ?_
      refine r_iadd dX7_put_141 ?_
      refine r_iconst dX7_put_142 (v := 1) rfl ?_
      refine r_isub dX7_put_143 ?_
      refine r_iload dX7_put_144 rfl ?_
      refine r_isub dX7_put_146 ?_
      refine r_lload_n dX7_put_147 (i := 1) rfl rfl ?_
      refine r_bipush dX7_put_148 (v := 8) rfl ?_
      refine r_iload dX7_put_150 rfl ?_
      refine r_imul dX7_put_152 ?_
      refine r_lushr dX7_put_153 ?_
      refine r_ldc2 dX7_put_154 wd_1026 ?_
      refine r_land dX7_put_157 ?_
      refine r_l2i dX7_put_158 ?_
      refine V.eqS (st2 := [vI (cd x i), vI (nI len + nI n - 1 - nI i), vR (21, 0, 0, 0)]) (by rw [← cd_r, eL]; rfl) ?_
      refine n_iast dX7_put_159 rfl lv21 (k := len + n - 1 - i) (pk_ix3 (by omega)) (by omega) ?_
      refine r_inc1 dX7_put_160 rfl (Nat.le_of_ble_eq_true rfl) rfl ?_
      refine r_goto dX7_put_163 (tgt := 126) rfl ?_
      exact hc
  unfold Ci
  refine lX7_put0 (lX7_put ?_ 8 0 none none rfl)
  intro L5 L6 L7
  rw [h]
  refine r_iload dX7_put_101 rfl ?_
  refine r_if_eq dX7_put_103 (tgt := 109) rfl (fun _ => ?_) (fun h103 => absurd (rfl) h103)
  refine r_aload_n dX7_put_109 (i := 0) rfl rfl ?_
  refine r_getI dX7_put_110 f_7_151 rfl rfl lv16 ?_
  refine r_iload_n dX7_put_113 (i := 3) rfl rfl ?_
  refine r_iadd dX7_put_114 ?_
  refine r_bipush dX7_put_115 (v := 80) rfl ?_
  refine r_icmp_le dX7_put_117 (tgt := 123) rfl (fun _ => ?_) (fun h117 => absurd ((by rw [hL, nI_add]; exact nI_le (b := 80) hb (by decide))) h117)
  refine r_iconst dX7_put_123 (v := 0) rfl ?_
  refine r_istore dX7_put_124 (Nat.le_of_ble_eq_true rfl) rfl rfl ?_
  exact key n 0 _ _ (by omega)
end PUT2
