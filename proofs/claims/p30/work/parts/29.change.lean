/-- the low bits of a number, left over by m -/
def lowN (v : Int32) (m : Nat) : Nat := v.toBitVec.toNat % 2 ^ 31 % m
theorem lowN_lt {v : Int32} {m : Nat} (h : 0 < m) : lowN v m < m := Nat.mod_lt _ h
theorem tL_low {g : Gh} {hp : HPt} {v : Int32} {m : Nat} (h0 : 0 < m) (hm : m < 2 ^ 31) : Ci g mL_low [vI v, vI (nI m)] hp (nI (lowN v m)) hp := by
  unfold Ci
  refine r_iload_n dL_low_0 (i := 0) rfl rfl ?_
  refine r_ldc dL_low_1 wd_351 ?_
  refine r_iand dL_low_3 ?_
  refine r_iload_n dL_low_4 (i := 1) rfl rfl ?_
  refine r_irem dL_low_5 (nI_ne0 h0 hm) ?_
  exact e_i dL_low_6 rfl rfl (by rw [pk_and v 31 (by decide)]; exact jrem_nI (Nat.mod_lt _ (by decide)) h0 hm) rfl
theorem tL_cell {g : Gh} {hp : HPt} {q N : Nat} {xs : Nat → Int32} (hX0 : g.2.2.2.2 0 = (N, xs)) (hN : N < 2 ^ 31) (hq : q < N) : Ci g mL_cell [vR (24, 0, 0, 0), vI (nI q)] hp (xs q) hp := by
  unfold Ci
  refine r_iload_n dL_cell_0 (i := 1) rfl rfl ?_
  refine r_aload_n dL_cell_1 (i := 0) rfl rfl ?_
  refine r_xlen dL_cell_2 (by decide) ?_
  refine r_icmp_ge dL_cell_3 (tgt := 12) rfl (fun h3 => absurd h3 ((by rw [hX0]; exact nI_ge hq hN))) (fun _ => ?_)
  refine r_aload_n dL_cell_6 (i := 0) rfl rfl ?_
  refine r_iload_n dL_cell_7 (i := 1) rfl rfl ?_
  refine m_xald dL_cell_8 (by decide) hX0 hN rfl hq ?_
  refine r_goto dL_cell_9 (tgt := 20) rfl ?_
  exact e_i dL_cell_20 rfl (by first | rfl | exact bi_nar _) (by first | rfl | simp [bi, *]) rfl
def opK (kind : Nat) (a b : Int32) (n : Nat) : RO := match kind with
  | 0 => oKeep (lowN a 256)
  | 1 => oKeep (lowN a 256)
  | 2 => oKeep (lowN a 256)
  | 3 => fRen n (lowN a (n + 1))
  | 4 => fRen n (lowN a (n + 1))
  | 5 => fBurn n (lowN a (n + 1))
  | 6 => oSleep (lowN a 2)
  | 7 => fLie n (lowN b 2) (lowN a (n + 1)) (lowN (b >>> (4 &&& 31)) 256) (lowN (b >>> (12 &&& 31)) 257)
  | 8 => fLieP n (lowN b 2) (lowN a (n + 1)) (lowN (b >>> (4 &&& 31)) 256)
  | 9 => fLie n (lowN b 2) (lowN a (n + 1)) 0 0
  | 10 => fMrg n (lowN a (n + 1))
  | 11 => fMrg n (lowN a (n + 1))
  | 12 => fStl n (lowN b 2) (lowN a (n + 1)) (lowN (b >>> (4 &&& 31)) 4)
  | 13 => fStl n (lowN b 2) (lowN a (n + 1)) (lowN (b >>> (4 &&& 31)) 4)
  | 14 => oPas n (1 + lowN a 9)
  | 15 => oSet (lowN a 3) (nI (lowN b 9))
  | _ => oSeed (nI (lowN a 10000))
/-- a change's answer, the heap behind it -/
def chR (hp : HPt) (o z n kind : Nat) (a b : Int32) : Int32 := (opK kind a b n (hdr hp o z)).1
def chS (hp : HPt) (o z n kind : Nat) (a b : Int32) : HPt := recA (opK kind a b n (hdr hp o z)).2 o z (opK kind a b n (hdr hp o z)).1
def chT (h : HPt) (r x : Int32) : HPt := if r < 0 then h else hset h (16, 0, 0, 0) r.toNatClampNeg x
def chH (hp : HPt) (o z n kind : Nat) (a b : Int32) : HPt := if kind < 3 then chT (chS hp o z n kind a b) (chR hp o z n kind a b) (nI (lowN a 256)) else chS hp o z n kind a b
section CHG
variable {g : Gh} {hp : HPt} {o z n E : Nat} {a b : Int32}
theorem c_count {k : Nat} (h : GO hp n E) (hk : k < 14) : Ci g mX6_count [vR (15, 0, 0, 0), vI (nI k)] hp (figG hp 0 n k) hp := by
  obtain ⟨k1, k2⟩ := h.kept
  have e : ∀ k, k < 14 → ¬ nI k = 14 ∧ ¬ nI k = 15 := by decide
  exact tX6_count (e k hk).1 (e k hk).2 (tX5_figure (by decide) k2 k1 hk)
theorem c_count1 (h : GO hp n E) : Ci g mX6_count [vR (15, 0, 0, 0), vI 1] hp (nI n) hp := (c_count (k := 1) h (by decide)).eq h.kept.1 rfl
theorem c_ofs {j k : Nat} (h : GO hp n E) (hj : j < n) (hk : k < 8) : Ci g mX6_ofSecret [vR (15, 0, 0, 0), vI (nI j), vI (nI k)] hp (figS hp 0 j k) hp :=
  tX6_ofSecret (tX5_figureOfSecret (by decide) (by have := h.kept.2; omega) (h.has hj) hk)
theorem c_pas {j c x : Nat} (h : GO hp n E) (hj : j < n) (hc : c < 2) (hx : x < 256) : Ci g mX6_passing [vR (15, 0, 0, 0), vI (nI c), vI (nI j), vI (nI x)] hp (fPass hp 0 j c (nI x)) hp :=
  tX6_passing (tX5_tagOffsetThatPasses (by decide) (by have := h.kept.2; omega) hc (h.half hj hc) (fPt_nI hx))
theorem keep_r {x : Nat} (h : GO hp n E) (hr : ¬ (oKeep x hp).1 < 0) : (oKeep x hp).1 = nI n ∧ n < 8 ∧ (oKeep x hp).2 = hset (MV hp 0 n (nI x)) (0, 0, 0, 0) 3 (nI (n + 1)) := by
  obtain ⟨k1, k2⟩ := h.kept
  unfold oKeep at hr ⊢
  by_cases h8 : hp (0, 0, 0, 0) 3 < 8
  · rw [if_pos h8] at hr ⊢
    cases hs : fSlp hp 0
    · rw [if_neg (by decide)]
      rw [k1] at h8
      refine ⟨k1, (nI_ltI (b := 8) (by omega) (by decide)).mp h8, ?_⟩
      rw [k1, nI_clamp (by omega), nI_1]
    · rw [hs, if_pos rfl] at hr
      exact absurd (show (-5 : Int32) < 0 by decide) hr
  · rw [if_neg h8] at hr
    exact absurd (show (-4 : Int32) < 0 by decide) hr
theorem tL_ch_k (L : LI hp o z n E) {K : Nat} (hK : K < 3) : Ci g mL_change [vR (15, 0, 0, 0), vR (16, 0, 0, 0), vI (nI K), vI a, vI b] hp (oKeep (lowN a 256) (hdr hp o z)).1 (chT (recA (oKeep (lowN a 256) (hdr hp o z)).2 o z (oKeep (lowN a 256) (hdr hp o z)).1) (oKeep (lowN a 256) (hdr hp o z)).1 (nI (lowN a 256))) := by
  have h8 := L.n8
  have hr : ¬ (oKeep (lowN a 256) (hdr hp o z)).1 < 0 → (oKeep (lowN a 256) (hdr hp o z)).1 = nI (oKeep (lowN a 256) (hdr hp o z)).1.toNatClampNeg ∧ (oKeep (lowN a 256) (hdr hp o z)).1.toNatClampNeg < 8 := fun h => by
    obtain ⟨q1, q2, -⟩ := keep_r (L.dft (o2 := o) (z2 := z)).2.2 h
    rw [q1, nI_clamp (by omega)]
    exact ⟨rfl, q2⟩
  unfold Ci
  match K, hK with
  | 0, _ =>
    refine r_aload_n dL_change_0 (i := 0) rfl rfl ?_
    refine r_iconst dL_change_1 (v := 1) rfl ?_
    refine sL_change_2 (Nat.le_refl _) (Nat.le_refl _) rfl lv15 (Nat.le_of_ble_eq_true rfl) (c_count1 L.2.2) ?_
    refine r_istore dL_change_5 (Nat.le_of_ble_eq_true rfl) rfl rfl ?_
    refine r_iload_n dL_change_7 (i := 3) rfl rfl ?_
    refine r_iload dL_change_8 rfl ?_
    refine r_iconst dL_change_10 (v := 1) rfl ?_
    refine r_iadd dL_change_11 ?_
    rw [nI_1]
    refine sL_change_12 (Nat.le_refl _) (Nat.le_refl _) (Nat.le_of_ble_eq_true rfl) (tL_low (m := n + 1) (Nat.succ_pos _) (by omega)) ?_
    refine r_istore dL_change_15 (Nat.le_of_ble_eq_true rfl) rfl rfl ?_
    refine r_iload_n dL_change_17 (i := 2) rfl rfl ?_
    refine r_tabIn dL_change_18 (off := 78) (tgt := 96) (by decide) (by decide) (by decide) rfl ?_
    refine r_aload_n dL_change_96 (i := 0) rfl rfl ?_
    refine r_iload_n dL_change_97 (i := 3) rfl rfl ?_
    refine r_sipush dL_change_98 (v := 256) rfl ?_
    refine sL_change_101 (Nat.le_refl _) (Nat.le_refl _) (Nat.le_of_ble_eq_true rfl) (tL_low (m := 256) (by decide) (by decide)) ?_
    refine sL_change_104 (Nat.le_refl _) (Nat.le_refl _) rfl lv15 (Nat.le_of_ble_eq_true rfl) (P_keep L (lowN_lt (by decide))) ?_
    refine r_istore dL_change_107 (Nat.le_of_ble_eq_true rfl) rfl rfl ?_
    refine r_iload dL_change_109 rfl ?_
    refine r_if_lt dL_change_111 (tgt := 125) rfl (fun h111 => ?_) (fun h111 => ?_)
    · refine r_iload dL_change_125 rfl ?_
      exact e_i dL_change_127 rfl rfl rfl (by unfold chT; first | rw [if_pos h111] | rw [if_neg h111])
    · refine r_aload_n dL_change_114 (i := 1) rfl rfl ?_
      refine r_iload dL_change_115 rfl ?_
      refine r_iload_n dL_change_117 (i := 3) rfl rfl ?_
      refine r_sipush dL_change_118 (v := 256) rfl ?_
      refine sL_change_121 (Nat.le_refl _) (Nat.le_refl _) (Nat.le_of_ble_eq_true rfl) (tL_low (m := 256) (by decide) (by decide)) ?_
      refine n_iast dL_change_124 rfl lv16 (k := (oKeep (lowN a 256) (hdr hp o z)).1.toNatClampNeg) (hr h111).1 (hr h111).2 ?_
      refine r_iload dL_change_125 rfl ?_
      exact e_i dL_change_127 rfl rfl rfl (by unfold chT; first | rw [if_pos h111] | rw [if_neg h111])
  | 1, _ =>
    refine r_aload_n dL_change_0 (i := 0) rfl rfl ?_
    refine r_iconst dL_change_1 (v := 1) rfl ?_
    refine sL_change_2 (Nat.le_refl _) (Nat.le_refl _) rfl lv15 (Nat.le_of_ble_eq_true rfl) (c_count1 L.2.2) ?_
    refine r_istore dL_change_5 (Nat.le_of_ble_eq_true rfl) rfl rfl ?_
    refine r_iload_n dL_change_7 (i := 3) rfl rfl ?_
    refine r_iload dL_change_8 rfl ?_
    refine r_iconst dL_change_10 (v := 1) rfl ?_
    refine r_iadd dL_change_11 ?_
    rw [nI_1]
    refine sL_change_12 (Nat.le_refl _) (Nat.le_refl _) (Nat.le_of_ble_eq_true rfl) (tL_low (m := n + 1) (Nat.succ_pos _) (by omega)) ?_
    refine r_istore dL_change_15 (Nat.le_of_ble_eq_true rfl) rfl rfl ?_
    refine r_iload_n dL_change_17 (i := 2) rfl rfl ?_
    refine r_tabIn dL_change_18 (off := 78) (tgt := 96) (by decide) (by decide) (by decide) rfl ?_
    refine r_aload_n dL_change_96 (i := 0) rfl rfl ?_
    refine r_iload_n dL_change_97 (i := 3) rfl rfl ?_
    refine r_sipush dL_change_98 (v := 256) rfl ?_
    refine sL_change_101 (Nat.le_refl _) (Nat.le_refl _) (Nat.le_of_ble_eq_true rfl) (tL_low (m := 256) (by decide) (by decide)) ?_
    refine sL_change_104 (Nat.le_refl _) (Nat.le_refl _) rfl lv15 (Nat.le_of_ble_eq_true rfl) (P_keep L (lowN_lt (by decide))) ?_
    refine r_istore dL_change_107 (Nat.le_of_ble_eq_true rfl) rfl rfl ?_
    refine r_iload dL_change_109 rfl ?_
    refine r_if_lt dL_change_111 (tgt := 125) rfl (fun h111 => ?_) (fun h111 => ?_)
    · refine r_iload dL_change_125 rfl ?_
      exact e_i dL_change_127 rfl rfl rfl (by unfold chT; first | rw [if_pos h111] | rw [if_neg h111])
    · refine r_aload_n dL_change_114 (i := 1) rfl rfl ?_
      refine r_iload dL_change_115 rfl ?_
      refine r_iload_n dL_change_117 (i := 3) rfl rfl ?_
      refine r_sipush dL_change_118 (v := 256) rfl ?_
      refine sL_change_121 (Nat.le_refl _) (Nat.le_refl _) (Nat.le_of_ble_eq_true rfl) (tL_low (m := 256) (by decide) (by decide)) ?_
      refine n_iast dL_change_124 rfl lv16 (k := (oKeep (lowN a 256) (hdr hp o z)).1.toNatClampNeg) (hr h111).1 (hr h111).2 ?_
      refine r_iload dL_change_125 rfl ?_
      exact e_i dL_change_127 rfl rfl rfl (by unfold chT; first | rw [if_pos h111] | rw [if_neg h111])
  | 2, _ =>
    refine r_aload_n dL_change_0 (i := 0) rfl rfl ?_
    refine r_iconst dL_change_1 (v := 1) rfl ?_
    refine sL_change_2 (Nat.le_refl _) (Nat.le_refl _) rfl lv15 (Nat.le_of_ble_eq_true rfl) (c_count1 L.2.2) ?_
    refine r_istore dL_change_5 (Nat.le_of_ble_eq_true rfl) rfl rfl ?_
    refine r_iload_n dL_change_7 (i := 3) rfl rfl ?_
    refine r_iload dL_change_8 rfl ?_
    refine r_iconst dL_change_10 (v := 1) rfl ?_
    refine r_iadd dL_change_11 ?_
    rw [nI_1]
    refine sL_change_12 (Nat.le_refl _) (Nat.le_refl _) (Nat.le_of_ble_eq_true rfl) (tL_low (m := n + 1) (Nat.succ_pos _) (by omega)) ?_
    refine r_istore dL_change_15 (Nat.le_of_ble_eq_true rfl) rfl rfl ?_
    refine r_iload_n dL_change_17 (i := 2) rfl rfl ?_
    refine r_tabIn dL_change_18 (off := 78) (tgt := 96) (by decide) (by decide) (by decide) rfl ?_
    refine r_aload_n dL_change_96 (i := 0) rfl rfl ?_
    refine r_iload_n dL_change_97 (i := 3) rfl rfl ?_
    refine r_sipush dL_change_98 (v := 256) rfl ?_
    refine sL_change_101 (Nat.le_refl _) (Nat.le_refl _) (Nat.le_of_ble_eq_true rfl) (tL_low (m := 256) (by decide) (by decide)) ?_
    refine sL_change_104 (Nat.le_refl _) (Nat.le_refl _) rfl lv15 (Nat.le_of_ble_eq_true rfl) (P_keep L (lowN_lt (by decide))) ?_
    refine r_istore dL_change_107 (Nat.le_of_ble_eq_true rfl) rfl rfl ?_
    refine r_iload dL_change_109 rfl ?_
    refine r_if_lt dL_change_111 (tgt := 125) rfl (fun h111 => ?_) (fun h111 => ?_)
    · refine r_iload dL_change_125 rfl ?_
      exact e_i dL_change_127 rfl rfl rfl (by unfold chT; first | rw [if_pos h111] | rw [if_neg h111])
    · refine r_aload_n dL_change_114 (i := 1) rfl rfl ?_
      refine r_iload dL_change_115 rfl ?_
      refine r_iload_n dL_change_117 (i := 3) rfl rfl ?_
      refine r_sipush dL_change_118 (v := 256) rfl ?_
      refine sL_change_121 (Nat.le_refl _) (Nat.le_refl _) (Nat.le_of_ble_eq_true rfl) (tL_low (m := 256) (by decide) (by decide)) ?_
      refine n_iast dL_change_124 rfl lv16 (k := (oKeep (lowN a 256) (hdr hp o z)).1.toNatClampNeg) (hr h111).1 (hr h111).2 ?_
      refine r_iload dL_change_125 rfl ?_
      exact e_i dL_change_127 rfl rfl rfl (by unfold chT; first | rw [if_pos h111] | rw [if_neg h111])
theorem tL_ch_3 (L : LI hp o z n E) : Ci g mL_change [vR (15, 0, 0, 0), vR (16, 0, 0, 0), vI (nI 3), vI a, vI b] hp (fRen n (lowN a (n + 1)) (hdr hp o z)).1 (recA (fRen n (lowN a (n + 1)) (hdr hp o z)).2 o z (fRen n (lowN a (n + 1)) (hdr hp o z)).1) := by
  have h8 := L.n8
  have hk : lowN a (n + 1) ≤ n := Nat.le_of_lt_succ (lowN_lt (Nat.succ_pos _))
  unfold Ci
  refine r_aload_n dL_change_0 (i := 0) rfl rfl ?_
  refine r_iconst dL_change_1 (v := 1) rfl ?_
  refine sL_change_2 (Nat.le_refl _) (Nat.le_refl _) rfl lv15 (Nat.le_of_ble_eq_true rfl) (c_count1 L.2.2) ?_
  refine r_istore dL_change_5 (Nat.le_of_ble_eq_true rfl) rfl rfl ?_
  refine r_iload_n dL_change_7 (i := 3) rfl rfl ?_
  refine r_iload dL_change_8 rfl ?_
  refine r_iconst dL_change_10 (v := 1) rfl ?_
  refine r_iadd dL_change_11 ?_
  rw [nI_1]
  refine sL_change_12 (Nat.le_refl _) (Nat.le_refl _) (Nat.le_of_ble_eq_true rfl) (tL_low (m := n + 1) (Nat.succ_pos _) (by omega)) ?_
  refine r_istore dL_change_15 (Nat.le_of_ble_eq_true rfl) rfl rfl ?_
  refine r_iload_n dL_change_17 (i := 2) rfl rfl ?_
  refine r_tabIn dL_change_18 (off := 110) (tgt := 128) (by decide) (by decide) (by decide) rfl ?_
  refine r_aload_n dL_change_128 (i := 0) rfl rfl ?_
  refine r_iload dL_change_129 rfl ?_
  refine sL_change_131 (Nat.le_refl _) (Nat.le_refl _) rfl lv15 (Nat.le_of_ble_eq_true rfl) (P_refresh L hk) ?_
  exact e_i dL_change_134 rfl (by first | rfl | exact bi_nar _) rfl rfl
theorem tL_ch_4 (L : LI hp o z n E) : Ci g mL_change [vR (15, 0, 0, 0), vR (16, 0, 0, 0), vI (nI 4), vI a, vI b] hp (fRen n (lowN a (n + 1)) (hdr hp o z)).1 (recA (fRen n (lowN a (n + 1)) (hdr hp o z)).2 o z (fRen n (lowN a (n + 1)) (hdr hp o z)).1) := by
  have h8 := L.n8
  have hk : lowN a (n + 1) ≤ n := Nat.le_of_lt_succ (lowN_lt (Nat.succ_pos _))
  unfold Ci
  refine r_aload_n dL_change_0 (i := 0) rfl rfl ?_
  refine r_iconst dL_change_1 (v := 1) rfl ?_
  refine sL_change_2 (Nat.le_refl _) (Nat.le_refl _) rfl lv15 (Nat.le_of_ble_eq_true rfl) (c_count1 L.2.2) ?_
  refine r_istore dL_change_5 (Nat.le_of_ble_eq_true rfl) rfl rfl ?_
  refine r_iload_n dL_change_7 (i := 3) rfl rfl ?_
  refine r_iload dL_change_8 rfl ?_
  refine r_iconst dL_change_10 (v := 1) rfl ?_
  refine r_iadd dL_change_11 ?_
  rw [nI_1]
  refine sL_change_12 (Nat.le_refl _) (Nat.le_refl _) (Nat.le_of_ble_eq_true rfl) (tL_low (m := n + 1) (Nat.succ_pos _) (by omega)) ?_
  refine r_istore dL_change_15 (Nat.le_of_ble_eq_true rfl) rfl rfl ?_
  refine r_iload_n dL_change_17 (i := 2) rfl rfl ?_
  refine r_tabIn dL_change_18 (off := 110) (tgt := 128) (by decide) (by decide) (by decide) rfl ?_
  refine r_aload_n dL_change_128 (i := 0) rfl rfl ?_
  refine r_iload dL_change_129 rfl ?_
  refine sL_change_131 (Nat.le_refl _) (Nat.le_refl _) rfl lv15 (Nat.le_of_ble_eq_true rfl) (P_refresh L hk) ?_
  exact e_i dL_change_134 rfl (by first | rfl | exact bi_nar _) rfl rfl
theorem tL_ch_5 (L : LI hp o z n E) : Ci g mL_change [vR (15, 0, 0, 0), vR (16, 0, 0, 0), vI (nI 5), vI a, vI b] hp (fBurn n (lowN a (n + 1)) (hdr hp o z)).1 (recA (fBurn n (lowN a (n + 1)) (hdr hp o z)).2 o z (fBurn n (lowN a (n + 1)) (hdr hp o z)).1) := by
  have h8 := L.n8
  have hk : lowN a (n + 1) ≤ n := Nat.le_of_lt_succ (lowN_lt (Nat.succ_pos _))
  unfold Ci
  refine r_aload_n dL_change_0 (i := 0) rfl rfl ?_
  refine r_iconst dL_change_1 (v := 1) rfl ?_
  refine sL_change_2 (Nat.le_refl _) (Nat.le_refl _) rfl lv15 (Nat.le_of_ble_eq_true rfl) (c_count1 L.2.2) ?_
  refine r_istore dL_change_5 (Nat.le_of_ble_eq_true rfl) rfl rfl ?_
  refine r_iload_n dL_change_7 (i := 3) rfl rfl ?_
  refine r_iload dL_change_8 rfl ?_
  refine r_iconst dL_change_10 (v := 1) rfl ?_
  refine r_iadd dL_change_11 ?_
  rw [nI_1]
  refine sL_change_12 (Nat.le_refl _) (Nat.le_refl _) (Nat.le_of_ble_eq_true rfl) (tL_low (m := n + 1) (Nat.succ_pos _) (by omega)) ?_
  refine r_istore dL_change_15 (Nat.le_of_ble_eq_true rfl) rfl rfl ?_
  refine r_iload_n dL_change_17 (i := 2) rfl rfl ?_
  refine r_tabIn dL_change_18 (off := 117) (tgt := 135) (by decide) (by decide) (by decide) rfl ?_
  refine r_aload_n dL_change_135 (i := 0) rfl rfl ?_
  refine r_iload dL_change_136 rfl ?_
  refine sL_change_138 (Nat.le_refl _) (Nat.le_refl _) rfl lv15 (Nat.le_of_ble_eq_true rfl) (P_burn L hk) ?_
  exact e_i dL_change_141 rfl (by first | rfl | exact bi_nar _) rfl rfl
theorem tL_ch_6 (L : LI hp o z n E) : Ci g mL_change [vR (15, 0, 0, 0), vR (16, 0, 0, 0), vI (nI 6), vI a, vI b] hp (oSleep (lowN a 2) (hdr hp o z)).1 (recA (oSleep (lowN a 2) (hdr hp o z)).2 o z (oSleep (lowN a 2) (hdr hp o z)).1) := by
  have h8 := L.n8
  unfold Ci
  refine r_aload_n dL_change_0 (i := 0) rfl rfl ?_
  refine r_iconst dL_change_1 (v := 1) rfl ?_
  refine sL_change_2 (Nat.le_refl _) (Nat.le_refl _) rfl lv15 (Nat.le_of_ble_eq_true rfl) (c_count1 L.2.2) ?_
  refine r_istore dL_change_5 (Nat.le_of_ble_eq_true rfl) rfl rfl ?_
  refine r_iload_n dL_change_7 (i := 3) rfl rfl ?_
  refine r_iload dL_change_8 rfl ?_
  refine r_iconst dL_change_10 (v := 1) rfl ?_
  refine r_iadd dL_change_11 ?_
  rw [nI_1]
  refine sL_change_12 (Nat.le_refl _) (Nat.le_refl _) (Nat.le_of_ble_eq_true rfl) (tL_low (m := n + 1) (Nat.succ_pos _) (by omega)) ?_
  refine r_istore dL_change_15 (Nat.le_of_ble_eq_true rfl) rfl rfl ?_
  refine r_iload_n dL_change_17 (i := 2) rfl rfl ?_
  refine r_tabIn dL_change_18 (off := 124) (tgt := 142) (by decide) (by decide) (by decide) rfl ?_
  refine r_aload_n dL_change_142 (i := 0) rfl rfl ?_
  refine r_iload_n dL_change_143 (i := 3) rfl rfl ?_
  refine r_iconst dL_change_144 (v := 2) rfl ?_
  refine sL_change_145 (Nat.le_refl _) (Nat.le_refl _) (Nat.le_of_ble_eq_true rfl) (tL_low (m := 2) (by decide) (by decide)) ?_
  refine sL_change_148 (Nat.le_refl _) (Nat.le_refl _) rfl lv15 (Nat.le_of_ble_eq_true rfl) (P_sleep L (lowN_lt (by decide))) ?_
  exact e_i dL_change_151 rfl (by first | rfl | exact bi_nar _) rfl rfl
theorem tL_ch_7 (L : LI hp o z n E) : Ci g mL_change [vR (15, 0, 0, 0), vR (16, 0, 0, 0), vI (nI 7), vI a, vI b] hp (fLie n (lowN b 2) (lowN a (n + 1)) (lowN (b >>> (4 &&& 31)) 256) (lowN (b >>> (12 &&& 31)) 257) (hdr hp o z)).1 (recA (fLie n (lowN b 2) (lowN a (n + 1)) (lowN (b >>> (4 &&& 31)) 256) (lowN (b >>> (12 &&& 31)) 257) (hdr hp o z)).2 o z (fLie n (lowN b 2) (lowN a (n + 1)) (lowN (b >>> (4 &&& 31)) 256) (lowN (b >>> (12 &&& 31)) 257) (hdr hp o z)).1) := by
  have h8 := L.n8
  have hk : lowN a (n + 1) ≤ n := Nat.le_of_lt_succ (lowN_lt (Nat.succ_pos _))
  unfold Ci
  refine r_aload_n dL_change_0 (i := 0) rfl rfl ?_
  refine r_iconst dL_change_1 (v := 1) rfl ?_
  refine sL_change_2 (Nat.le_refl _) (Nat.le_refl _) rfl lv15 (Nat.le_of_ble_eq_true rfl) (c_count1 L.2.2) ?_
  refine r_istore dL_change_5 (Nat.le_of_ble_eq_true rfl) rfl rfl ?_
  refine r_iload_n dL_change_7 (i := 3) rfl rfl ?_
  refine r_iload dL_change_8 rfl ?_
  refine r_iconst dL_change_10 (v := 1) rfl ?_
  refine r_iadd dL_change_11 ?_
  rw [nI_1]
  refine sL_change_12 (Nat.le_refl _) (Nat.le_refl _) (Nat.le_of_ble_eq_true rfl) (tL_low (m := n + 1) (Nat.succ_pos _) (by omega)) ?_
  refine r_istore dL_change_15 (Nat.le_of_ble_eq_true rfl) rfl rfl ?_
  refine r_iload_n dL_change_17 (i := 2) rfl rfl ?_
  refine r_tabIn dL_change_18 (off := 134) (tgt := 152) (by decide) (by decide) (by decide) rfl ?_
  refine r_aload_n dL_change_152 (i := 0) rfl rfl ?_
  refine r_iload dL_change_153 rfl ?_
  refine r_iconst dL_change_155 (v := 2) rfl ?_
  refine sL_change_156 (Nat.le_refl _) (Nat.le_refl _) (Nat.le_of_ble_eq_true rfl) (tL_low (m := 2) (by decide) (by decide)) ?_
  refine r_iload dL_change_159 rfl ?_
  refine r_iload dL_change_161 rfl ?_
  refine r_iconst dL_change_163 (v := 4) rfl ?_
  refine r_ishr dL_change_164 ?_
  refine r_sipush dL_change_165 (v := 256) rfl ?_
  refine sL_change_168 (Nat.le_refl _) (Nat.le_refl _) (Nat.le_of_ble_eq_true rfl) (tL_low (m := 256) (by decide) (by decide)) ?_
  refine r_iload dL_change_171 rfl ?_
  refine r_bipush dL_change_173 (v := 12) rfl ?_
  refine r_ishr dL_change_175 ?_
  refine r_sipush dL_change_176 (v := 257) rfl ?_
  refine sL_change_179 (Nat.le_refl _) (Nat.le_refl _) (Nat.le_of_ble_eq_true rfl) (tL_low (m := 257) (by decide) (by decide)) ?_
  refine sL_change_182 (Nat.le_refl _) (Nat.le_refl _) rfl lv15 (Nat.le_of_ble_eq_true rfl) (P_lie L hk (lowN_lt (by decide)) (lowN_lt (by decide)) (lowN_lt (by decide))) ?_
  exact e_i dL_change_185 rfl (by first | rfl | exact bi_nar _) rfl rfl
theorem tL_ch_8 (L : LI hp o z n E) : Ci g mL_change [vR (15, 0, 0, 0), vR (16, 0, 0, 0), vI (nI 8), vI a, vI b] hp (fLieP n (lowN b 2) (lowN a (n + 1)) (lowN (b >>> (4 &&& 31)) 256) (hdr hp o z)).1 (recA (fLieP n (lowN b 2) (lowN a (n + 1)) (lowN (b >>> (4 &&& 31)) 256) (hdr hp o z)).2 o z (fLieP n (lowN b 2) (lowN a (n + 1)) (lowN (b >>> (4 &&& 31)) 256) (hdr hp o z)).1) := by
  have h8 := L.n8
  have hk : lowN a (n + 1) ≤ n := Nat.le_of_lt_succ (lowN_lt (Nat.succ_pos _))
  by_cases hkn : lowN a (n + 1) < n
  · unfold Ci
    refine r_aload_n dL_change_0 (i := 0) rfl rfl ?_
    refine r_iconst dL_change_1 (v := 1) rfl ?_
    refine sL_change_2 (Nat.le_refl _) (Nat.le_refl _) rfl lv15 (Nat.le_of_ble_eq_true rfl) (c_count1 L.2.2) ?_
    refine r_istore dL_change_5 (Nat.le_of_ble_eq_true rfl) rfl rfl ?_
    refine r_iload_n dL_change_7 (i := 3) rfl rfl ?_
    refine r_iload dL_change_8 rfl ?_
    refine r_iconst dL_change_10 (v := 1) rfl ?_
    refine r_iadd dL_change_11 ?_
    rw [nI_1]
    refine sL_change_12 (Nat.le_refl _) (Nat.le_refl _) (Nat.le_of_ble_eq_true rfl) (tL_low (m := n + 1) (Nat.succ_pos _) (by omega)) ?_
    refine r_istore dL_change_15 (Nat.le_of_ble_eq_true rfl) rfl rfl ?_
    refine r_iload_n dL_change_17 (i := 2) rfl rfl ?_
    refine r_tabIn dL_change_18 (off := 168) (tgt := 186) (by decide) (by decide) (by decide) rfl ?_
    refine r_iload dL_change_186 rfl ?_
    refine r_iconst dL_change_188 (v := 4) rfl ?_
    refine r_ishr dL_change_189 ?_
    refine r_sipush dL_change_190 (v := 256) rfl ?_
    refine sL_change_193 (Nat.le_refl _) (Nat.le_refl _) (Nat.le_of_ble_eq_true rfl) (tL_low (m := 256) (by decide) (by decide)) ?_
    refine r_istore dL_change_196 (Nat.le_of_ble_eq_true rfl) rfl rfl ?_
    refine r_aload_n dL_change_198 (i := 0) rfl rfl ?_
    refine r_iload dL_change_199 rfl ?_
    refine r_iconst dL_change_201 (v := 2) rfl ?_
    refine sL_change_202 (Nat.le_refl _) (Nat.le_refl _) (Nat.le_of_ble_eq_true rfl) (tL_low (m := 2) (by decide) (by decide)) ?_
    refine r_iload dL_change_205 rfl ?_
    refine r_iload dL_change_207 rfl ?_
    refine r_iload dL_change_209 rfl ?_
    refine r_iload dL_change_211 rfl ?_
    refine r_icmp_ge dL_change_213 (tgt := 233) rfl (fun h213 => absurd h213 (nI_ge hkn (by omega))) (fun _ => ?_)
    refine r_aload_n dL_change_216 (i := 0) rfl rfl ?_
    refine r_iload dL_change_217 rfl ?_
    refine r_iconst dL_change_219 (v := 2) rfl ?_
    refine sL_change_220 (Nat.le_refl _) (Nat.le_refl _) (Nat.le_of_ble_eq_true rfl) (tL_low (m := 2) (by decide) (by decide)) ?_
    refine r_iload dL_change_223 rfl ?_
    refine r_iload dL_change_225 rfl ?_
    refine sL_change_227 (Nat.le_refl _) (Nat.le_refl _) rfl lv15 (Nat.le_of_ble_eq_true rfl) (c_pas L.2.2 hkn (lowN_lt (by decide)) (lowN_lt (by decide))) ?_
    refine r_goto dL_change_230 (tgt := 234) rfl ?_
    refine sL_change_234 (Nat.le_refl _) (Nat.le_refl _) rfl lv15 (Nat.le_of_ble_eq_true rfl) (P_lieP L hkn (lowN_lt (by decide)) (lowN_lt (by decide))) ?_
    exact e_i dL_change_237 rfl (by first | rfl | exact bi_nar _) rfl rfl
  · have en : fLieP n (lowN b 2) (lowN a (n + 1)) (lowN (b >>> (4 &&& 31)) 256) = fLie n (lowN b 2) (lowN a (n + 1)) (lowN (b >>> (4 &&& 31)) 256) 0 := by
      rw [show fLieP n (lowN b 2) (lowN a (n + 1)) (lowN (b >>> (4 &&& 31)) 256) = oErr (-1) from if_neg hkn, show fLie n (lowN b 2) (lowN a (n + 1)) (lowN (b >>> (4 &&& 31)) 256) 0 = oErr (-1) from if_neg hkn]
    rw [en]
    unfold Ci
    refine r_aload_n dL_change_0 (i := 0) rfl rfl ?_
    refine r_iconst dL_change_1 (v := 1) rfl ?_
    refine sL_change_2 (Nat.le_refl _) (Nat.le_refl _) rfl lv15 (Nat.le_of_ble_eq_true rfl) (c_count1 L.2.2) ?_
    refine r_istore dL_change_5 (Nat.le_of_ble_eq_true rfl) rfl rfl ?_
    refine r_iload_n dL_change_7 (i := 3) rfl rfl ?_
    refine r_iload dL_change_8 rfl ?_
    refine r_iconst dL_change_10 (v := 1) rfl ?_
    refine r_iadd dL_change_11 ?_
    rw [nI_1]
    refine sL_change_12 (Nat.le_refl _) (Nat.le_refl _) (Nat.le_of_ble_eq_true rfl) (tL_low (m := n + 1) (Nat.succ_pos _) (by omega)) ?_
    refine r_istore dL_change_15 (Nat.le_of_ble_eq_true rfl) rfl rfl ?_
    refine r_iload_n dL_change_17 (i := 2) rfl rfl ?_
    refine r_tabIn dL_change_18 (off := 168) (tgt := 186) (by decide) (by decide) (by decide) rfl ?_
    refine r_iload dL_change_186 rfl ?_
    refine r_iconst dL_change_188 (v := 4) rfl ?_
    refine r_ishr dL_change_189 ?_
    refine r_sipush dL_change_190 (v := 256) rfl ?_
    refine sL_change_193 (Nat.le_refl _) (Nat.le_refl _) (Nat.le_of_ble_eq_true rfl) (tL_low (m := 256) (by decide) (by decide)) ?_
    refine r_istore dL_change_196 (Nat.le_of_ble_eq_true rfl) rfl rfl ?_
    refine r_aload_n dL_change_198 (i := 0) rfl rfl ?_
    refine r_iload dL_change_199 rfl ?_
    refine r_iconst dL_change_201 (v := 2) rfl ?_
    refine sL_change_202 (Nat.le_refl _) (Nat.le_refl _) (Nat.le_of_ble_eq_true rfl) (tL_low (m := 2) (by decide) (by decide)) ?_
    refine r_iload dL_change_205 rfl ?_
    refine r_iload dL_change_207 rfl ?_
    refine r_iload dL_change_209 rfl ?_
    refine r_iload dL_change_211 rfl ?_
    refine r_icmp_ge dL_change_213 (tgt := 233) rfl (fun _ => ?_) (fun h213 => absurd (nI_le (Nat.le_of_not_lt hkn) (by omega)) h213)
    refine r_iconst dL_change_233 (v := 0) rfl ?_
    refine sL_change_234 (Nat.le_refl _) (Nat.le_refl _) rfl lv15 (Nat.le_of_ble_eq_true rfl) (P_lie L hk (lowN_lt (by decide)) (lowN_lt (by decide)) (q := 0) (by decide)) ?_
    exact e_i dL_change_237 rfl (by first | rfl | exact bi_nar _) rfl rfl
theorem tL_ch_9 (L : LI hp o z n E) : Ci g mL_change [vR (15, 0, 0, 0), vR (16, 0, 0, 0), vI (nI 9), vI a, vI b] hp (fLie n (lowN b 2) (lowN a (n + 1)) 0 0 (hdr hp o z)).1 (recA (fLie n (lowN b 2) (lowN a (n + 1)) 0 0 (hdr hp o z)).2 o z (fLie n (lowN b 2) (lowN a (n + 1)) 0 0 (hdr hp o z)).1) := by
  have h8 := L.n8
  have hk : lowN a (n + 1) ≤ n := Nat.le_of_lt_succ (lowN_lt (Nat.succ_pos _))
  unfold Ci
  refine r_aload_n dL_change_0 (i := 0) rfl rfl ?_
  refine r_iconst dL_change_1 (v := 1) rfl ?_
  refine sL_change_2 (Nat.le_refl _) (Nat.le_refl _) rfl lv15 (Nat.le_of_ble_eq_true rfl) (c_count1 L.2.2) ?_
  refine r_istore dL_change_5 (Nat.le_of_ble_eq_true rfl) rfl rfl ?_
  refine r_iload_n dL_change_7 (i := 3) rfl rfl ?_
  refine r_iload dL_change_8 rfl ?_
  refine r_iconst dL_change_10 (v := 1) rfl ?_
  refine r_iadd dL_change_11 ?_
  rw [nI_1]
  refine sL_change_12 (Nat.le_refl _) (Nat.le_refl _) (Nat.le_of_ble_eq_true rfl) (tL_low (m := n + 1) (Nat.succ_pos _) (by omega)) ?_
  refine r_istore dL_change_15 (Nat.le_of_ble_eq_true rfl) rfl rfl ?_
  refine r_iload_n dL_change_17 (i := 2) rfl rfl ?_
  refine r_tabIn dL_change_18 (off := 220) (tgt := 238) (by decide) (by decide) (by decide) rfl ?_
  refine r_aload_n dL_change_238 (i := 0) rfl rfl ?_
  refine r_iload dL_change_239 rfl ?_
  refine r_iconst dL_change_241 (v := 2) rfl ?_
  refine sL_change_242 (Nat.le_refl _) (Nat.le_refl _) (Nat.le_of_ble_eq_true rfl) (tL_low (m := 2) (by decide) (by decide)) ?_
  refine r_iload dL_change_245 rfl ?_
  refine r_iconst dL_change_247 (v := 0) rfl ?_
  refine r_iconst dL_change_248 (v := 0) rfl ?_
  refine sL_change_249 (Nat.le_refl _) (Nat.le_refl _) rfl lv15 (Nat.le_of_ble_eq_true rfl) (P_lie L hk (lowN_lt (by decide)) (x := 0) (q := 0) (by decide) (by decide)) ?_
  exact e_i dL_change_252 rfl (by first | rfl | exact bi_nar _) rfl rfl
theorem tL_ch_10 (L : LI hp o z n E) : Ci g mL_change [vR (15, 0, 0, 0), vR (16, 0, 0, 0), vI (nI 10), vI a, vI b] hp (fMrg n (lowN a (n + 1)) (hdr hp o z)).1 (recA (fMrg n (lowN a (n + 1)) (hdr hp o z)).2 o z (fMrg n (lowN a (n + 1)) (hdr hp o z)).1) := by
  have h8 := L.n8
  have hk : lowN a (n + 1) ≤ n := Nat.le_of_lt_succ (lowN_lt (Nat.succ_pos _))
  unfold Ci
  refine r_aload_n dL_change_0 (i := 0) rfl rfl ?_
  refine r_iconst dL_change_1 (v := 1) rfl ?_
  refine sL_change_2 (Nat.le_refl _) (Nat.le_refl _) rfl lv15 (Nat.le_of_ble_eq_true rfl) (c_count1 L.2.2) ?_
  refine r_istore dL_change_5 (Nat.le_of_ble_eq_true rfl) rfl rfl ?_
  refine r_iload_n dL_change_7 (i := 3) rfl rfl ?_
  refine r_iload dL_change_8 rfl ?_
  refine r_iconst dL_change_10 (v := 1) rfl ?_
  refine r_iadd dL_change_11 ?_
  rw [nI_1]
  refine sL_change_12 (Nat.le_refl _) (Nat.le_refl _) (Nat.le_of_ble_eq_true rfl) (tL_low (m := n + 1) (Nat.succ_pos _) (by omega)) ?_
  refine r_istore dL_change_15 (Nat.le_of_ble_eq_true rfl) rfl rfl ?_
  refine r_iload_n dL_change_17 (i := 2) rfl rfl ?_
  refine r_tabIn dL_change_18 (off := 235) (tgt := 253) (by decide) (by decide) (by decide) rfl ?_
  refine r_aload_n dL_change_253 (i := 0) rfl rfl ?_
  refine r_iload dL_change_254 rfl ?_
  refine sL_change_256 (Nat.le_refl _) (Nat.le_refl _) rfl lv15 (Nat.le_of_ble_eq_true rfl) (P_merge L hk) ?_
  exact e_i dL_change_259 rfl (by first | rfl | exact bi_nar _) rfl rfl
theorem tL_ch_11 (L : LI hp o z n E) : Ci g mL_change [vR (15, 0, 0, 0), vR (16, 0, 0, 0), vI (nI 11), vI a, vI b] hp (fMrg n (lowN a (n + 1)) (hdr hp o z)).1 (recA (fMrg n (lowN a (n + 1)) (hdr hp o z)).2 o z (fMrg n (lowN a (n + 1)) (hdr hp o z)).1) := by
  have h8 := L.n8
  have hk : lowN a (n + 1) ≤ n := Nat.le_of_lt_succ (lowN_lt (Nat.succ_pos _))
  unfold Ci
  refine r_aload_n dL_change_0 (i := 0) rfl rfl ?_
  refine r_iconst dL_change_1 (v := 1) rfl ?_
  refine sL_change_2 (Nat.le_refl _) (Nat.le_refl _) rfl lv15 (Nat.le_of_ble_eq_true rfl) (c_count1 L.2.2) ?_
  refine r_istore dL_change_5 (Nat.le_of_ble_eq_true rfl) rfl rfl ?_
  refine r_iload_n dL_change_7 (i := 3) rfl rfl ?_
  refine r_iload dL_change_8 rfl ?_
  refine r_iconst dL_change_10 (v := 1) rfl ?_
  refine r_iadd dL_change_11 ?_
  rw [nI_1]
  refine sL_change_12 (Nat.le_refl _) (Nat.le_refl _) (Nat.le_of_ble_eq_true rfl) (tL_low (m := n + 1) (Nat.succ_pos _) (by omega)) ?_
  refine r_istore dL_change_15 (Nat.le_of_ble_eq_true rfl) rfl rfl ?_
  refine r_iload_n dL_change_17 (i := 2) rfl rfl ?_
  refine r_tabIn dL_change_18 (off := 235) (tgt := 253) (by decide) (by decide) (by decide) rfl ?_
  refine r_aload_n dL_change_253 (i := 0) rfl rfl ?_
  refine r_iload dL_change_254 rfl ?_
  refine sL_change_256 (Nat.le_refl _) (Nat.le_refl _) rfl lv15 (Nat.le_of_ble_eq_true rfl) (P_merge L hk) ?_
  exact e_i dL_change_259 rfl (by first | rfl | exact bi_nar _) rfl rfl
theorem tL_ch_12 (L : LI hp o z n E) {K : Nat} (hK : K = 12 ∨ K = 13) : Ci g mL_change [vR (15, 0, 0, 0), vR (16, 0, 0, 0), vI (nI K), vI a, vI b] hp (fStl n (lowN b 2) (lowN a (n + 1)) (lowN (b >>> (4 &&& 31)) 4) (hdr hp o z)).1 (recA (fStl n (lowN b 2) (lowN a (n + 1)) (lowN (b >>> (4 &&& 31)) 4) (hdr hp o z)).2 o z (fStl n (lowN b 2) (lowN a (n + 1)) (lowN (b >>> (4 &&& 31)) 4) (hdr hp o z)).1) := by
  have h8 := L.n8
  have hd : lowN (b >>> (4 &&& 31)) 4 < 5 := Nat.lt_trans (lowN_lt (by decide)) (by decide)
  have hk : lowN a (n + 1) ≤ n := Nat.le_of_lt_succ (lowN_lt (Nat.succ_pos _))
  by_cases hkn : lowN a (n + 1) < n
  · unfold Ci
    rcases hK with rfl | rfl
    · refine r_aload_n dL_change_0 (i := 0) rfl rfl ?_
      refine r_iconst dL_change_1 (v := 1) rfl ?_
      refine sL_change_2 (Nat.le_refl _) (Nat.le_refl _) rfl lv15 (Nat.le_of_ble_eq_true rfl) (c_count1 L.2.2) ?_
      refine r_istore dL_change_5 (Nat.le_of_ble_eq_true rfl) rfl rfl ?_
      refine r_iload_n dL_change_7 (i := 3) rfl rfl ?_
      refine r_iload dL_change_8 rfl ?_
      refine r_iconst dL_change_10 (v := 1) rfl ?_
      refine r_iadd dL_change_11 ?_
      rw [nI_1]
      refine sL_change_12 (Nat.le_refl _) (Nat.le_refl _) (Nat.le_of_ble_eq_true rfl) (tL_low (m := n + 1) (Nat.succ_pos _) (by omega)) ?_
      refine r_istore dL_change_15 (Nat.le_of_ble_eq_true rfl) rfl rfl ?_
      refine r_iload_n dL_change_17 (i := 2) rfl rfl ?_
      refine r_tabIn dL_change_18 (off := 242) (tgt := 260) (by decide) (by decide) (by decide) rfl ?_
      refine r_aload_n dL_change_260 (i := 0) rfl rfl ?_
      refine r_iload dL_change_261 rfl ?_
      refine r_iconst dL_change_263 (v := 2) rfl ?_
      refine sL_change_264 (Nat.le_refl _) (Nat.le_refl _) (Nat.le_of_ble_eq_true rfl) (tL_low (m := 2) (by decide) (by decide)) ?_
      refine r_iload dL_change_267 rfl ?_
      refine r_iload dL_change_269 rfl ?_
      refine r_iload dL_change_271 rfl ?_
      refine r_icmp_ge dL_change_273 (tgt := 295) rfl (fun h273 => absurd h273 (nI_ge hkn (by omega))) (fun _ => ?_)
      refine r_aload_n dL_change_276 (i := 0) rfl rfl ?_
      refine r_iload dL_change_277 rfl ?_
      refine r_iconst dL_change_279 (v := 0) rfl ?_
      refine sL_change_280 (Nat.le_refl _) (Nat.le_refl _) rfl lv15 (Nat.le_of_ble_eq_true rfl) (c_ofs (k := 0) L.2.2 hkn (by decide)) ?_
      refine r_iload dL_change_283 rfl ?_
      refine r_iconst dL_change_285 (v := 4) rfl ?_
      refine r_ishr dL_change_286 ?_
      refine r_iconst dL_change_287 (v := 4) rfl ?_
      refine sL_change_288 (Nat.le_refl _) (Nat.le_refl _) (Nat.le_of_ble_eq_true rfl) (tL_low (m := 4) (by decide) (by decide)) ?_
      refine r_isub dL_change_291 ?_
      refine r_goto dL_change_292 (tgt := 296) rfl ?_
      refine sL_change_296 (Nat.le_refl _) (Nat.le_refl _) rfl lv15 (Nat.le_of_ble_eq_true rfl) (P_steal L hkn (lowN_lt (by decide)) hd) ?_
      exact e_i dL_change_299 rfl (by first | rfl | exact bi_nar _) rfl rfl
    · refine r_aload_n dL_change_0 (i := 0) rfl rfl ?_
      refine r_iconst dL_change_1 (v := 1) rfl ?_
      refine sL_change_2 (Nat.le_refl _) (Nat.le_refl _) rfl lv15 (Nat.le_of_ble_eq_true rfl) (c_count1 L.2.2) ?_
      refine r_istore dL_change_5 (Nat.le_of_ble_eq_true rfl) rfl rfl ?_
      refine r_iload_n dL_change_7 (i := 3) rfl rfl ?_
      refine r_iload dL_change_8 rfl ?_
      refine r_iconst dL_change_10 (v := 1) rfl ?_
      refine r_iadd dL_change_11 ?_
      rw [nI_1]
      refine sL_change_12 (Nat.le_refl _) (Nat.le_refl _) (Nat.le_of_ble_eq_true rfl) (tL_low (m := n + 1) (Nat.succ_pos _) (by omega)) ?_
      refine r_istore dL_change_15 (Nat.le_of_ble_eq_true rfl) rfl rfl ?_
      refine r_iload_n dL_change_17 (i := 2) rfl rfl ?_
      refine r_tabIn dL_change_18 (off := 242) (tgt := 260) (by decide) (by decide) (by decide) rfl ?_
      refine r_aload_n dL_change_260 (i := 0) rfl rfl ?_
      refine r_iload dL_change_261 rfl ?_
      refine r_iconst dL_change_263 (v := 2) rfl ?_
      refine sL_change_264 (Nat.le_refl _) (Nat.le_refl _) (Nat.le_of_ble_eq_true rfl) (tL_low (m := 2) (by decide) (by decide)) ?_
      refine r_iload dL_change_267 rfl ?_
      refine r_iload dL_change_269 rfl ?_
      refine r_iload dL_change_271 rfl ?_
      refine r_icmp_ge dL_change_273 (tgt := 295) rfl (fun h273 => absurd h273 (nI_ge hkn (by omega))) (fun _ => ?_)
      refine r_aload_n dL_change_276 (i := 0) rfl rfl ?_
      refine r_iload dL_change_277 rfl ?_
      refine r_iconst dL_change_279 (v := 0) rfl ?_
      refine sL_change_280 (Nat.le_refl _) (Nat.le_refl _) rfl lv15 (Nat.le_of_ble_eq_true rfl) (c_ofs (k := 0) L.2.2 hkn (by decide)) ?_
      refine r_iload dL_change_283 rfl ?_
      refine r_iconst dL_change_285 (v := 4) rfl ?_
      refine r_ishr dL_change_286 ?_
      refine r_iconst dL_change_287 (v := 4) rfl ?_
      refine sL_change_288 (Nat.le_refl _) (Nat.le_refl _) (Nat.le_of_ble_eq_true rfl) (tL_low (m := 4) (by decide) (by decide)) ?_
      refine r_isub dL_change_291 ?_
      refine r_goto dL_change_292 (tgt := 296) rfl ?_
      refine sL_change_296 (Nat.le_refl _) (Nat.le_refl _) rfl lv15 (Nat.le_of_ble_eq_true rfl) (P_steal L hkn (lowN_lt (by decide)) hd) ?_
      exact e_i dL_change_299 rfl (by first | rfl | exact bi_nar _) rfl rfl
  · have e : lowN a (n + 1) = n := by omega
    have t1 : nI n ≤ nI (lowN a (n + 1)) := nI_le (by omega) (by omega)
    unfold Ci
    rcases hK with rfl | rfl
    · refine r_aload_n dL_change_0 (i := 0) rfl rfl ?_
      refine r_iconst dL_change_1 (v := 1) rfl ?_
      refine sL_change_2 (Nat.le_refl _) (Nat.le_refl _) rfl lv15 (Nat.le_of_ble_eq_true rfl) (c_count1 L.2.2) ?_
      refine r_istore dL_change_5 (Nat.le_of_ble_eq_true rfl) rfl rfl ?_
      refine r_iload_n dL_change_7 (i := 3) rfl rfl ?_
      refine r_iload dL_change_8 rfl ?_
      refine r_iconst dL_change_10 (v := 1) rfl ?_
      refine r_iadd dL_change_11 ?_
      rw [nI_1]
      refine sL_change_12 (Nat.le_refl _) (Nat.le_refl _) (Nat.le_of_ble_eq_true rfl) (tL_low (m := n + 1) (Nat.succ_pos _) (by omega)) ?_
      refine r_istore dL_change_15 (Nat.le_of_ble_eq_true rfl) rfl rfl ?_
      refine r_iload_n dL_change_17 (i := 2) rfl rfl ?_
      refine r_tabIn dL_change_18 (off := 242) (tgt := 260) (by decide) (by decide) (by decide) rfl ?_
      refine r_aload_n dL_change_260 (i := 0) rfl rfl ?_
      refine r_iload dL_change_261 rfl ?_
      refine r_iconst dL_change_263 (v := 2) rfl ?_
      refine sL_change_264 (Nat.le_refl _) (Nat.le_refl _) (Nat.le_of_ble_eq_true rfl) (tL_low (m := 2) (by decide) (by decide)) ?_
      refine r_iload dL_change_267 rfl ?_
      refine r_iload dL_change_269 rfl ?_
      refine r_iload dL_change_271 rfl ?_
      refine r_icmp_ge dL_change_273 (tgt := 295) rfl (fun _ => ?_) (fun h273 => absurd (t1) h273)
      refine r_iconst dL_change_295 (v := 1) rfl ?_
      rw [e]
      refine sL_change_296 (Nat.le_refl _) (Nat.le_refl _) rfl lv15 (Nat.le_of_ble_eq_true rfl) (P_steal_e L (b := lowN b 2) (d := lowN (b >>> (4 &&& 31)) 4)) ?_
      exact e_i dL_change_299 rfl rfl rfl rfl
    · refine r_aload_n dL_change_0 (i := 0) rfl rfl ?_
      refine r_iconst dL_change_1 (v := 1) rfl ?_
      refine sL_change_2 (Nat.le_refl _) (Nat.le_refl _) rfl lv15 (Nat.le_of_ble_eq_true rfl) (c_count1 L.2.2) ?_
      refine r_istore dL_change_5 (Nat.le_of_ble_eq_true rfl) rfl rfl ?_
      refine r_iload_n dL_change_7 (i := 3) rfl rfl ?_
      refine r_iload dL_change_8 rfl ?_
      refine r_iconst dL_change_10 (v := 1) rfl ?_
      refine r_iadd dL_change_11 ?_
      rw [nI_1]
      refine sL_change_12 (Nat.le_refl _) (Nat.le_refl _) (Nat.le_of_ble_eq_true rfl) (tL_low (m := n + 1) (Nat.succ_pos _) (by omega)) ?_
      refine r_istore dL_change_15 (Nat.le_of_ble_eq_true rfl) rfl rfl ?_
      refine r_iload_n dL_change_17 (i := 2) rfl rfl ?_
      refine r_tabIn dL_change_18 (off := 242) (tgt := 260) (by decide) (by decide) (by decide) rfl ?_
      refine r_aload_n dL_change_260 (i := 0) rfl rfl ?_
      refine r_iload dL_change_261 rfl ?_
      refine r_iconst dL_change_263 (v := 2) rfl ?_
      refine sL_change_264 (Nat.le_refl _) (Nat.le_refl _) (Nat.le_of_ble_eq_true rfl) (tL_low (m := 2) (by decide) (by decide)) ?_
      refine r_iload dL_change_267 rfl ?_
      refine r_iload dL_change_269 rfl ?_
      refine r_iload dL_change_271 rfl ?_
      refine r_icmp_ge dL_change_273 (tgt := 295) rfl (fun _ => ?_) (fun h273 => absurd (t1) h273)
      refine r_iconst dL_change_295 (v := 1) rfl ?_
      rw [e]
      refine sL_change_296 (Nat.le_refl _) (Nat.le_refl _) rfl lv15 (Nat.le_of_ble_eq_true rfl) (P_steal_e L (b := lowN b 2) (d := lowN (b >>> (4 &&& 31)) 4)) ?_
      exact e_i dL_change_299 rfl rfl rfl rfl
theorem tL_ch_14 (L : LI hp o z n E) : Ci g mL_change [vR (15, 0, 0, 0), vR (16, 0, 0, 0), vI (nI 14), vI a, vI b] hp (oPas n (1 + lowN a 9) (hdr hp o z)).1 (recA (oPas n (1 + lowN a 9) (hdr hp o z)).2 o z (oPas n (1 + lowN a 9) (hdr hp o z)).1) := by
  have h8 := L.n8
  have h9 : lowN a 9 < 9 := lowN_lt (by decide)
  have e1 : (1 : Int32) + nI (lowN a 9) = nI (1 + lowN a 9) := nI_add 1 _
  unfold Ci
  refine r_aload_n dL_change_0 (i := 0) rfl rfl ?_
  refine r_iconst dL_change_1 (v := 1) rfl ?_
  refine sL_change_2 (Nat.le_refl _) (Nat.le_refl _) rfl lv15 (Nat.le_of_ble_eq_true rfl) (c_count1 L.2.2) ?_
  refine r_istore dL_change_5 (Nat.le_of_ble_eq_true rfl) rfl rfl ?_
  refine r_iload_n dL_change_7 (i := 3) rfl rfl ?_
  refine r_iload dL_change_8 rfl ?_
  refine r_iconst dL_change_10 (v := 1) rfl ?_
  refine r_iadd dL_change_11 ?_
  rw [nI_1]
  refine sL_change_12 (Nat.le_refl _) (Nat.le_refl _) (Nat.le_of_ble_eq_true rfl) (tL_low (m := n + 1) (Nat.succ_pos _) (by omega)) ?_
  refine r_istore dL_change_15 (Nat.le_of_ble_eq_true rfl) rfl rfl ?_
  refine r_iload_n dL_change_17 (i := 2) rfl rfl ?_
  refine r_tabIn dL_change_18 (off := 282) (tgt := 300) (by decide) (by decide) (by decide) rfl ?_
  refine r_aload_n dL_change_300 (i := 0) rfl rfl ?_
  refine r_iconst dL_change_301 (v := 1) rfl ?_
  refine r_iload_n dL_change_302 (i := 3) rfl rfl ?_
  refine r_bipush dL_change_303 (v := 9) rfl ?_
  refine sL_change_305 (Nat.le_refl _) (Nat.le_refl _) (Nat.le_of_ble_eq_true rfl) (tL_low (m := 9) (by decide) (by decide)) ?_
  refine r_iadd dL_change_308 ?_
  rw [e1]
  refine sL_change_309 (Nat.le_refl _) (Nat.le_refl _) rfl lv15 (Nat.le_of_ble_eq_true rfl) (P_pass L (by omega) (by omega)) ?_
  exact e_i dL_change_312 rfl (by first | rfl | exact bi_nar _) rfl rfl
theorem tL_ch_15 (hX : GX g) (L : LI hp o z n E) : Ci g mL_change [vR (15, 0, 0, 0), vR (16, 0, 0, 0), vI (nI 15), vI a, vI b] hp (oSet (lowN a 3) (nI (lowN b 9)) (hdr hp o z)).1 (recA (oSet (lowN a 3) (nI (lowN b 9)) (hdr hp o z)).2 o z (oSet (lowN a 3) (nI (lowN b 9)) (hdr hp o z)).1) := by
  have h8 := L.n8
  unfold Ci
  refine r_aload_n dL_change_0 (i := 0) rfl rfl ?_
  refine r_iconst dL_change_1 (v := 1) rfl ?_
  refine sL_change_2 (Nat.le_refl _) (Nat.le_refl _) rfl lv15 (Nat.le_of_ble_eq_true rfl) (c_count1 L.2.2) ?_
  refine r_istore dL_change_5 (Nat.le_of_ble_eq_true rfl) rfl rfl ?_
  refine r_iload_n dL_change_7 (i := 3) rfl rfl ?_
  refine r_iload dL_change_8 rfl ?_
  refine r_iconst dL_change_10 (v := 1) rfl ?_
  refine r_iadd dL_change_11 ?_
  rw [nI_1]
  refine sL_change_12 (Nat.le_refl _) (Nat.le_refl _) (Nat.le_of_ble_eq_true rfl) (tL_low (m := n + 1) (Nat.succ_pos _) (by omega)) ?_
  refine r_istore dL_change_15 (Nat.le_of_ble_eq_true rfl) rfl rfl ?_
  refine r_iload_n dL_change_17 (i := 2) rfl rfl ?_
  refine r_tabIn dL_change_18 (off := 295) (tgt := 313) (by decide) (by decide) (by decide) rfl ?_
  refine r_aload_n dL_change_313 (i := 0) rfl rfl ?_
  refine r_iload_n dL_change_314 (i := 3) rfl rfl ?_
  refine r_iconst dL_change_315 (v := 3) rfl ?_
  refine sL_change_316 (Nat.le_refl _) (Nat.le_refl _) (Nat.le_of_ble_eq_true rfl) (tL_low (m := 3) (by decide) (by decide)) ?_
  refine r_iload dL_change_319 rfl ?_
  refine r_bipush dL_change_321 (v := 9) rfl ?_
  refine sL_change_323 (Nat.le_refl _) (Nat.le_refl _) (Nat.le_of_ble_eq_true rfl) (tL_low (m := 9) (by decide) (by decide)) ?_
  refine sL_change_326 (Nat.le_refl _) (Nat.le_refl _) rfl lv15 (Nat.le_of_ble_eq_true rfl) (P_set hX L (lowN_lt (by decide))) ?_
  exact e_i dL_change_329 rfl (by first | rfl | exact bi_nar _) rfl rfl
theorem tL_ch_16 (L : LI hp o z n E) : Ci g mL_change [vR (15, 0, 0, 0), vR (16, 0, 0, 0), vI (nI 16), vI a, vI b] hp (oSeed (nI (lowN a 10000)) (hdr hp o z)).1 (recA (oSeed (nI (lowN a 10000)) (hdr hp o z)).2 o z (oSeed (nI (lowN a 10000)) (hdr hp o z)).1) := by
  have h8 := L.n8
  have h9 : lowN a 10000 < 10000 := lowN_lt (by decide)
  unfold Ci
  refine r_aload_n dL_change_0 (i := 0) rfl rfl ?_
  refine r_iconst dL_change_1 (v := 1) rfl ?_
  refine sL_change_2 (Nat.le_refl _) (Nat.le_refl _) rfl lv15 (Nat.le_of_ble_eq_true rfl) (c_count1 L.2.2) ?_
  refine r_istore dL_change_5 (Nat.le_of_ble_eq_true rfl) rfl rfl ?_
  refine r_iload_n dL_change_7 (i := 3) rfl rfl ?_
  refine r_iload dL_change_8 rfl ?_
  refine r_iconst dL_change_10 (v := 1) rfl ?_
  refine r_iadd dL_change_11 ?_
  rw [nI_1]
  refine sL_change_12 (Nat.le_refl _) (Nat.le_refl _) (Nat.le_of_ble_eq_true rfl) (tL_low (m := n + 1) (Nat.succ_pos _) (by omega)) ?_
  refine r_istore dL_change_15 (Nat.le_of_ble_eq_true rfl) rfl rfl ?_
  refine r_iload_n dL_change_17 (i := 2) rfl rfl ?_
  refine r_tabOut dL_change_18 (tgt := 330) (by decide) rfl ?_
  refine r_aload_n dL_change_330 (i := 0) rfl rfl ?_
  refine r_iload_n dL_change_331 (i := 3) rfl rfl ?_
  refine r_sipush dL_change_332 (v := 10000) rfl ?_
  refine sL_change_335 (Nat.le_refl _) (Nat.le_refl _) (Nat.le_of_ble_eq_true rfl) (tL_low (m := 10000) (by decide) (by decide)) ?_
  refine sL_change_338 (Nat.le_refl _) (Nat.le_refl _) rfl lv15 (Nat.le_of_ble_eq_true rfl) (P_seed L (nI_pos (by omega)) (nI_le (b := 9999) (by omega) (by decide))) ?_
  exact e_i dL_change_341 rfl (by first | rfl | exact bi_nar _) rfl rfl
end CHG
