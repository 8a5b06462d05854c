section SEC
variable {g : Gh} {hp : HPt} {n j E : Nat}
/-- the old rows at risk among the first r -/
def rkO (hp : HPt) (j : Nat) : Nat → Nat
  | 0 => 0
  | r + 1 => rkO hp j r + (if rkB hp 0 j (r + 1) = true then 1 else 0)
theorem rkO_N : ∀ r, rkN hp 0 j (r + 1) = (if rkB hp 0 j 0 = true then 1 else 0) + rkO hp j r
  | 0 => by simp [rkN, rkO]
  | r + 1 => by
    have ih := rkO_N r
    unfold rkN rkO
    rw [ih]
    omega
theorem rkO_le : ∀ r, rkO hp j r ≤ r
  | 0 => Nat.le_refl _
  | r + 1 => by
    have ih := rkO_le r
    unfold rkO
    split <;> omega
theorem c_old {r m k : Nat} (h : GO hp n E) (hj : j < n) (hm : m < 5) (hM : hp (4, 0, j, 0) 3 = nI m) (hr : r < m) (hk : k < 4) : Ci g mX6_old [vR (15, 0, 0, 0), vI (nI j), vI (nI r), vI (nI k)] hp (figO hp 0 j r k) hp :=
  tX6_old (tX5_figureOfOldVersion (by decide) (by have := h.kept.2; omega) (h.has hj) hm hM hr hk)
theorem c_olde {m : Nat} {w : Int32} (h : GO hp n E) (hj : j < n) (hm : m < 5) (hM : hp (4, 0, j, 0) 3 = nI m) : Ci g mX6_old [vR (15, 0, 0, 0), vI (nI j), vI (nI m), vI w] hp (-1) hp :=
  tX6_old (tX5_figureOfOldVersion_e2 (by decide) (by have := h.kept.2; omega) (h.has hj) (by
    rw [hM]
    have : ¬ nI m < nI m := nI_nlt (Nat.le_refl _) (by omega)
    simp [this]))
theorem c_risk {m : Nat} (h : GO hp n E) (hj : j < n) (hm : m < 5) (hM : hp (4, 0, j, 0) 3 = nI m) : Ci g mX6_atRisk [vR (15, 0, 0, 0), vI (nI j)] hp (nI (rkN hp 0 j (m + 1))) hp :=
  tX6_atRisk (tX5_versionsAtRisk (by decide) (by have := h.kept.2; omega) hm hM (h.has hj))
theorem c_need {m : Nat} (h : GO hp n E) (hj : j < n) (hm : m < 5) (hM : hp (4, 0, j, 0) 3 = nI m) : Ci g mX6_needed [vR (15, 0, 0, 0), vI (nI j)] hp (if hp (4, 0, j, 0) 9 = 0 then (if 0 < rkN hp 0 j (m + 1) then 1 else 2) else 0) hp :=
  tX6_needed (tX5_partsNeeded (by decide) (by have := h.kept.2; omega) hm hM (h.has hj))
theorem c_ifm (h : GO hp n E) (hj : j < n) : Ci g mX6_ifMerged [vR (15, 0, 0, 0), vI (nI j)] hp (if fSlp hp 0 = true then -5 else fMerge hp 0 j) hp := by
  have h8 := h.kept.2
  cases hs : fSlp hp 0
  · exact tX6_ifMerged (tX5_answerOfMerger (by decide) (by omega) (h.has hj) hs)
  · exact tX6_ifMerged (tX5_answerOfMerger_e2 (by decide) (by omega) (h.has hj) hs)
theorem c_oth {b p x val : Nat} (h : GO hp n E) (hj : j < n) (hb : b < 2) (hp1 : p < 256) (hx : x < 256) (ep : hp (6, 0, j, b) 0 = nI p) (hv : val = (p + x) % 256) : Ci g mX6_otherwise [vR (15, 0, 0, 0), vI (nI b), vI (nI j), vI (nI val)] hp (nI x) hp := by
  refine (tX6_otherwise (tX5_otherPartFor (by decide) (by have := h.kept.2; omega) hb (h.half hj hb) (fPt_nI (by omega)))).eq ?_ rfl
  rw [ep, fFM_6 (by omega) (by omega)]
  congr 1
  omega
/-- from the loop's head, over the old versions -/
theorem lL_isSecret {m v val : Nat} {K : Bool} (h : GO hp n E) (hj : j < n) (hW : WT hp) (hm : m < 5) (hmv : m < v) (hv9 : v ≤ 999) (hM : hp (4, 0, j, 0) 3 = nI m) (hV : hp (4, 0, j, 0) 2 = nI v) (hrow : ∀ r, r ≤ m → Hrow hp j r (nI val)) (hK : hp (4, 0, j, 0) 9 = bi K) (htk : ∀ r, r ≤ m → ¬ hp (7, 0, j, 0) r = 0 → ¬ hp (7, 0, j, 1) r = 0 → ¬ hp (4, 0, j, 0) 9 = 0) {P : Pst}
    (hE : ∀ X, V g mL_isSecret 0 0 0 0 609 240 [some (vR (15, 0, 0, 0)), some (vI (nI j)), some (vI (nI val)), some (vI (nI m)), some (vI (nI (rkO hp j m))), some (vI (bi K)), some (vI 1), some (vI (nI (v - m))), some (vI (nI m)), X] [] RP hp P) : ∀ k r, r + k = m → ∀ X, V g mL_isSecret 0 0 0 0 609 102 [some (vR (15, 0, 0, 0)), some (vI (nI j)), some (vI (nI val)), some (vI (nI m)), some (vI (nI (rkO hp j r))), some (vI (bi K)), some (vI 1), some (vI (nI (v - r))), some (vI (nI r)), X] [] RP hp P := by
  intro k
  induction k with
  | zero =>
    intro r hr X
    obtain rfl : r = m := by omega
    refine r_iload dL_isSecret_102 rfl ?_
    refine r_iload_n dL_isSecret_104 (i := 3) rfl rfl ?_
    refine r_icmp_ge dL_isSecret_105 (tgt := 240) rfl (fun _ => ?_) (fun h105 => absurd (Int32.le_refl _) h105)
    exact hE X
  | succ k ih =>
    intro r hr X
    have hrm : r < m := by omega
    obtain ⟨p, q, hp1, hq1, e0, e1, es⟩ := hrow (r + 1) (by omega)
    obtain ⟨A, hA⟩ := wt_b hW (a := (7, 0, j, 0)) (i := r + 1) rfl
    obtain ⟨D, hD⟩ := wt_b hW (a := (7, 0, j, 1)) (i := r + 1) rfl
    have o0 : figO hp 0 j r 0 = nI (v - (r + 1)) := by
      show hp (4, 0, j, 0) 2 - nI (r + 1) = _
      rw [hV, pk_sub (by omega)]
    have o3 : figO hp 0 j r 3 = fTk (bi A) (bi D) := by
      show fTk (hp (7, 0, j, 0) (r + 1)) (hp (7, 0, j, 1) (r + 1)) = _
      rw [hA, hD]
    have ek : A = true → D = true → K = true := fun a d => by
      have t := htk (r + 1) (by omega)
      rw [hA, hD, hK, bi_ne, bi_ne, bi_ne] at t
      exact t a d
    have ec : rkO hp j (r + 1) = rkO hp j r + (if (A == D) = true then 0 else 1) := by
      show rkO hp j r + (if rkB hp 0 j (r + 1) = true then 1 else 0) = _
      unfold rkB
      rw [hA, hD]
      cases A <;> cases D <;> rfl
    have hn := ih (r + 1) (by omega)
    cases A <;> cases D
    · refine r_iload dL_isSecret_102 rfl ?_
      refine r_iload_n dL_isSecret_104 (i := 3) rfl rfl ?_
      refine r_icmp_ge dL_isSecret_105 (tgt := 240) rfl (fun h105 => absurd h105 (nI_ge hrm (by omega))) (fun _ => ?_)
      refine r_iload dL_isSecret_108 rfl ?_
      refine r_if_eq dL_isSecret_110 (tgt := 240) rfl (fun h110 => absurd h110 ((by decide))) (fun _ => ?_)
      refine r_aload_n dL_isSecret_113 (i := 0) rfl rfl ?_
      refine r_iload_n dL_isSecret_114 (i := 1) rfl rfl ?_
      refine r_iload dL_isSecret_115 rfl ?_
      refine r_iconst dL_isSecret_117 (v := 0) rfl ?_
      refine sL_isSecret_118 (Nat.le_refl _) (Nat.le_refl _) rfl lv15 (Nat.le_of_ble_eq_true rfl) ((c_old (k := 0) h hj hm hM hrm (by decide)).eq o0 rfl) ?_
      refine r_iload dL_isSecret_121 rfl ?_
      refine r_icmp_ge dL_isSecret_123 (tgt := 166) rfl (fun h123 => absurd h123 (nI_ge (by omega) (by omega))) (fun _ => ?_)
      refine r_aload_n dL_isSecret_126 (i := 0) rfl rfl ?_
      refine r_iload_n dL_isSecret_127 (i := 1) rfl rfl ?_
      refine r_iload dL_isSecret_128 rfl ?_
      refine r_iconst dL_isSecret_130 (v := 0) rfl ?_
      refine sL_isSecret_131 (Nat.le_refl _) (Nat.le_refl _) rfl lv15 (Nat.le_of_ble_eq_true rfl) ((c_old (k := 0) h hj hm hM hrm (by decide)).eq o0 rfl) ?_
      refine r_if_le dL_isSecret_134 (tgt := 166) rfl (fun h134 => absurd h134 (nI_nle (by omega) (by omega))) (fun _ => ?_)
      refine r_aload_n dL_isSecret_137 (i := 0) rfl rfl ?_
      refine r_iload_n dL_isSecret_138 (i := 1) rfl rfl ?_
      refine r_iload dL_isSecret_139 rfl ?_
      refine r_iconst dL_isSecret_141 (v := 1) rfl ?_
      refine sL_isSecret_142 (Nat.le_refl _) (Nat.le_refl _) rfl lv15 (Nat.le_of_ble_eq_true rfl) ((c_old (k := 1) h hj hm hM hrm (by decide)).eq e0 rfl) ?_
      refine r_aload_n dL_isSecret_145 (i := 0) rfl rfl ?_
      refine r_iload_n dL_isSecret_146 (i := 1) rfl rfl ?_
      refine r_iload dL_isSecret_147 rfl ?_
      refine r_iconst dL_isSecret_149 (v := 2) rfl ?_
      refine sL_isSecret_150 (Nat.le_refl _) (Nat.le_refl _) rfl lv15 (Nat.le_of_ble_eq_true rfl) ((c_old (k := 2) h hj hm hM hrm (by decide)).eq e1 rfl) ?_
      refine r_iadd dL_isSecret_153 ?_
      refine r_sipush dL_isSecret_154 (v := 256) rfl ?_
      refine r_irem dL_isSecret_157 (by decide) ?_
      refine r_iload_n dL_isSecret_158 (i := 2) rfl rfl ?_
      refine r_icmp_ne dL_isSecret_159 (tgt := 166) rfl (fun h159 => absurd ((by rw [nI_add, es]; exact rem6 (by omega))) h159) (fun _ => ?_)
      refine r_iconst dL_isSecret_162 (v := 1) rfl ?_
      refine r_goto dL_isSecret_163 (tgt := 167) rfl ?_
      refine r_istore dL_isSecret_167 (Nat.le_of_ble_eq_true rfl) rfl rfl ?_
      refine r_aload_n dL_isSecret_169 (i := 0) rfl rfl ?_
      refine r_iload_n dL_isSecret_170 (i := 1) rfl rfl ?_
      refine r_iload dL_isSecret_171 rfl ?_
      refine r_iconst dL_isSecret_173 (v := 0) rfl ?_
      refine sL_isSecret_174 (Nat.le_refl _) (Nat.le_refl _) rfl lv15 (Nat.le_of_ble_eq_true rfl) ((c_old (k := 0) h hj hm hM hrm (by decide)).eq o0 rfl) ?_
      refine r_istore dL_isSecret_177 (Nat.le_of_ble_eq_true rfl) rfl rfl ?_
      refine r_aload_n dL_isSecret_179 (i := 0) rfl rfl ?_
      refine r_iload_n dL_isSecret_180 (i := 1) rfl rfl ?_
      refine r_iload dL_isSecret_181 rfl ?_
      refine r_iconst dL_isSecret_183 (v := 3) rfl ?_
      refine sL_isSecret_184 (Nat.le_refl _) (Nat.le_refl _) rfl lv15 (Nat.le_of_ble_eq_true rfl) ((c_old (k := 3) h hj hm hM hrm (by decide)).eq o3 rfl) ?_
      refine r_istore dL_isSecret_187 (Nat.le_of_ble_eq_true rfl) rfl rfl ?_
      refine r_iload dL_isSecret_189 rfl ?_
      refine r_iload dL_isSecret_191 rfl ?_
      refine r_iconst dL_isSecret_193 (v := 1) rfl ?_
      refine r_icmp_eq dL_isSecret_194 (tgt := 203) rfl (fun h194 => absurd h194 ((by decide))) (fun _ => ?_)
      refine r_iload dL_isSecret_197 rfl ?_
      refine r_iconst dL_isSecret_199 (v := 2) rfl ?_
      refine r_icmp_ne dL_isSecret_200 (tgt := 207) rfl (fun _ => ?_) (fun h200 => absurd h200 ((by decide)))
      refine r_iconst dL_isSecret_207 (v := 0) rfl ?_
      refine r_iadd dL_isSecret_208 ?_
      refine r_istore dL_isSecret_209 (Nat.le_of_ble_eq_true rfl) rfl rfl ?_
      refine r_iload dL_isSecret_211 rfl ?_
      refine r_if_eq dL_isSecret_213 (tgt := 231) rfl (fun h213 => absurd h213 ((by decide))) (fun _ => ?_)
      refine r_iload dL_isSecret_216 rfl ?_
      refine r_iconst dL_isSecret_218 (v := 3) rfl ?_
      refine r_icmp_lt dL_isSecret_219 (tgt := 227) rfl (fun _ => ?_) (fun h219 => absurd ((by decide)) h219)
      refine r_iconst dL_isSecret_227 (v := 1) rfl ?_
      refine r_goto dL_isSecret_228 (tgt := 232) rfl ?_
      refine r_istore dL_isSecret_232 (Nat.le_of_ble_eq_true rfl) rfl rfl ?_
      refine r_inc1 dL_isSecret_234 rfl (Nat.le_of_ble_eq_true rfl) rfl ?_
      refine r_goto dL_isSecret_237 (tgt := 102) rfl ?_
      refine V.eqL ?_ (hn (some (vI (fTk (bi false) (bi false)))))
      rw [ec, nI_succ r, ← nI_add]
      rfl
    · refine r_iload dL_isSecret_102 rfl ?_
      refine r_iload_n dL_isSecret_104 (i := 3) rfl rfl ?_
      refine r_icmp_ge dL_isSecret_105 (tgt := 240) rfl (fun h105 => absurd h105 (nI_ge hrm (by omega))) (fun _ => ?_)
      refine r_iload dL_isSecret_108 rfl ?_
      refine r_if_eq dL_isSecret_110 (tgt := 240) rfl (fun h110 => absurd h110 ((by decide))) (fun _ => ?_)
      refine r_aload_n dL_isSecret_113 (i := 0) rfl rfl ?_
      refine r_iload_n dL_isSecret_114 (i := 1) rfl rfl ?_
      refine r_iload dL_isSecret_115 rfl ?_
      refine r_iconst dL_isSecret_117 (v := 0) rfl ?_
      refine sL_isSecret_118 (Nat.le_refl _) (Nat.le_refl _) rfl lv15 (Nat.le_of_ble_eq_true rfl) ((c_old (k := 0) h hj hm hM hrm (by decide)).eq o0 rfl) ?_
      refine r_iload dL_isSecret_121 rfl ?_
      refine r_icmp_ge dL_isSecret_123 (tgt := 166) rfl (fun h123 => absurd h123 (nI_ge (by omega) (by omega))) (fun _ => ?_)
      refine r_aload_n dL_isSecret_126 (i := 0) rfl rfl ?_
      refine r_iload_n dL_isSecret_127 (i := 1) rfl rfl ?_
      refine r_iload dL_isSecret_128 rfl ?_
      refine r_iconst dL_isSecret_130 (v := 0) rfl ?_
      refine sL_isSecret_131 (Nat.le_refl _) (Nat.le_refl _) rfl lv15 (Nat.le_of_ble_eq_true rfl) ((c_old (k := 0) h hj hm hM hrm (by decide)).eq o0 rfl) ?_
      refine r_if_le dL_isSecret_134 (tgt := 166) rfl (fun h134 => absurd h134 (nI_nle (by omega) (by omega))) (fun _ => ?_)
      refine r_aload_n dL_isSecret_137 (i := 0) rfl rfl ?_
      refine r_iload_n dL_isSecret_138 (i := 1) rfl rfl ?_
      refine r_iload dL_isSecret_139 rfl ?_
      refine r_iconst dL_isSecret_141 (v := 1) rfl ?_
      refine sL_isSecret_142 (Nat.le_refl _) (Nat.le_refl _) rfl lv15 (Nat.le_of_ble_eq_true rfl) ((c_old (k := 1) h hj hm hM hrm (by decide)).eq e0 rfl) ?_
      refine r_aload_n dL_isSecret_145 (i := 0) rfl rfl ?_
      refine r_iload_n dL_isSecret_146 (i := 1) rfl rfl ?_
      refine r_iload dL_isSecret_147 rfl ?_
      refine r_iconst dL_isSecret_149 (v := 2) rfl ?_
      refine sL_isSecret_150 (Nat.le_refl _) (Nat.le_refl _) rfl lv15 (Nat.le_of_ble_eq_true rfl) ((c_old (k := 2) h hj hm hM hrm (by decide)).eq e1 rfl) ?_
      refine r_iadd dL_isSecret_153 ?_
      refine r_sipush dL_isSecret_154 (v := 256) rfl ?_
      refine r_irem dL_isSecret_157 (by decide) ?_
      refine r_iload_n dL_isSecret_158 (i := 2) rfl rfl ?_
      refine r_icmp_ne dL_isSecret_159 (tgt := 166) rfl (fun h159 => absurd ((by rw [nI_add, es]; exact rem6 (by omega))) h159) (fun _ => ?_)
      refine r_iconst dL_isSecret_162 (v := 1) rfl ?_
      refine r_goto dL_isSecret_163 (tgt := 167) rfl ?_
      refine r_istore dL_isSecret_167 (Nat.le_of_ble_eq_true rfl) rfl rfl ?_
      refine r_aload_n dL_isSecret_169 (i := 0) rfl rfl ?_
      refine r_iload_n dL_isSecret_170 (i := 1) rfl rfl ?_
      refine r_iload dL_isSecret_171 rfl ?_
      refine r_iconst dL_isSecret_173 (v := 0) rfl ?_
      refine sL_isSecret_174 (Nat.le_refl _) (Nat.le_refl _) rfl lv15 (Nat.le_of_ble_eq_true rfl) ((c_old (k := 0) h hj hm hM hrm (by decide)).eq o0 rfl) ?_
      refine r_istore dL_isSecret_177 (Nat.le_of_ble_eq_true rfl) rfl rfl ?_
      refine r_aload_n dL_isSecret_179 (i := 0) rfl rfl ?_
      refine r_iload_n dL_isSecret_180 (i := 1) rfl rfl ?_
      refine r_iload dL_isSecret_181 rfl ?_
      refine r_iconst dL_isSecret_183 (v := 3) rfl ?_
      refine sL_isSecret_184 (Nat.le_refl _) (Nat.le_refl _) rfl lv15 (Nat.le_of_ble_eq_true rfl) ((c_old (k := 3) h hj hm hM hrm (by decide)).eq o3 rfl) ?_
      refine r_istore dL_isSecret_187 (Nat.le_of_ble_eq_true rfl) rfl rfl ?_
      refine r_iload dL_isSecret_189 rfl ?_
      refine r_iload dL_isSecret_191 rfl ?_
      refine r_iconst dL_isSecret_193 (v := 1) rfl ?_
      refine r_icmp_eq dL_isSecret_194 (tgt := 203) rfl (fun h194 => absurd h194 ((by decide))) (fun _ => ?_)
      refine r_iload dL_isSecret_197 rfl ?_
      refine r_iconst dL_isSecret_199 (v := 2) rfl ?_
      refine r_icmp_ne dL_isSecret_200 (tgt := 207) rfl (fun h200 => absurd ((by decide)) h200) (fun _ => ?_)
      refine r_iconst dL_isSecret_203 (v := 1) rfl ?_
      refine r_goto dL_isSecret_204 (tgt := 208) rfl ?_
      refine r_iadd dL_isSecret_208 ?_
      refine r_istore dL_isSecret_209 (Nat.le_of_ble_eq_true rfl) rfl rfl ?_
      refine r_iload dL_isSecret_211 rfl ?_
      refine r_if_eq dL_isSecret_213 (tgt := 231) rfl (fun h213 => absurd h213 ((by decide))) (fun _ => ?_)
      refine r_iload dL_isSecret_216 rfl ?_
      refine r_iconst dL_isSecret_218 (v := 3) rfl ?_
      refine r_icmp_lt dL_isSecret_219 (tgt := 227) rfl (fun _ => ?_) (fun h219 => absurd ((by decide)) h219)
      refine r_iconst dL_isSecret_227 (v := 1) rfl ?_
      refine r_goto dL_isSecret_228 (tgt := 232) rfl ?_
      refine r_istore dL_isSecret_232 (Nat.le_of_ble_eq_true rfl) rfl rfl ?_
      refine r_inc1 dL_isSecret_234 rfl (Nat.le_of_ble_eq_true rfl) rfl ?_
      refine r_goto dL_isSecret_237 (tgt := 102) rfl ?_
      refine V.eqL ?_ (hn (some (vI (fTk (bi false) (bi true)))))
      rw [ec, nI_succ r, ← nI_add]
      rfl
    · refine r_iload dL_isSecret_102 rfl ?_
      refine r_iload_n dL_isSecret_104 (i := 3) rfl rfl ?_
      refine r_icmp_ge dL_isSecret_105 (tgt := 240) rfl (fun h105 => absurd h105 (nI_ge hrm (by omega))) (fun _ => ?_)
      refine r_iload dL_isSecret_108 rfl ?_
      refine r_if_eq dL_isSecret_110 (tgt := 240) rfl (fun h110 => absurd h110 ((by decide))) (fun _ => ?_)
      refine r_aload_n dL_isSecret_113 (i := 0) rfl rfl ?_
      refine r_iload_n dL_isSecret_114 (i := 1) rfl rfl ?_
      refine r_iload dL_isSecret_115 rfl ?_
      refine r_iconst dL_isSecret_117 (v := 0) rfl ?_
      refine sL_isSecret_118 (Nat.le_refl _) (Nat.le_refl _) rfl lv15 (Nat.le_of_ble_eq_true rfl) ((c_old (k := 0) h hj hm hM hrm (by decide)).eq o0 rfl) ?_
      refine r_iload dL_isSecret_121 rfl ?_
      refine r_icmp_ge dL_isSecret_123 (tgt := 166) rfl (fun h123 => absurd h123 (nI_ge (by omega) (by omega))) (fun _ => ?_)
      refine r_aload_n dL_isSecret_126 (i := 0) rfl rfl ?_
      refine r_iload_n dL_isSecret_127 (i := 1) rfl rfl ?_
      refine r_iload dL_isSecret_128 rfl ?_
      refine r_iconst dL_isSecret_130 (v := 0) rfl ?_
      refine sL_isSecret_131 (Nat.le_refl _) (Nat.le_refl _) rfl lv15 (Nat.le_of_ble_eq_true rfl) ((c_old (k := 0) h hj hm hM hrm (by decide)).eq o0 rfl) ?_
      refine r_if_le dL_isSecret_134 (tgt := 166) rfl (fun h134 => absurd h134 (nI_nle (by omega) (by omega))) (fun _ => ?_)
      refine r_aload_n dL_isSecret_137 (i := 0) rfl rfl ?_
      refine r_iload_n dL_isSecret_138 (i := 1) rfl rfl ?_
      refine r_iload dL_isSecret_139 rfl ?_
      refine r_iconst dL_isSecret_141 (v := 1) rfl ?_
      refine sL_isSecret_142 (Nat.le_refl _) (Nat.le_refl _) rfl lv15 (Nat.le_of_ble_eq_true rfl) ((c_old (k := 1) h hj hm hM hrm (by decide)).eq e0 rfl) ?_
      refine r_aload_n dL_isSecret_145 (i := 0) rfl rfl ?_
      refine r_iload_n dL_isSecret_146 (i := 1) rfl rfl ?_
      refine r_iload dL_isSecret_147 rfl ?_
      refine r_iconst dL_isSecret_149 (v := 2) rfl ?_
      refine sL_isSecret_150 (Nat.le_refl _) (Nat.le_refl _) rfl lv15 (Nat.le_of_ble_eq_true rfl) ((c_old (k := 2) h hj hm hM hrm (by decide)).eq e1 rfl) ?_
      refine r_iadd dL_isSecret_153 ?_
      refine r_sipush dL_isSecret_154 (v := 256) rfl ?_
      refine r_irem dL_isSecret_157 (by decide) ?_
      refine r_iload_n dL_isSecret_158 (i := 2) rfl rfl ?_
      refine r_icmp_ne dL_isSecret_159 (tgt := 166) rfl (fun h159 => absurd ((by rw [nI_add, es]; exact rem6 (by omega))) h159) (fun _ => ?_)
      refine r_iconst dL_isSecret_162 (v := 1) rfl ?_
      refine r_goto dL_isSecret_163 (tgt := 167) rfl ?_
      refine r_istore dL_isSecret_167 (Nat.le_of_ble_eq_true rfl) rfl rfl ?_
      refine r_aload_n dL_isSecret_169 (i := 0) rfl rfl ?_
      refine r_iload_n dL_isSecret_170 (i := 1) rfl rfl ?_
      refine r_iload dL_isSecret_171 rfl ?_
      refine r_iconst dL_isSecret_173 (v := 0) rfl ?_
      refine sL_isSecret_174 (Nat.le_refl _) (Nat.le_refl _) rfl lv15 (Nat.le_of_ble_eq_true rfl) ((c_old (k := 0) h hj hm hM hrm (by decide)).eq o0 rfl) ?_
      refine r_istore dL_isSecret_177 (Nat.le_of_ble_eq_true rfl) rfl rfl ?_
      refine r_aload_n dL_isSecret_179 (i := 0) rfl rfl ?_
      refine r_iload_n dL_isSecret_180 (i := 1) rfl rfl ?_
      refine r_iload dL_isSecret_181 rfl ?_
      refine r_iconst dL_isSecret_183 (v := 3) rfl ?_
      refine sL_isSecret_184 (Nat.le_refl _) (Nat.le_refl _) rfl lv15 (Nat.le_of_ble_eq_true rfl) ((c_old (k := 3) h hj hm hM hrm (by decide)).eq o3 rfl) ?_
      refine r_istore dL_isSecret_187 (Nat.le_of_ble_eq_true rfl) rfl rfl ?_
      refine r_iload dL_isSecret_189 rfl ?_
      refine r_iload dL_isSecret_191 rfl ?_
      refine r_iconst dL_isSecret_193 (v := 1) rfl ?_
      refine r_icmp_eq dL_isSecret_194 (tgt := 203) rfl (fun _ => ?_) (fun h194 => absurd ((by decide)) h194)
      refine r_iconst dL_isSecret_203 (v := 1) rfl ?_
      refine r_goto dL_isSecret_204 (tgt := 208) rfl ?_
      refine r_iadd dL_isSecret_208 ?_
      refine r_istore dL_isSecret_209 (Nat.le_of_ble_eq_true rfl) rfl rfl ?_
      refine r_iload dL_isSecret_211 rfl ?_
      refine r_if_eq dL_isSecret_213 (tgt := 231) rfl (fun h213 => absurd h213 ((by decide))) (fun _ => ?_)
      refine r_iload dL_isSecret_216 rfl ?_
      refine r_iconst dL_isSecret_218 (v := 3) rfl ?_
      refine r_icmp_lt dL_isSecret_219 (tgt := 227) rfl (fun _ => ?_) (fun h219 => absurd ((by decide)) h219)
      refine r_iconst dL_isSecret_227 (v := 1) rfl ?_
      refine r_goto dL_isSecret_228 (tgt := 232) rfl ?_
      refine r_istore dL_isSecret_232 (Nat.le_of_ble_eq_true rfl) rfl rfl ?_
      refine r_inc1 dL_isSecret_234 rfl (Nat.le_of_ble_eq_true rfl) rfl ?_
      refine r_goto dL_isSecret_237 (tgt := 102) rfl ?_
      refine V.eqL ?_ (hn (some (vI (fTk (bi true) (bi false)))))
      rw [ec, nI_succ r, ← nI_add]
      rfl
    · obtain rfl : K = true := ek rfl rfl
      refine r_iload dL_isSecret_102 rfl ?_
      refine r_iload_n dL_isSecret_104 (i := 3) rfl rfl ?_
      refine r_icmp_ge dL_isSecret_105 (tgt := 240) rfl (fun h105 => absurd h105 (nI_ge hrm (by omega))) (fun _ => ?_)
      refine r_iload dL_isSecret_108 rfl ?_
      refine r_if_eq dL_isSecret_110 (tgt := 240) rfl (fun h110 => absurd h110 ((by decide))) (fun _ => ?_)
      refine r_aload_n dL_isSecret_113 (i := 0) rfl rfl ?_
      refine r_iload_n dL_isSecret_114 (i := 1) rfl rfl ?_
      refine r_iload dL_isSecret_115 rfl ?_
      refine r_iconst dL_isSecret_117 (v := 0) rfl ?_
      refine sL_isSecret_118 (Nat.le_refl _) (Nat.le_refl _) rfl lv15 (Nat.le_of_ble_eq_true rfl) ((c_old (k := 0) h hj hm hM hrm (by decide)).eq o0 rfl) ?_
      refine r_iload dL_isSecret_121 rfl ?_
      refine r_icmp_ge dL_isSecret_123 (tgt := 166) rfl (fun h123 => absurd h123 (nI_ge (by omega) (by omega))) (fun _ => ?_)
      refine r_aload_n dL_isSecret_126 (i := 0) rfl rfl ?_
      refine r_iload_n dL_isSecret_127 (i := 1) rfl rfl ?_
      refine r_iload dL_isSecret_128 rfl ?_
      refine r_iconst dL_isSecret_130 (v := 0) rfl ?_
      refine sL_isSecret_131 (Nat.le_refl _) (Nat.le_refl _) rfl lv15 (Nat.le_of_ble_eq_true rfl) ((c_old (k := 0) h hj hm hM hrm (by decide)).eq o0 rfl) ?_
      refine r_if_le dL_isSecret_134 (tgt := 166) rfl (fun h134 => absurd h134 (nI_nle (by omega) (by omega))) (fun _ => ?_)
      refine r_aload_n dL_isSecret_137 (i := 0) rfl rfl ?_
      refine r_iload_n dL_isSecret_138 (i := 1) rfl rfl ?_
      refine r_iload dL_isSecret_139 rfl ?_
      refine r_iconst dL_isSecret_141 (v := 1) rfl ?_
      refine sL_isSecret_142 (Nat.le_refl _) (Nat.le_refl _) rfl lv15 (Nat.le_of_ble_eq_true rfl) ((c_old (k := 1) h hj hm hM hrm (by decide)).eq e0 rfl) ?_
      refine r_aload_n dL_isSecret_145 (i := 0) rfl rfl ?_
      refine r_iload_n dL_isSecret_146 (i := 1) rfl rfl ?_
      refine r_iload dL_isSecret_147 rfl ?_
      refine r_iconst dL_isSecret_149 (v := 2) rfl ?_
      refine sL_isSecret_150 (Nat.le_refl _) (Nat.le_refl _) rfl lv15 (Nat.le_of_ble_eq_true rfl) ((c_old (k := 2) h hj hm hM hrm (by decide)).eq e1 rfl) ?_
      refine r_iadd dL_isSecret_153 ?_
      refine r_sipush dL_isSecret_154 (v := 256) rfl ?_
      refine r_irem dL_isSecret_157 (by decide) ?_
      refine r_iload_n dL_isSecret_158 (i := 2) rfl rfl ?_
      refine r_icmp_ne dL_isSecret_159 (tgt := 166) rfl (fun h159 => absurd ((by rw [nI_add, es]; exact rem6 (by omega))) h159) (fun _ => ?_)
      refine r_iconst dL_isSecret_162 (v := 1) rfl ?_
      refine r_goto dL_isSecret_163 (tgt := 167) rfl ?_
      refine r_istore dL_isSecret_167 (Nat.le_of_ble_eq_true rfl) rfl rfl ?_
      refine r_aload_n dL_isSecret_169 (i := 0) rfl rfl ?_
      refine r_iload_n dL_isSecret_170 (i := 1) rfl rfl ?_
      refine r_iload dL_isSecret_171 rfl ?_
      refine r_iconst dL_isSecret_173 (v := 0) rfl ?_
      refine sL_isSecret_174 (Nat.le_refl _) (Nat.le_refl _) rfl lv15 (Nat.le_of_ble_eq_true rfl) ((c_old (k := 0) h hj hm hM hrm (by decide)).eq o0 rfl) ?_
      refine r_istore dL_isSecret_177 (Nat.le_of_ble_eq_true rfl) rfl rfl ?_
      refine r_aload_n dL_isSecret_179 (i := 0) rfl rfl ?_
      refine r_iload_n dL_isSecret_180 (i := 1) rfl rfl ?_
      refine r_iload dL_isSecret_181 rfl ?_
      refine r_iconst dL_isSecret_183 (v := 3) rfl ?_
      refine sL_isSecret_184 (Nat.le_refl _) (Nat.le_refl _) rfl lv15 (Nat.le_of_ble_eq_true rfl) ((c_old (k := 3) h hj hm hM hrm (by decide)).eq o3 rfl) ?_
      refine r_istore dL_isSecret_187 (Nat.le_of_ble_eq_true rfl) rfl rfl ?_
      refine r_iload dL_isSecret_189 rfl ?_
      refine r_iload dL_isSecret_191 rfl ?_
      refine r_iconst dL_isSecret_193 (v := 1) rfl ?_
      refine r_icmp_eq dL_isSecret_194 (tgt := 203) rfl (fun h194 => absurd h194 ((by decide))) (fun _ => ?_)
      refine r_iload dL_isSecret_197 rfl ?_
      refine r_iconst dL_isSecret_199 (v := 2) rfl ?_
      refine r_icmp_ne dL_isSecret_200 (tgt := 207) rfl (fun _ => ?_) (fun h200 => absurd h200 ((by decide)))
      refine r_iconst dL_isSecret_207 (v := 0) rfl ?_
      refine r_iadd dL_isSecret_208 ?_
      refine r_istore dL_isSecret_209 (Nat.le_of_ble_eq_true rfl) rfl rfl ?_
      refine r_iload dL_isSecret_211 rfl ?_
      refine r_if_eq dL_isSecret_213 (tgt := 231) rfl (fun h213 => absurd h213 ((by decide))) (fun _ => ?_)
      refine r_iload dL_isSecret_216 rfl ?_
      refine r_iconst dL_isSecret_218 (v := 3) rfl ?_
      refine r_icmp_lt dL_isSecret_219 (tgt := 227) rfl (fun h219 => absurd h219 ((by decide))) (fun _ => ?_)
      refine r_iload dL_isSecret_222 rfl ?_
      refine r_if_eq dL_isSecret_224 (tgt := 231) rfl (fun h224 => absurd h224 ((by decide))) (fun _ => ?_)
      refine r_iconst dL_isSecret_227 (v := 1) rfl ?_
      refine r_goto dL_isSecret_228 (tgt := 232) rfl ?_
      refine r_istore dL_isSecret_232 (Nat.le_of_ble_eq_true rfl) rfl rfl ?_
      refine r_inc1 dL_isSecret_234 rfl (Nat.le_of_ble_eq_true rfl) rfl ?_
      refine r_goto dL_isSecret_237 (tgt := 102) rfl ?_
      refine V.eqL ?_ (hn (some (vI (fTk (bi true) (bi true)))))
      rw [ec, nI_succ r, ← nI_add]
      rfl
/-- the end: what a merger would answer, what is open -/
theorem fL_isSecret {y7 : Int32} {l2 l3 l4 l5 l8 l9 : Option Vv} (h : GO hp n E) (hj : j < n) (hW : WT hp) : V g mL_isSecret 0 0 0 0 609 348 [some (vR (15, 0, 0, 0)), some (vI (nI j)), l2, l3, l4, l5, some (vI 1), some (vI y7), l8, l9] [] RP hp (Pi 1 hp) := by
  obtain ⟨a, ha⟩ := wt_b hW (a := (3, 0, 0, 0)) (i := 0) rfl
  obtain ⟨d, hd⟩ := wt_b hW (a := (3, 0, 0, 0)) (i := 1) rfl
  have g4 : figG hp 0 n 4 = bi a := by
    show (if hp (3, 0, 0, 0) 0 = 0 then (0 : Int32) else 1) = _
    rw [ha]
    cases a <;> rfl
  have g5 : figG hp 0 n 5 = bi d := by
    show (if hp (3, 0, 0, 0) 1 = 0 then (0 : Int32) else 1) = _
    rw [hd]
    cases d <;> rfl
  have es : fSlp hp 0 = (a || d) := by
    unfold fSlp
    rw [ha, hd]
    cases a <;> cases d <;> rfl
  have hop : (∃ l, l ≤ 20 ∧ hp (4, 0, j, 0) 5 = nI l) ∧ ∃ w, w < 256 ∧ hp (4, 0, j, 0) 4 = nI w := by
    obtain ⟨m, v, c, -, hS, -⟩ := h
    exact (hS j hj).2.2.2.2.2.1
  obtain ⟨⟨l, hl, l1⟩, w, hw, w1⟩ := hop
  -- behind the merger's answer
  have k2 : ∀ x8 l8', (x8 = if fSlp hp 0 = true then -5 else fMerge hp 0 j) → V g mL_isSecret 0 0 0 0 609 424 [some (vR (15, 0, 0, 0)), some (vI (nI j)), l2, l3, l4, l5, some (vI 1), some (vI y7), some (vI x8), l8'] [] RP hp (Pi 1 hp) := by
    intro x8 l8' hx
    by_cases h0 : l = 0
    · subst h0
      have f2 : figS hp 0 j 2 = -6 := by
        show (if hp (4, 0, j, 0) 5 ≤ 0 then (-6 : Int32) else hp (4, 0, j, 0) 4) = _
        rw [l1]
        rfl
      refine r_iload dL_isSecret_424 rfl ?_
      refine r_if_eq dL_isSecret_426 (tgt := 476) rfl (fun h426 => absurd h426 ((by decide))) (fun _ => ?_)
      refine r_aload_n dL_isSecret_429 (i := 0) rfl rfl ?_
      refine r_iload_n dL_isSecret_430 (i := 1) rfl rfl ?_
      refine sL_isSecret_431 (Nat.le_refl _) (Nat.le_refl _) rfl lv15 (Nat.le_of_ble_eq_true rfl) ((c_ifm h hj).eq hx.symm rfl) ?_
      refine r_iload dL_isSecret_434 rfl ?_
      refine r_icmp_ne dL_isSecret_436 (tgt := 476) rfl (fun h436 => absurd (rfl) h436) (fun _ => ?_)
      refine r_aload_n dL_isSecret_439 (i := 0) rfl rfl ?_
      refine r_iload_n dL_isSecret_440 (i := 1) rfl rfl ?_
      refine r_iconst dL_isSecret_441 (v := 2) rfl ?_
      refine sL_isSecret_442 (Nat.le_refl _) (Nat.le_refl _) rfl lv15 (Nat.le_of_ble_eq_true rfl) ((c_ofs (k := 2) h hj (by decide)).eq f2 rfl) ?_
      refine r_bipush dL_isSecret_445 (v := (-6)) rfl ?_
      refine r_icmp_ne dL_isSecret_447 (tgt := 454) rfl (fun h447 => absurd (rfl) h447) (fun _ => ?_)
      refine r_iconst dL_isSecret_450 (v := 1) rfl ?_
      refine r_goto dL_isSecret_451 (tgt := 455) rfl ?_
      refine r_aload_n dL_isSecret_455 (i := 0) rfl rfl ?_
      refine r_iload_n dL_isSecret_456 (i := 1) rfl rfl ?_
      refine r_iconst dL_isSecret_457 (v := 3) rfl ?_
      refine sL_isSecret_458 (Nat.le_refl _) (Nat.le_refl _) rfl lv15 (Nat.le_of_ble_eq_true rfl) ((c_ofs (k := 3) h hj (by decide)).eq l1 rfl) ?_
      refine r_if_ne dL_isSecret_461 (tgt := 468) rfl (fun h461 => absurd (rfl) h461) (fun _ => ?_)
      refine r_iconst dL_isSecret_464 (v := 1) rfl ?_
      refine r_goto dL_isSecret_465 (tgt := 469) rfl ?_
      refine r_icmp_ne dL_isSecret_469 (tgt := 476) rfl (fun h469 => absurd (rfl) h469) (fun _ => ?_)
      refine r_iconst dL_isSecret_472 (v := 1) rfl ?_
      refine r_goto dL_isSecret_473 (tgt := 477) rfl ?_
      exact e_i dL_isSecret_477 rfl (by first | rfl | exact bi_nar _) rfl rfl
    · have f2 : figS hp 0 j 2 = nI w := by
        show (if hp (4, 0, j, 0) 5 ≤ 0 then (-6 : Int32) else hp (4, 0, j, 0) 4) = _
        rw [l1, if_neg (nI_nle (by omega) (by omega)), w1]
      have n6 : ¬ nI w = -6 := fun q => by
        have q2 := nI_pos (n := w) (by omega)
        rw [q] at q2
        exact q2 (by decide)
      refine r_iload dL_isSecret_424 rfl ?_
      refine r_if_eq dL_isSecret_426 (tgt := 476) rfl (fun h426 => absurd h426 ((by decide))) (fun _ => ?_)
      refine r_aload_n dL_isSecret_429 (i := 0) rfl rfl ?_
      refine r_iload_n dL_isSecret_430 (i := 1) rfl rfl ?_
      refine sL_isSecret_431 (Nat.le_refl _) (Nat.le_refl _) rfl lv15 (Nat.le_of_ble_eq_true rfl) ((c_ifm h hj).eq hx.symm rfl) ?_
      refine r_iload dL_isSecret_434 rfl ?_
      refine r_icmp_ne dL_isSecret_436 (tgt := 476) rfl (fun h436 => absurd (rfl) h436) (fun _ => ?_)
      refine r_aload_n dL_isSecret_439 (i := 0) rfl rfl ?_
      refine r_iload_n dL_isSecret_440 (i := 1) rfl rfl ?_
      refine r_iconst dL_isSecret_441 (v := 2) rfl ?_
      refine sL_isSecret_442 (Nat.le_refl _) (Nat.le_refl _) rfl lv15 (Nat.le_of_ble_eq_true rfl) ((c_ofs (k := 2) h hj (by decide)).eq f2 rfl) ?_
      refine r_bipush dL_isSecret_445 (v := (-6)) rfl ?_
      refine r_icmp_ne dL_isSecret_447 (tgt := 454) rfl (fun _ => ?_) (fun h447 => absurd h447 (n6))
      refine r_iconst dL_isSecret_454 (v := 0) rfl ?_
      refine r_aload_n dL_isSecret_455 (i := 0) rfl rfl ?_
      refine r_iload_n dL_isSecret_456 (i := 1) rfl rfl ?_
      refine r_iconst dL_isSecret_457 (v := 3) rfl ?_
      refine sL_isSecret_458 (Nat.le_refl _) (Nat.le_refl _) rfl lv15 (Nat.le_of_ble_eq_true rfl) ((c_ofs (k := 3) h hj (by decide)).eq l1 rfl) ?_
      refine r_if_ne dL_isSecret_461 (tgt := 468) rfl (fun _ => ?_) (fun h461 => absurd h461 (nI_ne0 (by omega) (by omega)))
      refine r_iconst dL_isSecret_468 (v := 0) rfl ?_
      refine r_icmp_ne dL_isSecret_469 (tgt := 476) rfl (fun h469 => absurd (rfl) h469) (fun _ => ?_)
      refine r_iconst dL_isSecret_472 (v := 1) rfl ?_
      refine r_goto dL_isSecret_473 (tgt := 477) rfl ?_
      exact e_i dL_isSecret_477 rfl (by first | rfl | exact bi_nar _) rfl rfl
  -- whether a store sleeps
  have k1 : V g mL_isSecret 0 0 0 0 609 401 [some (vR (15, 0, 0, 0)), some (vI (nI j)), l2, l3, l4, l5, some (vI 1), some (vI y7), some (vI (fMerge hp 0 j)), l9] [] RP hp (Pi 1 hp) := by
    cases a <;> cases d
    · refine r_aload_n dL_isSecret_401 (i := 0) rfl rfl ?_
      refine r_iconst dL_isSecret_402 (v := 4) rfl ?_
      refine sL_isSecret_403 (Nat.le_refl _) (Nat.le_refl _) rfl lv15 (Nat.le_of_ble_eq_true rfl) ((c_count (k := 4) h (by decide)).eq g4 rfl) ?_
      refine r_aload_n dL_isSecret_406 (i := 0) rfl rfl ?_
      refine r_iconst dL_isSecret_407 (v := 5) rfl ?_
      refine sL_isSecret_408 (Nat.le_refl _) (Nat.le_refl _) rfl lv15 (Nat.le_of_ble_eq_true rfl) ((c_count (k := 5) h (by decide)).eq g5 rfl) ?_
      refine r_iadd dL_isSecret_411 ?_
      refine r_if_le dL_isSecret_412 (tgt := 420) rfl (fun _ => ?_) (fun h412 => absurd ((by decide)) h412)
      refine r_iload dL_isSecret_420 rfl ?_
      refine r_istore dL_isSecret_422 (Nat.le_of_ble_eq_true rfl) rfl rfl ?_
      exact k2 _ _ (by rw [es]; rfl)
    · refine r_aload_n dL_isSecret_401 (i := 0) rfl rfl ?_
      refine r_iconst dL_isSecret_402 (v := 4) rfl ?_
      refine sL_isSecret_403 (Nat.le_refl _) (Nat.le_refl _) rfl lv15 (Nat.le_of_ble_eq_true rfl) ((c_count (k := 4) h (by decide)).eq g4 rfl) ?_
      refine r_aload_n dL_isSecret_406 (i := 0) rfl rfl ?_
      refine r_iconst dL_isSecret_407 (v := 5) rfl ?_
      refine sL_isSecret_408 (Nat.le_refl _) (Nat.le_refl _) rfl lv15 (Nat.le_of_ble_eq_true rfl) ((c_count (k := 5) h (by decide)).eq g5 rfl) ?_
      refine r_iadd dL_isSecret_411 ?_
      refine r_if_le dL_isSecret_412 (tgt := 420) rfl (fun h412 => absurd h412 ((by decide))) (fun _ => ?_)
      refine r_bipush dL_isSecret_415 (v := (-5)) rfl ?_
      refine r_goto dL_isSecret_417 (tgt := 422) rfl ?_
      refine r_istore dL_isSecret_422 (Nat.le_of_ble_eq_true rfl) rfl rfl ?_
      exact k2 _ _ (by rw [es]; rfl)
    · refine r_aload_n dL_isSecret_401 (i := 0) rfl rfl ?_
      refine r_iconst dL_isSecret_402 (v := 4) rfl ?_
      refine sL_isSecret_403 (Nat.le_refl _) (Nat.le_refl _) rfl lv15 (Nat.le_of_ble_eq_true rfl) ((c_count (k := 4) h (by decide)).eq g4 rfl) ?_
      refine r_aload_n dL_isSecret_406 (i := 0) rfl rfl ?_
      refine r_iconst dL_isSecret_407 (v := 5) rfl ?_
      refine sL_isSecret_408 (Nat.le_refl _) (Nat.le_refl _) rfl lv15 (Nat.le_of_ble_eq_true rfl) ((c_count (k := 5) h (by decide)).eq g5 rfl) ?_
      refine r_iadd dL_isSecret_411 ?_
      refine r_if_le dL_isSecret_412 (tgt := 420) rfl (fun h412 => absurd h412 ((by decide))) (fun _ => ?_)
      refine r_bipush dL_isSecret_415 (v := (-5)) rfl ?_
      refine r_goto dL_isSecret_417 (tgt := 422) rfl ?_
      refine r_istore dL_isSecret_422 (Nat.le_of_ble_eq_true rfl) rfl rfl ?_
      exact k2 _ _ (by rw [es]; rfl)
    · refine r_aload_n dL_isSecret_401 (i := 0) rfl rfl ?_
      refine r_iconst dL_isSecret_402 (v := 4) rfl ?_
      refine sL_isSecret_403 (Nat.le_refl _) (Nat.le_refl _) rfl lv15 (Nat.le_of_ble_eq_true rfl) ((c_count (k := 4) h (by decide)).eq g4 rfl) ?_
      refine r_aload_n dL_isSecret_406 (i := 0) rfl rfl ?_
      refine r_iconst dL_isSecret_407 (v := 5) rfl ?_
      refine sL_isSecret_408 (Nat.le_refl _) (Nat.le_refl _) rfl lv15 (Nat.le_of_ble_eq_true rfl) ((c_count (k := 5) h (by decide)).eq g5 rfl) ?_
      refine r_iadd dL_isSecret_411 ?_
      refine r_if_le dL_isSecret_412 (tgt := 420) rfl (fun h412 => absurd h412 ((by decide))) (fun _ => ?_)
      refine r_bipush dL_isSecret_415 (v := (-5)) rfl ?_
      refine r_goto dL_isSecret_417 (tgt := 422) rfl ?_
      refine r_istore dL_isSecret_422 (Nat.le_of_ble_eq_true rfl) rfl rfl ?_
      exact k2 _ _ (by rw [es]; rfl)
  have c1 := tL_isCaught (g := g) (b := 1) h hj (by decide)
  have c0 := tL_isCaught (g := g) (b := 0) h hj (by decide)
  have em : fMerge hp 0 j = if fCatch (hp (5, 0, j, 1 - 1) 3) (hp (5, 0, j, 1 - 1) 4) (hp (6, 0, j, 1) 0) (hp (5, 0, j, 1) 5) (hp (5, 0, j, 1) 2) (hp (5, 0, j, 1) 6) = true then 1000 else if fCatch (hp (5, 0, j, 1 - 0) 3) (hp (5, 0, j, 1 - 0) 4) (hp (6, 0, j, 0) 0) (hp (5, 0, j, 0) 5) (hp (5, 0, j, 0) 2) (hp (5, 0, j, 0) 6) = true then 1001 else jrem (figH hp 0 j 0 6 + figH hp 0 j 1 6) 256 := rfl
  revert c1 c0 em
  generalize fCatch (hp (5, 0, j, 1 - 1) 3) (hp (5, 0, j, 1 - 1) 4) (hp (6, 0, j, 1) 0) (hp (5, 0, j, 1) 5) (hp (5, 0, j, 1) 2) (hp (5, 0, j, 1) 6) = x1
  generalize fCatch (hp (5, 0, j, 1 - 0) 3) (hp (5, 0, j, 1 - 0) 4) (hp (6, 0, j, 0) 0) (hp (5, 0, j, 0) 5) (hp (5, 0, j, 0) 2) (hp (5, 0, j, 0) 6) = x0
  intro c1 c0 em
  cases x1
  · cases x0
    · refine r_aload_n dL_isSecret_348 (i := 0) rfl rfl ?_
      refine r_iconst dL_isSecret_349 (v := 1) rfl ?_
      refine r_iload_n dL_isSecret_350 (i := 1) rfl rfl ?_
      refine sL_isSecret_351 (Nat.le_refl _) (Nat.le_refl _) (Nat.le_of_ble_eq_true rfl) (c1) ?_
      refine r_if_eq dL_isSecret_354 (tgt := 363) rfl (fun _ => ?_) (fun h354 => absurd (rfl) h354)
      refine r_aload_n dL_isSecret_363 (i := 0) rfl rfl ?_
      refine r_iconst dL_isSecret_364 (v := 0) rfl ?_
      refine r_iload_n dL_isSecret_365 (i := 1) rfl rfl ?_
      refine sL_isSecret_366 (Nat.le_refl _) (Nat.le_refl _) (Nat.le_of_ble_eq_true rfl) (c0) ?_
      refine r_if_eq dL_isSecret_369 (tgt := 378) rfl (fun _ => ?_) (fun h369 => absurd (rfl) h369)
      refine r_aload_n dL_isSecret_378 (i := 0) rfl rfl ?_
      refine r_iconst dL_isSecret_379 (v := 0) rfl ?_
      refine r_iload_n dL_isSecret_380 (i := 1) rfl rfl ?_
      refine r_bipush dL_isSecret_381 (v := 6) rfl ?_
      refine sL_isSecret_383 (Nat.le_refl _) (Nat.le_refl _) rfl lv15 (Nat.le_of_ble_eq_true rfl) (c_of (b := 0) (k := 6) h hj (by decide) (by decide)) ?_
      refine r_aload_n dL_isSecret_386 (i := 0) rfl rfl ?_
      refine r_iconst dL_isSecret_387 (v := 1) rfl ?_
      refine r_iload_n dL_isSecret_388 (i := 1) rfl rfl ?_
      refine r_bipush dL_isSecret_389 (v := 6) rfl ?_
      refine sL_isSecret_391 (Nat.le_refl _) (Nat.le_refl _) rfl lv15 (Nat.le_of_ble_eq_true rfl) (c_of (b := 1) (k := 6) h hj (by decide) (by decide)) ?_
      refine r_iadd dL_isSecret_394 ?_
      refine r_sipush dL_isSecret_395 (v := 256) rfl ?_
      refine r_irem dL_isSecret_398 (by decide) ?_
      refine r_istore dL_isSecret_399 (Nat.le_of_ble_eq_true rfl) rfl rfl ?_
      refine V.eqL ?_ k1
      rw [em]
      rfl
    · refine r_aload_n dL_isSecret_348 (i := 0) rfl rfl ?_
      refine r_iconst dL_isSecret_349 (v := 1) rfl ?_
      refine r_iload_n dL_isSecret_350 (i := 1) rfl rfl ?_
      refine sL_isSecret_351 (Nat.le_refl _) (Nat.le_refl _) (Nat.le_of_ble_eq_true rfl) (c1) ?_
      refine r_if_eq dL_isSecret_354 (tgt := 363) rfl (fun _ => ?_) (fun h354 => absurd (rfl) h354)
      refine r_aload_n dL_isSecret_363 (i := 0) rfl rfl ?_
      refine r_iconst dL_isSecret_364 (v := 0) rfl ?_
      refine r_iload_n dL_isSecret_365 (i := 1) rfl rfl ?_
      refine sL_isSecret_366 (Nat.le_refl _) (Nat.le_refl _) (Nat.le_of_ble_eq_true rfl) (c0) ?_
      refine r_if_eq dL_isSecret_369 (tgt := 378) rfl (fun h369 => absurd h369 ((by decide))) (fun _ => ?_)
      refine r_sipush dL_isSecret_372 (v := 1001) rfl ?_
      refine r_goto dL_isSecret_375 (tgt := 399) rfl ?_
      refine r_istore dL_isSecret_399 (Nat.le_of_ble_eq_true rfl) rfl rfl ?_
      refine V.eqL ?_ k1
      rw [em]
      rfl
  · refine r_aload_n dL_isSecret_348 (i := 0) rfl rfl ?_
    refine r_iconst dL_isSecret_349 (v := 1) rfl ?_
    refine r_iload_n dL_isSecret_350 (i := 1) rfl rfl ?_
    refine sL_isSecret_351 (Nat.le_refl _) (Nat.le_refl _) (Nat.le_of_ble_eq_true rfl) (c1) ?_
    refine r_if_eq dL_isSecret_354 (tgt := 363) rfl (fun h354 => absurd h354 ((by decide))) (fun _ => ?_)
    refine r_sipush dL_isSecret_357 (v := 1000) rfl ?_
    refine r_goto dL_isSecret_360 (tgt := 399) rfl ?_
    refine r_istore dL_isSecret_399 (Nat.le_of_ble_eq_true rfl) rfl rfl ?_
    refine V.eqL ?_ k1
    rw [em]
    rfl
theorem tL_isSecret {val : Nat} (h : GO hp n E) (hE : E < 2 ^ 31) (hj : j < n) (hW : WT hp) (hs : hp (16, 0, 0, 0) j = nI val) (hval : val < 256) : Ci g mL_isSecret [vR (15, 0, 0, 0), vI (nI j), vI (nI val)] hp 1 hp := by
  have hSj : ∃ m v c, SG hp j (nI val) m v c E := by
    obtain ⟨m, v, c, -, hS, -⟩ := h
    have q := hS j hj
    rw [hs] at q
    exact ⟨_, _, _, q⟩
  obtain ⟨m, v, c, ⟨hm, hmv, hv9⟩, ⟨a1, a2, a3⟩, a4, a5, a6, a7, ⟨s, s1, s2, s3, s4⟩⟩ := hSj
  obtain ⟨p, q, hp1, hq1, e0, e1, esq⟩ := a4 0 (Nat.zero_le _)
  have hvq : val = (p + q) % 256 := (nI_eq (by omega) (by omega)).mp esq
  obtain ⟨K, hK⟩ := wt_b hW (a := (4, 0, j, 0)) (i := 9) rfl
  have f5 : figS hp 0 j 5 = bi K := by
    show (if hp (4, 0, j, 0) 9 = 0 then (0 : Int32) else 1) = _
    rw [hK]
    cases K <;> rfl
  have hN := rkO_N (hp := hp) (j := j) m
  have hO := rkO_le (hp := hp) (j := j) m
  have hR : (if rkB hp 0 j 0 = true then 1 else 0) ≤ 1 := by split <;> decide
  have e4 : ∀ X, V g mL_isSecret 0 0 0 0 609 240 [some (vR (15, 0, 0, 0)), some (vI (nI j)), some (vI (nI val)), some (vI (nI m)), some (vI (nI (rkO hp j m))), some (vI (bi K)), some (vI 1), some (vI (nI (v - m))), some (vI (nI m)), X] [] RP hp (Pi 1 hp) := by
    intro X
    have cn := c_need (g := g) h hj hm a1
    rw [hK] at cn
    rw [hK, bi_ne] at s4
    cases K
    · by_cases hz : 0 < rkN hp 0 j (m + 1)
      · refine r_iload dL_isSecret_240 rfl ?_
        refine r_if_eq dL_isSecret_242 (tgt := 287) rfl (fun h242 => absurd h242 ((by decide))) (fun _ => ?_)
        refine r_iload_n dL_isSecret_245 (i := 3) rfl rfl ?_
        refine r_iconst dL_isSecret_246 (v := 4) rfl ?_
        refine r_icmp_gt dL_isSecret_247 (tgt := 287) rfl (fun h247 => absurd h247 (nI_nlt (a := 4) (by omega) (by decide))) (fun _ => ?_)
        refine r_aload_n dL_isSecret_250 (i := 0) rfl rfl ?_
        refine r_iload_n dL_isSecret_251 (i := 1) rfl rfl ?_
        refine r_iload_n dL_isSecret_252 (i := 3) rfl rfl ?_
        refine r_iconst dL_isSecret_253 (v := 0) rfl ?_
        refine sL_isSecret_254 (Nat.le_refl _) (Nat.le_refl _) rfl lv15 (Nat.le_of_ble_eq_true rfl) (c_olde h hj hm a1) ?_
        refine r_iconst dL_isSecret_257 (v := (-1)) rfl ?_
        refine r_icmp_ne dL_isSecret_258 (tgt := 287) rfl (fun h258 => absurd (rfl) h258) (fun _ => ?_)
        refine r_aload_n dL_isSecret_261 (i := 0) rfl rfl ?_
        refine r_iload_n dL_isSecret_262 (i := 1) rfl rfl ?_
        refine sL_isSecret_263 (Nat.le_refl _) (Nat.le_refl _) rfl lv15 (Nat.le_of_ble_eq_true rfl) (c_risk h hj hm a1) ?_
        refine r_iload dL_isSecret_266 rfl ?_
        refine r_icmp_lt dL_isSecret_268 (tgt := 287) rfl (fun h268 => absurd h268 (nI_nlt (by omega) (by omega))) (fun _ => ?_)
        refine r_aload_n dL_isSecret_271 (i := 0) rfl rfl ?_
        refine r_iload_n dL_isSecret_272 (i := 1) rfl rfl ?_
        refine sL_isSecret_273 (Nat.le_refl _) (Nat.le_refl _) rfl lv15 (Nat.le_of_ble_eq_true rfl) (c_risk h hj hm a1) ?_
        refine r_iload dL_isSecret_276 rfl ?_
        refine r_iconst dL_isSecret_278 (v := 1) rfl ?_
        refine r_iadd dL_isSecret_279 ?_
        refine r_icmp_gt dL_isSecret_280 (tgt := 287) rfl (fun h280 => absurd h280 ((by rw [nI_1]; exact nI_nlt (by omega) (by omega)))) (fun _ => ?_)
        refine r_iconst dL_isSecret_283 (v := 1) rfl ?_
        refine r_goto dL_isSecret_284 (tgt := 288) rfl ?_
        refine r_istore dL_isSecret_288 (Nat.le_of_ble_eq_true rfl) rfl rfl ?_
        refine r_iload dL_isSecret_290 rfl ?_
        refine r_if_eq dL_isSecret_292 (tgt := 345) rfl (fun h292 => absurd h292 ((by decide))) (fun _ => ?_)
        refine r_aload_n dL_isSecret_295 (i := 0) rfl rfl ?_
        refine r_iload_n dL_isSecret_296 (i := 1) rfl rfl ?_
        refine sL_isSecret_297 (Nat.le_refl _) (Nat.le_refl _) rfl lv15 (Nat.le_of_ble_eq_true rfl) (cn) ?_
        refine r_iload dL_isSecret_300 rfl ?_
        refine r_if_eq dL_isSecret_302 (tgt := 309) rfl (fun _ => ?_) (fun h302 => absurd (rfl) h302)
        refine r_aload_n dL_isSecret_309 (i := 0) rfl rfl ?_
        refine r_iload_n dL_isSecret_310 (i := 1) rfl rfl ?_
        refine sL_isSecret_311 (Nat.le_refl _) (Nat.le_refl _) rfl lv15 (Nat.le_of_ble_eq_true rfl) (c_risk h hj hm a1) ?_
        refine r_if_le dL_isSecret_314 (tgt := 321) rfl (fun h314 => absurd h314 (nI_nle hz (by omega))) (fun _ => ?_)
        refine r_iconst dL_isSecret_317 (v := 1) rfl ?_
        refine r_goto dL_isSecret_318 (tgt := 322) rfl ?_
        refine r_icmp_ne dL_isSecret_322 (tgt := 345) rfl (fun h322 => absurd ((by rw [if_pos (show bi false = 0 from rfl), if_pos hz])) h322) (fun _ => ?_)
        refine r_iload dL_isSecret_325 rfl ?_
        refine r_if_eq dL_isSecret_327 (tgt := 341) rfl (fun _ => ?_) (fun h327 => absurd (rfl) h327)
        refine r_iconst dL_isSecret_341 (v := 1) rfl ?_
        refine r_goto dL_isSecret_342 (tgt := 346) rfl ?_
        refine r_istore dL_isSecret_346 (Nat.le_of_ble_eq_true rfl) rfl rfl ?_
        exact fL_isSecret h hj hW
      · refine r_iload dL_isSecret_240 rfl ?_
        refine r_if_eq dL_isSecret_242 (tgt := 287) rfl (fun h242 => absurd h242 ((by decide))) (fun _ => ?_)
        refine r_iload_n dL_isSecret_245 (i := 3) rfl rfl ?_
        refine r_iconst dL_isSecret_246 (v := 4) rfl ?_
        refine r_icmp_gt dL_isSecret_247 (tgt := 287) rfl (fun h247 => absurd h247 (nI_nlt (a := 4) (by omega) (by decide))) (fun _ => ?_)
        refine r_aload_n dL_isSecret_250 (i := 0) rfl rfl ?_
        refine r_iload_n dL_isSecret_251 (i := 1) rfl rfl ?_
        refine r_iload_n dL_isSecret_252 (i := 3) rfl rfl ?_
        refine r_iconst dL_isSecret_253 (v := 0) rfl ?_
        refine sL_isSecret_254 (Nat.le_refl _) (Nat.le_refl _) rfl lv15 (Nat.le_of_ble_eq_true rfl) (c_olde h hj hm a1) ?_
        refine r_iconst dL_isSecret_257 (v := (-1)) rfl ?_
        refine r_icmp_ne dL_isSecret_258 (tgt := 287) rfl (fun h258 => absurd (rfl) h258) (fun _ => ?_)
        refine r_aload_n dL_isSecret_261 (i := 0) rfl rfl ?_
        refine r_iload_n dL_isSecret_262 (i := 1) rfl rfl ?_
        refine sL_isSecret_263 (Nat.le_refl _) (Nat.le_refl _) rfl lv15 (Nat.le_of_ble_eq_true rfl) (c_risk h hj hm a1) ?_
        refine r_iload dL_isSecret_266 rfl ?_
        refine r_icmp_lt dL_isSecret_268 (tgt := 287) rfl (fun h268 => absurd h268 (nI_nlt (by omega) (by omega))) (fun _ => ?_)
        refine r_aload_n dL_isSecret_271 (i := 0) rfl rfl ?_
        refine r_iload_n dL_isSecret_272 (i := 1) rfl rfl ?_
        refine sL_isSecret_273 (Nat.le_refl _) (Nat.le_refl _) rfl lv15 (Nat.le_of_ble_eq_true rfl) (c_risk h hj hm a1) ?_
        refine r_iload dL_isSecret_276 rfl ?_
        refine r_iconst dL_isSecret_278 (v := 1) rfl ?_
        refine r_iadd dL_isSecret_279 ?_
        refine r_icmp_gt dL_isSecret_280 (tgt := 287) rfl (fun h280 => absurd h280 ((by rw [nI_1]; exact nI_nlt (by omega) (by omega)))) (fun _ => ?_)
        refine r_iconst dL_isSecret_283 (v := 1) rfl ?_
        refine r_goto dL_isSecret_284 (tgt := 288) rfl ?_
        refine r_istore dL_isSecret_288 (Nat.le_of_ble_eq_true rfl) rfl rfl ?_
        refine r_iload dL_isSecret_290 rfl ?_
        refine r_if_eq dL_isSecret_292 (tgt := 345) rfl (fun h292 => absurd h292 ((by decide))) (fun _ => ?_)
        refine r_aload_n dL_isSecret_295 (i := 0) rfl rfl ?_
        refine r_iload_n dL_isSecret_296 (i := 1) rfl rfl ?_
        refine sL_isSecret_297 (Nat.le_refl _) (Nat.le_refl _) rfl lv15 (Nat.le_of_ble_eq_true rfl) (cn) ?_
        refine r_iload dL_isSecret_300 rfl ?_
        refine r_if_eq dL_isSecret_302 (tgt := 309) rfl (fun _ => ?_) (fun h302 => absurd (rfl) h302)
        refine r_aload_n dL_isSecret_309 (i := 0) rfl rfl ?_
        refine r_iload_n dL_isSecret_310 (i := 1) rfl rfl ?_
        refine sL_isSecret_311 (Nat.le_refl _) (Nat.le_refl _) rfl lv15 (Nat.le_of_ble_eq_true rfl) (c_risk h hj hm a1) ?_
        refine r_if_le dL_isSecret_314 (tgt := 321) rfl (fun _ => ?_) (fun h314 => absurd ((by rw [show rkN hp 0 j (m + 1) = 0 by omega]; decide)) h314)
        refine r_iconst dL_isSecret_321 (v := 2) rfl ?_
        refine r_icmp_ne dL_isSecret_322 (tgt := 345) rfl (fun h322 => absurd ((by rw [if_pos (show bi false = 0 from rfl), if_neg hz])) h322) (fun _ => ?_)
        refine r_iload dL_isSecret_325 rfl ?_
        refine r_if_eq dL_isSecret_327 (tgt := 341) rfl (fun _ => ?_) (fun h327 => absurd (rfl) h327)
        refine r_iconst dL_isSecret_341 (v := 1) rfl ?_
        refine r_goto dL_isSecret_342 (tgt := 346) rfl ?_
        refine r_istore dL_isSecret_346 (Nat.le_of_ble_eq_true rfl) rfl rfl ?_
        exact fL_isSecret h hj hW
    · have s5 := s4 rfl
      refine r_iload dL_isSecret_240 rfl ?_
      refine r_if_eq dL_isSecret_242 (tgt := 287) rfl (fun h242 => absurd h242 ((by decide))) (fun _ => ?_)
      refine r_iload_n dL_isSecret_245 (i := 3) rfl rfl ?_
      refine r_iconst dL_isSecret_246 (v := 4) rfl ?_
      refine r_icmp_gt dL_isSecret_247 (tgt := 287) rfl (fun h247 => absurd h247 (nI_nlt (a := 4) (by omega) (by decide))) (fun _ => ?_)
      refine r_aload_n dL_isSecret_250 (i := 0) rfl rfl ?_
      refine r_iload_n dL_isSecret_251 (i := 1) rfl rfl ?_
      refine r_iload_n dL_isSecret_252 (i := 3) rfl rfl ?_
      refine r_iconst dL_isSecret_253 (v := 0) rfl ?_
      refine sL_isSecret_254 (Nat.le_refl _) (Nat.le_refl _) rfl lv15 (Nat.le_of_ble_eq_true rfl) (c_olde h hj hm a1) ?_
      refine r_iconst dL_isSecret_257 (v := (-1)) rfl ?_
      refine r_icmp_ne dL_isSecret_258 (tgt := 287) rfl (fun h258 => absurd (rfl) h258) (fun _ => ?_)
      refine r_aload_n dL_isSecret_261 (i := 0) rfl rfl ?_
      refine r_iload_n dL_isSecret_262 (i := 1) rfl rfl ?_
      refine sL_isSecret_263 (Nat.le_refl _) (Nat.le_refl _) rfl lv15 (Nat.le_of_ble_eq_true rfl) (c_risk h hj hm a1) ?_
      refine r_iload dL_isSecret_266 rfl ?_
      refine r_icmp_lt dL_isSecret_268 (tgt := 287) rfl (fun h268 => absurd h268 (nI_nlt (by omega) (by omega))) (fun _ => ?_)
      refine r_aload_n dL_isSecret_271 (i := 0) rfl rfl ?_
      refine r_iload_n dL_isSecret_272 (i := 1) rfl rfl ?_
      refine sL_isSecret_273 (Nat.le_refl _) (Nat.le_refl _) rfl lv15 (Nat.le_of_ble_eq_true rfl) (c_risk h hj hm a1) ?_
      refine r_iload dL_isSecret_276 rfl ?_
      refine r_iconst dL_isSecret_278 (v := 1) rfl ?_
      refine r_iadd dL_isSecret_279 ?_
      refine r_icmp_gt dL_isSecret_280 (tgt := 287) rfl (fun h280 => absurd h280 ((by rw [nI_1]; exact nI_nlt (by omega) (by omega)))) (fun _ => ?_)
      refine r_iconst dL_isSecret_283 (v := 1) rfl ?_
      refine r_goto dL_isSecret_284 (tgt := 288) rfl ?_
      refine r_istore dL_isSecret_288 (Nat.le_of_ble_eq_true rfl) rfl rfl ?_
      refine r_iload dL_isSecret_290 rfl ?_
      refine r_if_eq dL_isSecret_292 (tgt := 345) rfl (fun h292 => absurd h292 ((by decide))) (fun _ => ?_)
      refine r_aload_n dL_isSecret_295 (i := 0) rfl rfl ?_
      refine r_iload_n dL_isSecret_296 (i := 1) rfl rfl ?_
      refine sL_isSecret_297 (Nat.le_refl _) (Nat.le_refl _) rfl lv15 (Nat.le_of_ble_eq_true rfl) (cn) ?_
      refine r_iload dL_isSecret_300 rfl ?_
      refine r_if_eq dL_isSecret_302 (tgt := 309) rfl (fun h302 => absurd h302 ((by decide))) (fun _ => ?_)
      refine r_iconst dL_isSecret_305 (v := 0) rfl ?_
      refine r_goto dL_isSecret_306 (tgt := 322) rfl ?_
      refine r_icmp_ne dL_isSecret_322 (tgt := 345) rfl (fun h322 => absurd ((by rw [if_neg (by decide)])) h322) (fun _ => ?_)
      refine r_iload dL_isSecret_325 rfl ?_
      refine r_if_eq dL_isSecret_327 (tgt := 341) rfl (fun h327 => absurd h327 ((by decide))) (fun _ => ?_)
      refine r_aload_n dL_isSecret_330 (i := 0) rfl rfl ?_
      refine r_iload_n dL_isSecret_331 (i := 1) rfl rfl ?_
      refine r_bipush dL_isSecret_332 (v := 6) rfl ?_
      refine sL_isSecret_334 (Nat.le_refl _) (Nat.le_refl _) rfl lv15 (Nat.le_of_ble_eq_true rfl) ((c_ofs (k := 6) h hj (by decide)).eq s2 rfl) ?_
      refine r_iconst dL_isSecret_337 (v := 1) rfl ?_
      refine r_icmp_le dL_isSecret_338 (tgt := 345) rfl (fun h338 => absurd h338 (nI_ge (a := 1) s5 (by omega))) (fun _ => ?_)
      refine r_iconst dL_isSecret_341 (v := 1) rfl ?_
      refine r_goto dL_isSecret_342 (tgt := 346) rfl ?_
      refine r_istore dL_isSecret_346 (Nat.le_of_ble_eq_true rfl) rfl rfl ?_
      exact fL_isSecret h hj hW
  have lp := lL_isSecret (g := g) h hj hW hm hmv hv9 a1 a2 a4 hK (fun r hr => (s3 r hr).2) e4 m 0 (by omega) none
  unfold Ci
  cases K
  · refine r_aload_n dL_isSecret_0 (i := 0) rfl rfl ?_
    refine r_iload_n dL_isSecret_1 (i := 1) rfl rfl ?_
    refine r_iconst dL_isSecret_2 (v := 1) rfl ?_
    refine sL_isSecret_3 (Nat.le_refl _) (Nat.le_refl _) rfl lv15 (Nat.le_of_ble_eq_true rfl) ((c_ofs (k := 1) h hj (by decide)).eq a1 rfl) ?_
    refine r_istore_n dL_isSecret_6 (i := 3) rfl (Nat.le_of_ble_eq_true rfl) rfl rfl ?_
    refine r_iconst dL_isSecret_7 (v := 0) rfl ?_
    refine r_istore dL_isSecret_8 (Nat.le_of_ble_eq_true rfl) rfl rfl ?_
    refine r_aload_n dL_isSecret_10 (i := 0) rfl rfl ?_
    refine r_iload_n dL_isSecret_11 (i := 1) rfl rfl ?_
    refine r_iconst dL_isSecret_12 (v := 5) rfl ?_
    refine sL_isSecret_13 (Nat.le_refl _) (Nat.le_refl _) rfl lv15 (Nat.le_of_ble_eq_true rfl) ((c_ofs (k := 5) h hj (by decide)).eq f5 rfl) ?_
    refine r_iconst dL_isSecret_16 (v := 1) rfl ?_
    refine r_icmp_ne dL_isSecret_17 (tgt := 24) rfl (fun _ => ?_) (fun h17 => absurd h17 ((by decide)))
    refine r_iconst dL_isSecret_24 (v := 0) rfl ?_
    refine r_istore dL_isSecret_25 (Nat.le_of_ble_eq_true rfl) rfl rfl ?_
    refine r_aload_n dL_isSecret_27 (i := 0) rfl rfl ?_
    refine r_iconst dL_isSecret_28 (v := 0) rfl ?_
    refine r_iload_n dL_isSecret_29 (i := 1) rfl rfl ?_
    refine r_iconst dL_isSecret_30 (v := 0) rfl ?_
    refine sL_isSecret_31 (Nat.le_refl _) (Nat.le_refl _) rfl lv15 (Nat.le_of_ble_eq_true rfl) ((c_of (b := 0) (k := 0) h hj (by decide) (by decide)).eq e0 rfl) ?_
    refine r_aload_n dL_isSecret_34 (i := 0) rfl rfl ?_
    refine r_iconst dL_isSecret_35 (v := 1) rfl ?_
    refine r_iload_n dL_isSecret_36 (i := 1) rfl rfl ?_
    refine r_iconst dL_isSecret_37 (v := 0) rfl ?_
    refine sL_isSecret_38 (Nat.le_refl _) (Nat.le_refl _) rfl lv15 (Nat.le_of_ble_eq_true rfl) ((c_of (b := 1) (k := 0) h hj (by decide) (by decide)).eq e1 rfl) ?_
    refine r_iadd dL_isSecret_41 ?_
    refine r_sipush dL_isSecret_42 (v := 256) rfl ?_
    refine r_irem dL_isSecret_45 (by decide) ?_
    refine r_iload_n dL_isSecret_46 (i := 2) rfl rfl ?_
    refine r_icmp_ne dL_isSecret_47 (tgt := 88) rfl (fun h47 => absurd ((by rw [nI_add, hvq]; exact rem6 (by omega))) h47) (fun _ => ?_)
    refine r_aload_n dL_isSecret_50 (i := 0) rfl rfl ?_
    refine r_iconst dL_isSecret_51 (v := 0) rfl ?_
    refine r_iload_n dL_isSecret_52 (i := 1) rfl rfl ?_
    refine r_iload_n dL_isSecret_53 (i := 2) rfl rfl ?_
    refine sL_isSecret_54 (Nat.le_refl _) (Nat.le_refl _) rfl lv15 (Nat.le_of_ble_eq_true rfl) (c_oth (b := 0) h hj (by decide) hp1 hq1 e0 hvq) ?_
    refine r_aload_n dL_isSecret_57 (i := 0) rfl rfl ?_
    refine r_iconst dL_isSecret_58 (v := 1) rfl ?_
    refine r_iload_n dL_isSecret_59 (i := 1) rfl rfl ?_
    refine r_iconst dL_isSecret_60 (v := 0) rfl ?_
    refine sL_isSecret_61 (Nat.le_refl _) (Nat.le_refl _) rfl lv15 (Nat.le_of_ble_eq_true rfl) ((c_of (b := 1) (k := 0) h hj (by decide) (by decide)).eq e1 rfl) ?_
    refine r_icmp_ne dL_isSecret_64 (tgt := 88) rfl (fun h64 => absurd (rfl) h64) (fun _ => ?_)
    refine r_aload_n dL_isSecret_67 (i := 0) rfl rfl ?_
    refine r_iconst dL_isSecret_68 (v := 1) rfl ?_
    refine r_iload_n dL_isSecret_69 (i := 1) rfl rfl ?_
    refine r_iload_n dL_isSecret_70 (i := 2) rfl rfl ?_
    refine sL_isSecret_71 (Nat.le_refl _) (Nat.le_refl _) rfl lv15 (Nat.le_of_ble_eq_true rfl) (c_oth (b := 1) h hj (by decide) hq1 hp1 e1 (by omega)) ?_
    refine r_aload_n dL_isSecret_74 (i := 0) rfl rfl ?_
    refine r_iconst dL_isSecret_75 (v := 0) rfl ?_
    refine r_iload_n dL_isSecret_76 (i := 1) rfl rfl ?_
    refine r_iconst dL_isSecret_77 (v := 0) rfl ?_
    refine sL_isSecret_78 (Nat.le_refl _) (Nat.le_refl _) rfl lv15 (Nat.le_of_ble_eq_true rfl) ((c_of (b := 0) (k := 0) h hj (by decide) (by decide)).eq e0 rfl) ?_
    refine r_icmp_ne dL_isSecret_81 (tgt := 88) rfl (fun h81 => absurd (rfl) h81) (fun _ => ?_)
    refine r_iconst dL_isSecret_84 (v := 1) rfl ?_
    refine r_goto dL_isSecret_85 (tgt := 89) rfl ?_
    refine r_istore dL_isSecret_89 (Nat.le_of_ble_eq_true rfl) rfl rfl ?_
    refine r_aload_n dL_isSecret_91 (i := 0) rfl rfl ?_
    refine r_iload_n dL_isSecret_92 (i := 1) rfl rfl ?_
    refine r_iconst dL_isSecret_93 (v := 0) rfl ?_
    refine sL_isSecret_94 (Nat.le_refl _) (Nat.le_refl _) rfl lv15 (Nat.le_of_ble_eq_true rfl) ((c_ofs (k := 0) h hj (by decide)).eq a2 rfl) ?_
    refine r_istore dL_isSecret_97 (Nat.le_of_ble_eq_true rfl) rfl rfl ?_
    refine r_iconst dL_isSecret_99 (v := 0) rfl ?_
    refine r_istore dL_isSecret_100 (Nat.le_of_ble_eq_true rfl) rfl rfl ?_
    exact lp
  · refine r_aload_n dL_isSecret_0 (i := 0) rfl rfl ?_
    refine r_iload_n dL_isSecret_1 (i := 1) rfl rfl ?_
    refine r_iconst dL_isSecret_2 (v := 1) rfl ?_
    refine sL_isSecret_3 (Nat.le_refl _) (Nat.le_refl _) rfl lv15 (Nat.le_of_ble_eq_true rfl) ((c_ofs (k := 1) h hj (by decide)).eq a1 rfl) ?_
    refine r_istore_n dL_isSecret_6 (i := 3) rfl (Nat.le_of_ble_eq_true rfl) rfl rfl ?_
    refine r_iconst dL_isSecret_7 (v := 0) rfl ?_
    refine r_istore dL_isSecret_8 (Nat.le_of_ble_eq_true rfl) rfl rfl ?_
    refine r_aload_n dL_isSecret_10 (i := 0) rfl rfl ?_
    refine r_iload_n dL_isSecret_11 (i := 1) rfl rfl ?_
    refine r_iconst dL_isSecret_12 (v := 5) rfl ?_
    refine sL_isSecret_13 (Nat.le_refl _) (Nat.le_refl _) rfl lv15 (Nat.le_of_ble_eq_true rfl) ((c_ofs (k := 5) h hj (by decide)).eq f5 rfl) ?_
    refine r_iconst dL_isSecret_16 (v := 1) rfl ?_
    refine r_icmp_ne dL_isSecret_17 (tgt := 24) rfl (fun h17 => absurd (rfl) h17) (fun _ => ?_)
    refine r_iconst dL_isSecret_20 (v := 1) rfl ?_
    refine r_goto dL_isSecret_21 (tgt := 25) rfl ?_
    refine r_istore dL_isSecret_25 (Nat.le_of_ble_eq_true rfl) rfl rfl ?_
    refine r_aload_n dL_isSecret_27 (i := 0) rfl rfl ?_
    refine r_iconst dL_isSecret_28 (v := 0) rfl ?_
    refine r_iload_n dL_isSecret_29 (i := 1) rfl rfl ?_
    refine r_iconst dL_isSecret_30 (v := 0) rfl ?_
    refine sL_isSecret_31 (Nat.le_refl _) (Nat.le_refl _) rfl lv15 (Nat.le_of_ble_eq_true rfl) ((c_of (b := 0) (k := 0) h hj (by decide) (by decide)).eq e0 rfl) ?_
    refine r_aload_n dL_isSecret_34 (i := 0) rfl rfl ?_
    refine r_iconst dL_isSecret_35 (v := 1) rfl ?_
    refine r_iload_n dL_isSecret_36 (i := 1) rfl rfl ?_
    refine r_iconst dL_isSecret_37 (v := 0) rfl ?_
    refine sL_isSecret_38 (Nat.le_refl _) (Nat.le_refl _) rfl lv15 (Nat.le_of_ble_eq_true rfl) ((c_of (b := 1) (k := 0) h hj (by decide) (by decide)).eq e1 rfl) ?_
    refine r_iadd dL_isSecret_41 ?_
    refine r_sipush dL_isSecret_42 (v := 256) rfl ?_
    refine r_irem dL_isSecret_45 (by decide) ?_
    refine r_iload_n dL_isSecret_46 (i := 2) rfl rfl ?_
    refine r_icmp_ne dL_isSecret_47 (tgt := 88) rfl (fun h47 => absurd ((by rw [nI_add, hvq]; exact rem6 (by omega))) h47) (fun _ => ?_)
    refine r_aload_n dL_isSecret_50 (i := 0) rfl rfl ?_
    refine r_iconst dL_isSecret_51 (v := 0) rfl ?_
    refine r_iload_n dL_isSecret_52 (i := 1) rfl rfl ?_
    refine r_iload_n dL_isSecret_53 (i := 2) rfl rfl ?_
    refine sL_isSecret_54 (Nat.le_refl _) (Nat.le_refl _) rfl lv15 (Nat.le_of_ble_eq_true rfl) (c_oth (b := 0) h hj (by decide) hp1 hq1 e0 hvq) ?_
    refine r_aload_n dL_isSecret_57 (i := 0) rfl rfl ?_
    refine r_iconst dL_isSecret_58 (v := 1) rfl ?_
    refine r_iload_n dL_isSecret_59 (i := 1) rfl rfl ?_
    refine r_iconst dL_isSecret_60 (v := 0) rfl ?_
    refine sL_isSecret_61 (Nat.le_refl _) (Nat.le_refl _) rfl lv15 (Nat.le_of_ble_eq_true rfl) ((c_of (b := 1) (k := 0) h hj (by decide) (by decide)).eq e1 rfl) ?_
    refine r_icmp_ne dL_isSecret_64 (tgt := 88) rfl (fun h64 => absurd (rfl) h64) (fun _ => ?_)
    refine r_aload_n dL_isSecret_67 (i := 0) rfl rfl ?_
    refine r_iconst dL_isSecret_68 (v := 1) rfl ?_
    refine r_iload_n dL_isSecret_69 (i := 1) rfl rfl ?_
    refine r_iload_n dL_isSecret_70 (i := 2) rfl rfl ?_
    refine sL_isSecret_71 (Nat.le_refl _) (Nat.le_refl _) rfl lv15 (Nat.le_of_ble_eq_true rfl) (c_oth (b := 1) h hj (by decide) hq1 hp1 e1 (by omega)) ?_
    refine r_aload_n dL_isSecret_74 (i := 0) rfl rfl ?_
    refine r_iconst dL_isSecret_75 (v := 0) rfl ?_
    refine r_iload_n dL_isSecret_76 (i := 1) rfl rfl ?_
    refine r_iconst dL_isSecret_77 (v := 0) rfl ?_
    refine sL_isSecret_78 (Nat.le_refl _) (Nat.le_refl _) rfl lv15 (Nat.le_of_ble_eq_true rfl) ((c_of (b := 0) (k := 0) h hj (by decide) (by decide)).eq e0 rfl) ?_
    refine r_icmp_ne dL_isSecret_81 (tgt := 88) rfl (fun h81 => absurd (rfl) h81) (fun _ => ?_)
    refine r_iconst dL_isSecret_84 (v := 1) rfl ?_
    refine r_goto dL_isSecret_85 (tgt := 89) rfl ?_
    refine r_istore dL_isSecret_89 (Nat.le_of_ble_eq_true rfl) rfl rfl ?_
    refine r_aload_n dL_isSecret_91 (i := 0) rfl rfl ?_
    refine r_iload_n dL_isSecret_92 (i := 1) rfl rfl ?_
    refine r_iconst dL_isSecret_93 (v := 0) rfl ?_
    refine sL_isSecret_94 (Nat.le_refl _) (Nat.le_refl _) rfl lv15 (Nat.le_of_ble_eq_true rfl) ((c_ofs (k := 0) h hj (by decide)).eq a2 rfl) ?_
    refine r_istore dL_isSecret_97 (Nat.le_of_ble_eq_true rfl) rfl rfl ?_
    refine r_iconst dL_isSecret_99 (v := 0) rfl ?_
    refine r_istore dL_isSecret_100 (Nat.le_of_ble_eq_true rfl) rfl rfl ?_
    exact lp
end SEC
