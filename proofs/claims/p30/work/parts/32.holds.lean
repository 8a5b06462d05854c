def bs (q : Nat → Bool) : Nat → Nat
  | 0 => 0
  | i + 1 => bs q i + if q i = true then 2 ^ i else 0
theorem bs_lt {q : Nat → Bool} : ∀ n, bs q n < 2 ^ n
  | 0 => Nat.one_pos
  | n + 1 => by
    have ih := bs_lt (q := q) n
    unfold bs
    rw [Nat.pow_succ]
    split <;> omega
theorem bs_bit {q : Nat → Bool} : ∀ n k, k < n → bs q n / 2 ^ k % 2 = if q k = true then 1 else 0
  | 0, k, h => absurd h (Nat.not_lt_zero _)
  | n + 1, k, h => by
    have hl := bs_lt (q := q) n
    have hp2 := Nat.two_pow_pos n
    have hk2 := Nat.two_pow_pos k
    unfold bs
    by_cases hk : k = n
    · subst hk
      split
      · rw [Nat.add_div_right _ hk2, Nat.div_eq_of_lt hl]
      · rw [Nat.add_zero, Nat.div_eq_of_lt hl]
    · have ih := bs_bit (q := q) n k (by omega)
      by_cases hq : q n = true
      · have e : 2 ^ n = 2 ^ k * (2 * 2 ^ (n - k - 1)) := by
          rw [← Nat.pow_succ', ← Nat.pow_add]
          congr 1
          omega
        rw [if_pos hq, e, Nat.add_mul_div_left _ _ hk2, Nat.add_mul_mod_self_left]
        exact ih
      · rw [if_neg hq, Nat.add_zero]
        exact ih
theorem bs_or : ∀ i, i < 8 → ∀ a, a < 2 ^ i → nI a ||| ((1 : Int32) <<< (nI i &&& 31)) = nI (a + 2 ^ i) := by decide +kernel
theorem bs_or0 : ∀ a, a < 256 → nI a ||| 0 = nI a := by decide +kernel
theorem bs_sh : ∀ k, k < 9 → ∀ a, a < 256 → nI a >>> (nI k &&& 31) = nI (a / 2 ^ k) := by decide +kernel
theorem bs_and : ∀ a, a < 256 → nI a &&& 1 = nI (a % 2) := by decide +kernel
theorem pow8 : ∀ i, i ≤ 8 → 2 ^ i ≤ 256 := by decide
section HOL
variable {g : Gh} {hp : HPt} {n E o z : Nat}
theorem stP_bs {f : Nat} : ∀ i, i ≤ 8 → stP hp 0 f i = nI (bs (fun i => !decide (hp (4, 0, i, 0) f ≤ 0)) i)
  | 0, _ => rfl
  | i + 1, hi => by
    have ih := stP_bs (f := f) i (by omega)
    have hl := bs_lt (q := fun i => !decide (hp (4, 0, i, 0) f ≤ 0)) i
    have h8 := pow8 i (by omega)
    unfold stP bs
    rw [ih]
    by_cases h : hp (4, 0, i, 0) f ≤ 0
    · rw [if_pos h, if_neg (by simp [h]), Nat.add_zero]
      exact bs_or0 _ (by omega)
    · rw [if_neg h, if_pos (by simp [h])]
      exact bs_or i (by omega) _ hl
theorem stO_bs {f : Nat} : ∀ i, i ≤ 8 → stO hp 0 f i = nI (bs (fun i => !decide (hp (4, 0, i, 0) f = 0)) i)
  | 0, _ => rfl
  | i + 1, hi => by
    have ih := stO_bs (f := f) i (by omega)
    have hl := bs_lt (q := fun i => !decide (hp (4, 0, i, 0) f = 0)) i
    have h8 := pow8 i (by omega)
    unfold stO bs
    rw [ih]
    by_cases h : hp (4, 0, i, 0) f = 0
    · rw [if_pos h, if_neg (by simp [h]), Nat.add_zero]
      exact bs_or0 _ (by omega)
    · rw [if_neg h, if_pos (by simp [h])]
      exact bs_or i (by omega) _ hl
/-- a bit of a set -/
theorem bs_get {q : Nat → Bool} {k : Nat} (hn : n ≤ 8) (hk : k < n) : (nI (bs q n) >>> (nI k &&& 31)) &&& 1 = if q k = true then 1 else 0 := by
  have hl := bs_lt (q := q) n
  have h8 := pow8 n hn
  rw [bs_sh k (by omega) _ (by omega), bs_and _ (Nat.lt_of_le_of_lt (Nat.div_le_self _ _) (by omega)), bs_bit n k hk]
  split <;> rfl
theorem bs_top {q : Nat → Bool} (hn : n ≤ 8) : nI (bs q n) >>> (nI n &&& 31) = 0 := by
  have hl := bs_lt (q := q) n
  have h8 := pow8 n hn
  rw [bs_sh n (by omega) _ (by omega), Nat.div_eq_of_lt hl]
  rfl
theorem GO.get {j : Nat} (h : GO hp n E) (hj : j < n) : ∃ val, val < 256 ∧ hp (16, 0, 0, 0) j = nI val := by
  obtain ⟨m, v, c, -, hS, -⟩ := h
  obtain ⟨val, h1, h2, -⟩ := (hS j hj).get
  exact ⟨val, h1, h2⟩
/-- over the secrets -/
theorem lL_holds {m v c : Nat → Nat} (h : GO hp n E) (hE : E < 2 ^ 31) (hW : WT hp) (hG : GGl hp n (sumN (fun j => 1 + m j) n) (sumN c n)) (hS : ∀ j, j < n → SG hp j (hp (16, 0, 0, 0) j) (m j) (v j) (c j) E) : ∀ k r, r + k = n → V g mL_holds 0 0 0 0 609 49 [some (vR (15, 0, 0, 0)), some (vR (16, 0, 0, 0)), some (vI (nI n)), some (vI (nI (sumN (fun j => 1 + m j) r))), some (vI (nI (sumN c r))), some (vI 1), some (vI (nI r))] [] RP hp (Pi 1 hp) := by
  have h8 := h.kept.2
  have g2 : figG hp 0 n 2 = nI (bs (fun i => !decide (hp (4, 0, i, 0) 5 ≤ 0)) n) := stP_bs n h8
  have g3 : figG hp 0 n 3 = nI (bs (fun i => !decide (hp (4, 0, i, 0) 9 = 0)) n) := stO_bs n h8
  intro k
  induction k with
  | zero =>
    intro r hr
    obtain rfl : r = n := by omega
    obtain ⟨-, -, -, -, -, -, ⟨M, B, q1, q2, q3⟩, q4⟩ := hG
    refine r_iload dL_holds_49 rfl ?_
    refine r_iload_n dL_holds_51 (i := 2) rfl rfl ?_
    refine r_icmp_ge dL_holds_52 (tgt := 190) rfl (fun _ => ?_) (fun h52 => absurd (Int32.le_refl _) h52)
    refine r_iload dL_holds_190 rfl ?_
    refine r_if_eq dL_holds_192 (tgt := 247) rfl (fun h192 => absurd h192 ((by decide))) (fun _ => ?_)
    refine r_aload_n dL_holds_195 (i := 0) rfl rfl ?_
    refine r_bipush dL_holds_196 (v := 6) rfl ?_
    refine sL_holds_198 (Nat.le_refl _) (Nat.le_refl _) rfl lv15 (Nat.le_of_ble_eq_true rfl) ((c_count (k := 6) h (by decide)).eq q1 rfl) ?_
    refine r_aload_n dL_holds_201 (i := 0) rfl rfl ?_
    refine r_bipush dL_holds_202 (v := 7) rfl ?_
    refine sL_holds_204 (Nat.le_refl _) (Nat.le_refl _) rfl lv15 (Nat.le_of_ble_eq_true rfl) ((c_count (k := 7) h (by decide)).eq q2 rfl) ?_
    refine r_isub dL_holds_207 ?_
    refine r_iload_n dL_holds_208 (i := 3) rfl rfl ?_
    refine r_icmp_ne dL_holds_209 (tgt := 247) rfl (fun h209 => absurd ((by rw [pk_sub (by omega), q3, Nat.add_sub_cancel_left])) h209) (fun _ => ?_)
    refine r_aload_n dL_holds_212 (i := 0) rfl rfl ?_
    refine r_bipush dL_holds_213 (v := 8) rfl ?_
    refine sL_holds_215 (Nat.le_refl _) (Nat.le_refl _) rfl lv15 (Nat.le_of_ble_eq_true rfl) ((c_count (k := 8) h (by decide)).eq q4 rfl) ?_
    refine r_iload dL_holds_218 rfl ?_
    refine r_icmp_ne dL_holds_220 (tgt := 247) rfl (fun h220 => absurd (rfl) h220) (fun _ => ?_)
    refine r_aload_n dL_holds_223 (i := 0) rfl rfl ?_
    refine r_iconst dL_holds_224 (v := 2) rfl ?_
    refine sL_holds_225 (Nat.le_refl _) (Nat.le_refl _) rfl lv15 (Nat.le_of_ble_eq_true rfl) ((c_count (k := 2) h (by decide)).eq g2 rfl) ?_
    refine r_iload_n dL_holds_228 (i := 2) rfl rfl ?_
    refine r_ishr dL_holds_229 ?_
    refine r_if_ne dL_holds_230 (tgt := 247) rfl (fun h230 => absurd (bs_top h8) h230) (fun _ => ?_)
    refine r_aload_n dL_holds_233 (i := 0) rfl rfl ?_
    refine r_iconst dL_holds_234 (v := 3) rfl ?_
    refine sL_holds_235 (Nat.le_refl _) (Nat.le_refl _) rfl lv15 (Nat.le_of_ble_eq_true rfl) ((c_count (k := 3) h (by decide)).eq g3 rfl) ?_
    refine r_iload_n dL_holds_238 (i := 2) rfl rfl ?_
    refine r_ishr dL_holds_239 ?_
    refine r_if_ne dL_holds_240 (tgt := 247) rfl (fun h240 => absurd (bs_top h8) h240) (fun _ => ?_)
    refine r_iconst dL_holds_243 (v := 1) rfl ?_
    refine r_goto dL_holds_244 (tgt := 248) rfl ?_
    exact e_i dL_holds_248 rfl (by first | rfl | exact bi_nar _) rfl rfl
  | succ k ih =>
    intro r hr
    have hr2 : r < n := by omega
    have hr8 : r < 8 := by omega
    have hn := ih (r + 1) (by omega)
    obtain ⟨val, hval, ev⟩ := h.get hr2
    obtain ⟨-, ⟨a1, a2, a3⟩, -⟩ := hS r hr2
    have t1 := bs_get (q := fun i => !decide (hp (4, 0, i, 0) 5 ≤ 0)) h8 hr2
    have t2 := bs_get (q := fun i => !decide (hp (4, 0, i, 0) 9 = 0)) h8 hr2
    have t3 : (nI (bs (fun i => !decide (hp (4, 0, i, 0) 9 = 0)) n) >>> (nI r &&& 31)) &&& 1 = figS hp 0 r 5 := by
      rw [t2]
      show _ = if hp (4, 0, r, 0) 9 = 0 then (0 : Int32) else 1
      by_cases h : hp (4, 0, r, 0) 9 = 0
      · simp [h]
      · simp [h]
    have hc : (hp (4, 0, r, 0) 5 ≤ 0) ∨ ¬ hp (4, 0, r, 0) 5 ≤ 0 := Classical.em _
    rcases hc with hc | hc
    · have t4 : (nI (bs (fun i => !decide (hp (4, 0, i, 0) 5 ≤ 0)) n) >>> (nI r &&& 31)) &&& 1 = 0 := by
        rw [t1]
        simp [hc]
      refine r_iload dL_holds_49 rfl ?_
      refine r_iload_n dL_holds_51 (i := 2) rfl rfl ?_
      refine r_icmp_ge dL_holds_52 (tgt := 190) rfl (fun h52 => absurd h52 (nI_ge hr2 (by omega))) (fun _ => ?_)
      refine r_iload dL_holds_55 rfl ?_
      refine r_if_eq dL_holds_57 (tgt := 190) rfl (fun h57 => absurd h57 ((by decide))) (fun _ => ?_)
      refine r_aload_n dL_holds_60 (i := 0) rfl rfl ?_
      refine r_iconst dL_holds_61 (v := 0) rfl ?_
      refine r_iload dL_holds_62 rfl ?_
      refine sL_holds_64 (Nat.le_refl _) (Nat.le_refl _) (Nat.le_of_ble_eq_true rfl) (tL_isStore (b := 0) h hr2 (by decide)) ?_
      refine r_if_eq dL_holds_67 (tgt := 97) rfl (fun h67 => absurd h67 ((by decide))) (fun _ => ?_)
      refine r_aload_n dL_holds_70 (i := 0) rfl rfl ?_
      refine r_iconst dL_holds_71 (v := 1) rfl ?_
      refine r_iload dL_holds_72 rfl ?_
      refine sL_holds_74 (Nat.le_refl _) (Nat.le_refl _) (Nat.le_of_ble_eq_true rfl) (tL_isStore (b := 1) h hr2 (by decide)) ?_
      refine r_if_eq dL_holds_77 (tgt := 97) rfl (fun h77 => absurd h77 ((by decide))) (fun _ => ?_)
      refine r_aload_n dL_holds_80 (i := 0) rfl rfl ?_
      refine r_iload dL_holds_81 rfl ?_
      refine r_aload_n dL_holds_83 (i := 1) rfl rfl ?_
      refine r_iload dL_holds_84 rfl ?_
      refine n_iald dL_holds_86 rfl lv16 rfl (by first | assumption | omega | (unfold cI; omega)) ?_
      rw [ev]
      refine sL_holds_87 (Nat.le_refl _) (Nat.le_refl _) (Nat.le_of_ble_eq_true rfl) (tL_isSecret h hE hr2 hW ev hval) ?_
      refine r_if_eq dL_holds_90 (tgt := 97) rfl (fun h90 => absurd h90 ((by decide))) (fun _ => ?_)
      refine r_iconst dL_holds_93 (v := 1) rfl ?_
      refine r_goto dL_holds_94 (tgt := 98) rfl ?_
      refine r_istore dL_holds_98 (Nat.le_of_ble_eq_true rfl) rfl rfl ?_
      refine r_iload_n dL_holds_100 (i := 3) rfl rfl ?_
      refine r_iconst dL_holds_101 (v := 1) rfl ?_
      refine r_aload_n dL_holds_102 (i := 0) rfl rfl ?_
      refine r_iload dL_holds_103 rfl ?_
      refine r_iconst dL_holds_105 (v := 1) rfl ?_
      refine sL_holds_106 (Nat.le_refl _) (Nat.le_refl _) rfl lv15 (Nat.le_of_ble_eq_true rfl) ((c_ofs (k := 1) h hr2 (by decide)).eq a1 rfl) ?_
      refine r_iadd dL_holds_109 ?_
      refine r_iadd dL_holds_110 ?_
      refine r_istore_n dL_holds_111 (i := 3) rfl (Nat.le_of_ble_eq_true rfl) rfl rfl ?_
      refine r_iload dL_holds_112 rfl ?_
      refine r_aload_n dL_holds_114 (i := 0) rfl rfl ?_
      refine r_iload dL_holds_115 rfl ?_
      refine r_iconst dL_holds_117 (v := 4) rfl ?_
      refine sL_holds_118 (Nat.le_refl _) (Nat.le_refl _) rfl lv15 (Nat.le_of_ble_eq_true rfl) ((c_ofs (k := 4) h hr2 (by decide)).eq a3 rfl) ?_
      refine r_iadd dL_holds_121 ?_
      refine r_istore dL_holds_122 (Nat.le_of_ble_eq_true rfl) rfl rfl ?_
      refine r_iload dL_holds_124 rfl ?_
      refine r_if_eq dL_holds_126 (tgt := 181) rfl (fun h126 => absurd h126 ((by decide))) (fun _ => ?_)
      refine r_aload_n dL_holds_129 (i := 0) rfl rfl ?_
      refine r_iconst dL_holds_130 (v := 2) rfl ?_
      refine sL_holds_131 (Nat.le_refl _) (Nat.le_refl _) rfl lv15 (Nat.le_of_ble_eq_true rfl) ((c_count (k := 2) h (by decide)).eq g2 rfl) ?_
      refine r_iload dL_holds_134 rfl ?_
      refine r_ishr dL_holds_136 ?_
      refine r_iconst dL_holds_137 (v := 1) rfl ?_
      refine r_iand dL_holds_138 ?_
      refine r_aload_n dL_holds_139 (i := 0) rfl rfl ?_
      refine r_iload dL_holds_140 rfl ?_
      refine r_iconst dL_holds_142 (v := 3) rfl ?_
      refine sL_holds_143 (Nat.le_refl _) (Nat.le_refl _) rfl lv15 (Nat.le_of_ble_eq_true rfl) (c_ofs (k := 3) h hr2 (by decide)) ?_
      refine r_if_le dL_holds_146 (tgt := 153) rfl (fun _ => ?_) (fun h146 => absurd (hc) h146)
      refine r_iconst dL_holds_153 (v := 0) rfl ?_
      refine r_icmp_ne dL_holds_154 (tgt := 181) rfl (fun h154 => absurd (t4) h154) (fun _ => ?_)
      refine r_aload_n dL_holds_157 (i := 0) rfl rfl ?_
      refine r_iconst dL_holds_158 (v := 3) rfl ?_
      refine sL_holds_159 (Nat.le_refl _) (Nat.le_refl _) rfl lv15 (Nat.le_of_ble_eq_true rfl) ((c_count (k := 3) h (by decide)).eq g3 rfl) ?_
      refine r_iload dL_holds_162 rfl ?_
      refine r_ishr dL_holds_164 ?_
      refine r_iconst dL_holds_165 (v := 1) rfl ?_
      refine r_iand dL_holds_166 ?_
      refine r_aload_n dL_holds_167 (i := 0) rfl rfl ?_
      refine r_iload dL_holds_168 rfl ?_
      refine r_iconst dL_holds_170 (v := 5) rfl ?_
      refine sL_holds_171 (Nat.le_refl _) (Nat.le_refl _) rfl lv15 (Nat.le_of_ble_eq_true rfl) (c_ofs (k := 5) h hr2 (by decide)) ?_
      refine r_icmp_ne dL_holds_174 (tgt := 181) rfl (fun h174 => absurd (t3) h174) (fun _ => ?_)
      refine r_iconst dL_holds_177 (v := 1) rfl ?_
      refine r_goto dL_holds_178 (tgt := 182) rfl ?_
      refine r_istore dL_holds_182 (Nat.le_of_ble_eq_true rfl) rfl rfl ?_
      refine r_inc1 dL_holds_184 rfl (Nat.le_of_ble_eq_true rfl) rfl ?_
      refine r_goto dL_holds_187 (tgt := 49) rfl ?_
      refine V.eqL ?_ hn
      rw [nI_succ r]
      show _ = [_, _, _, some (vI (nI (sumN (fun j => 1 + m j) r + (1 + m r)))), some (vI (nI (sumN c r + c r))), _, _]
      rw [← nI_add, ← nI_add, ← nI_add]
      rfl
    · have t4 : (nI (bs (fun i => !decide (hp (4, 0, i, 0) 5 ≤ 0)) n) >>> (nI r &&& 31)) &&& 1 = 1 := by
        rw [t1]
        simp [hc]
      refine r_iload dL_holds_49 rfl ?_
      refine r_iload_n dL_holds_51 (i := 2) rfl rfl ?_
      refine r_icmp_ge dL_holds_52 (tgt := 190) rfl (fun h52 => absurd h52 (nI_ge hr2 (by omega))) (fun _ => ?_)
      refine r_iload dL_holds_55 rfl ?_
      refine r_if_eq dL_holds_57 (tgt := 190) rfl (fun h57 => absurd h57 ((by decide))) (fun _ => ?_)
      refine r_aload_n dL_holds_60 (i := 0) rfl rfl ?_
      refine r_iconst dL_holds_61 (v := 0) rfl ?_
      refine r_iload dL_holds_62 rfl ?_
      refine sL_holds_64 (Nat.le_refl _) (Nat.le_refl _) (Nat.le_of_ble_eq_true rfl) (tL_isStore (b := 0) h hr2 (by decide)) ?_
      refine r_if_eq dL_holds_67 (tgt := 97) rfl (fun h67 => absurd h67 ((by decide))) (fun _ => ?_)
      refine r_aload_n dL_holds_70 (i := 0) rfl rfl ?_
      refine r_iconst dL_holds_71 (v := 1) rfl ?_
      refine r_iload dL_holds_72 rfl ?_
      refine sL_holds_74 (Nat.le_refl _) (Nat.le_refl _) (Nat.le_of_ble_eq_true rfl) (tL_isStore (b := 1) h hr2 (by decide)) ?_
      refine r_if_eq dL_holds_77 (tgt := 97) rfl (fun h77 => absurd h77 ((by decide))) (fun _ => ?_)
      refine r_aload_n dL_holds_80 (i := 0) rfl rfl ?_
      refine r_iload dL_holds_81 rfl ?_
      refine r_aload_n dL_holds_83 (i := 1) rfl rfl ?_
      refine r_iload dL_holds_84 rfl ?_
      refine n_iald dL_holds_86 rfl lv16 rfl (by first | assumption | omega | (unfold cI; omega)) ?_
      rw [ev]
      refine sL_holds_87 (Nat.le_refl _) (Nat.le_refl _) (Nat.le_of_ble_eq_true rfl) (tL_isSecret h hE hr2 hW ev hval) ?_
      refine r_if_eq dL_holds_90 (tgt := 97) rfl (fun h90 => absurd h90 ((by decide))) (fun _ => ?_)
      refine r_iconst dL_holds_93 (v := 1) rfl ?_
      refine r_goto dL_holds_94 (tgt := 98) rfl ?_
      refine r_istore dL_holds_98 (Nat.le_of_ble_eq_true rfl) rfl rfl ?_
      refine r_iload_n dL_holds_100 (i := 3) rfl rfl ?_
      refine r_iconst dL_holds_101 (v := 1) rfl ?_
      refine r_aload_n dL_holds_102 (i := 0) rfl rfl ?_
      refine r_iload dL_holds_103 rfl ?_
      refine r_iconst dL_holds_105 (v := 1) rfl ?_
      refine sL_holds_106 (Nat.le_refl _) (Nat.le_refl _) rfl lv15 (Nat.le_of_ble_eq_true rfl) ((c_ofs (k := 1) h hr2 (by decide)).eq a1 rfl) ?_
      refine r_iadd dL_holds_109 ?_
      refine r_iadd dL_holds_110 ?_
      refine r_istore_n dL_holds_111 (i := 3) rfl (Nat.le_of_ble_eq_true rfl) rfl rfl ?_
      refine r_iload dL_holds_112 rfl ?_
      refine r_aload_n dL_holds_114 (i := 0) rfl rfl ?_
      refine r_iload dL_holds_115 rfl ?_
      refine r_iconst dL_holds_117 (v := 4) rfl ?_
      refine sL_holds_118 (Nat.le_refl _) (Nat.le_refl _) rfl lv15 (Nat.le_of_ble_eq_true rfl) ((c_ofs (k := 4) h hr2 (by decide)).eq a3 rfl) ?_
      refine r_iadd dL_holds_121 ?_
      refine r_istore dL_holds_122 (Nat.le_of_ble_eq_true rfl) rfl rfl ?_
      refine r_iload dL_holds_124 rfl ?_
      refine r_if_eq dL_holds_126 (tgt := 181) rfl (fun h126 => absurd h126 ((by decide))) (fun _ => ?_)
      refine r_aload_n dL_holds_129 (i := 0) rfl rfl ?_
      refine r_iconst dL_holds_130 (v := 2) rfl ?_
      refine sL_holds_131 (Nat.le_refl _) (Nat.le_refl _) rfl lv15 (Nat.le_of_ble_eq_true rfl) ((c_count (k := 2) h (by decide)).eq g2 rfl) ?_
      refine r_iload dL_holds_134 rfl ?_
      refine r_ishr dL_holds_136 ?_
      refine r_iconst dL_holds_137 (v := 1) rfl ?_
      refine r_iand dL_holds_138 ?_
      refine r_aload_n dL_holds_139 (i := 0) rfl rfl ?_
      refine r_iload dL_holds_140 rfl ?_
      refine r_iconst dL_holds_142 (v := 3) rfl ?_
      refine sL_holds_143 (Nat.le_refl _) (Nat.le_refl _) rfl lv15 (Nat.le_of_ble_eq_true rfl) (c_ofs (k := 3) h hr2 (by decide)) ?_
      refine r_if_le dL_holds_146 (tgt := 153) rfl (fun h146 => absurd h146 (hc)) (fun _ => ?_)
      refine r_iconst dL_holds_149 (v := 1) rfl ?_
      refine r_goto dL_holds_150 (tgt := 154) rfl ?_
      refine r_icmp_ne dL_holds_154 (tgt := 181) rfl (fun h154 => absurd (t4) h154) (fun _ => ?_)
      refine r_aload_n dL_holds_157 (i := 0) rfl rfl ?_
      refine r_iconst dL_holds_158 (v := 3) rfl ?_
      refine sL_holds_159 (Nat.le_refl _) (Nat.le_refl _) rfl lv15 (Nat.le_of_ble_eq_true rfl) ((c_count (k := 3) h (by decide)).eq g3 rfl) ?_
      refine r_iload dL_holds_162 rfl ?_
      refine r_ishr dL_holds_164 ?_
      refine r_iconst dL_holds_165 (v := 1) rfl ?_
      refine r_iand dL_holds_166 ?_
      refine r_aload_n dL_holds_167 (i := 0) rfl rfl ?_
      refine r_iload dL_holds_168 rfl ?_
      refine r_iconst dL_holds_170 (v := 5) rfl ?_
      refine sL_holds_171 (Nat.le_refl _) (Nat.le_refl _) rfl lv15 (Nat.le_of_ble_eq_true rfl) (c_ofs (k := 5) h hr2 (by decide)) ?_
      refine r_icmp_ne dL_holds_174 (tgt := 181) rfl (fun h174 => absurd (t3) h174) (fun _ => ?_)
      refine r_iconst dL_holds_177 (v := 1) rfl ?_
      refine r_goto dL_holds_178 (tgt := 182) rfl ?_
      refine r_istore dL_holds_182 (Nat.le_of_ble_eq_true rfl) rfl rfl ?_
      refine r_inc1 dL_holds_184 rfl (Nat.le_of_ble_eq_true rfl) rfl ?_
      refine r_goto dL_holds_187 (tgt := 49) rfl ?_
      refine V.eqL ?_ hn
      rw [nI_succ r]
      show _ = [_, _, _, some (vI (nI (sumN (fun j => 1 + m j) r + (1 + m r)))), some (vI (nI (sumN c r + c r))), _, _]
      rw [← nI_add, ← nI_add, ← nI_add]
      rfl
/-- all that is told goes together; a refresh that fails drafts -/
theorem tL_holds (L : LI hp o z n E) (hE : E < 2 ^ 31) : Ci g mL_holds [vR (15, 0, 0, 0), vR (16, 0, 0, 0)] hp 1 (hdr hp o z) := by
  have h8 := L.n8
  have D := L.dft (o2 := o) (z2 := z)
  have r1 : Ci g mX6_refresh [vR (15, 0, 0, 0), vI (nI n)] hp (-1) (hdr hp o z) := by
    have q := P_refresh (g := g) (k := n) L (Nat.le_refl n)
    rw [show fRen n n = oErr (-1) from if_neg (Nat.lt_irrefl n)] at q
    exact q
  have lp : V g mL_holds 0 0 0 0 609 49 [some (vR (15, 0, 0, 0)), some (vR (16, 0, 0, 0)), some (vI (nI n)), some (vI 0), some (vI 0), some (vI 1), some (vI 0)] [] RP (hdr hp o z) (Pi 1 (hdr hp o z)) := by
    obtain ⟨m, v, c, hG, hS, -⟩ := id D.2.2
    exact lL_holds (g := g) D.2.2 hE D.2.1 hG hS n 0 (by omega)
  unfold Ci
  refine r_aload_n dL_holds_0 (i := 0) rfl rfl ?_
  refine r_iconst dL_holds_1 (v := 1) rfl ?_
  refine sL_holds_2 (Nat.le_refl _) (Nat.le_refl _) rfl lv15 (Nat.le_of_ble_eq_true rfl) (c_count1 L.2.2) ?_
  refine r_istore_n dL_holds_5 (i := 2) rfl (Nat.le_of_ble_eq_true rfl) rfl rfl ?_
  refine r_iconst dL_holds_6 (v := 0) rfl ?_
  refine r_istore_n dL_holds_7 (i := 3) rfl (Nat.le_of_ble_eq_true rfl) rfl rfl ?_
  refine r_iconst dL_holds_8 (v := 0) rfl ?_
  refine r_istore dL_holds_9 (Nat.le_of_ble_eq_true rfl) rfl rfl ?_
  refine r_aload_n dL_holds_11 (i := 0) rfl rfl ?_
  refine r_iload_n dL_holds_12 (i := 2) rfl rfl ?_
  refine r_iconst dL_holds_13 (v := 0) rfl ?_
  refine sL_holds_14 (Nat.le_refl _) (Nat.le_refl _) rfl lv15 (Nat.le_of_ble_eq_true rfl) (tX6_ofSecret (tX5_figureOfSecret_e (by decide) L.2.2.hasn)) ?_
  refine r_iconst dL_holds_17 (v := (-1)) rfl ?_
  refine r_icmp_ne dL_holds_18 (tgt := 43) rfl (fun h18 => absurd (rfl) h18) (fun _ => ?_)
  refine r_aload_n dL_holds_21 (i := 0) rfl rfl ?_
  refine r_iload_n dL_holds_22 (i := 2) rfl rfl ?_
  refine sL_holds_23 (Nat.le_refl _) (Nat.le_refl _) rfl lv15 (Nat.le_of_ble_eq_true rfl) (r1) ?_
  refine r_iconst dL_holds_26 (v := (-1)) rfl ?_
  refine r_icmp_ne dL_holds_27 (tgt := 43) rfl (fun h27 => absurd (rfl) h27) (fun _ => ?_)
  refine r_aload_n dL_holds_30 (i := 0) rfl rfl ?_
  refine r_iload_n dL_holds_31 (i := 2) rfl rfl ?_
  refine sL_holds_32 (Nat.le_refl _) (Nat.le_refl _) rfl lv15 (Nat.le_of_ble_eq_true rfl) (tX6_ifMerged (tX5_answerOfMerger_e (by decide) D.2.2.hasn)) ?_
  refine r_iconst dL_holds_35 (v := (-1)) rfl ?_
  refine r_icmp_ne dL_holds_36 (tgt := 43) rfl (fun h36 => absurd (rfl) h36) (fun _ => ?_)
  refine r_iconst dL_holds_39 (v := 1) rfl ?_
  refine r_goto dL_holds_40 (tgt := 44) rfl ?_
  refine r_istore dL_holds_44 (Nat.le_of_ble_eq_true rfl) rfl rfl ?_
  refine r_iconst dL_holds_46 (v := 0) rfl ?_
  refine r_istore dL_holds_47 (Nat.le_of_ble_eq_true rfl) rfl rfl ?_
  exact lp
end HOL
