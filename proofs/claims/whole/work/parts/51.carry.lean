section CRY
theorem qO_let {c : Nat → Int32} {p : Nat} {a : Int32 × Int32 × Int32 × Int32} (h : (qO c p).2 = some a) : c p = 107 ∨ c p = 98 ∨ c p = 114 ∨ c p = 117 ∨ c p = 109 ∨ c p = 122 ∨ c p = 108 ∨ c p = 116 := by
  by_cases h1 : c p = 107
  · exact Or.inl h1
  by_cases h2 : c p = 98
  · exact Or.inr (Or.inl h2)
  by_cases h3 : c p = 114
  · exact Or.inr (Or.inr (Or.inl h3))
  by_cases h4 : c p = 117
  · exact Or.inr (Or.inr (Or.inr (Or.inl h4)))
  by_cases h5 : c p = 109
  · exact Or.inr (Or.inr (Or.inr (Or.inr (Or.inl h5))))
  by_cases h6 : c p = 122
  · exact Or.inr (Or.inr (Or.inr (Or.inr (Or.inr (Or.inl h6)))))
  by_cases h7 : c p = 108
  · exact Or.inr (Or.inr (Or.inr (Or.inr (Or.inr (Or.inr (Or.inl h7))))))
  by_cases h8 : c p = 116
  · exact Or.inr (Or.inr (Or.inr (Or.inr (Or.inr (Or.inr (Or.inr h8))))))
  exfalso
  simp [qO, h1, h2, h3, h4, h5, h6, h7, h8] at h
theorem qO_v {c : Nat → Int32} {p : Nat} {a : Int32 × Int32 × Int32 × Int32} (h : (qO c p).2 = some a) (hp : c p = 116) : ¬ a.2.2.1 = -1 := by
  cases hd : fIn (c (p + 1)) 97 98
  · simp [qO, hp, hd] at h
  · cases hd2 : isD (c (p + 2))
    · simp [qO, hp, hd, hd2] at h
    · by_cases h3 : c (p + 3) = 46
      · cases hd4 : isD (c (p + 4))
        · simp [qO, hp, hd, hd2, h3, hd4] at h
        · obtain ⟨v, hv, e⟩ := tN_val (c := c) hd4
          simp [qO, hp, hd, hd2, h3, hd4] at h
          rw [← h]
          show ¬ (tN c (p + 4) false).1 = -1
          rw [e]
          exact nI_nm1 (by omega)
      · simp [qO, hp, hd, hd2, h3] at h
        rw [← h]
        show ¬ (-6 : Int32) = -1
        decide
theorem PQ_self {hp : HPt} {p : Nat} {w : Bool} (h8 : hp (16, 0, 0, 0) 8 = nI p) (h9 : hp (16, 0, 0, 0) 9 = bi w) : PQ hp p w (hp (23, 0, 0, 0)) = hp := by
  funext a i
  unfold PQ
  split
  next e => rw [e.1, e.2, h8]
  next =>
    split
    next e => rw [e.1, e.2, h9]
    next =>
      split
      next e => rw [e.1]
      next => rfl
/-- what the orders leave as it is -/
def offX (hp hA : HPt) : Prop := ∀ a, ¬ (a.1 < 8 ∧ a.2.1 = 0) → a ≠ (14, 0, 0, 0) → hA a = hp a
def offY (hB hD : HPt) : Prop := (∀ a, a ≠ (17, 0, 0, 0) → a ≠ (16, 0, 0, 0) → a ≠ (23, 0, 0, 0) → hD a = hB a) ∧ ∀ i, i ≠ 8 → i ≠ 9 → hD (16, 0, 0, 0) i = hB (16, 0, 0, 0) i
theorem PQ_Y {hB : HPt} {p : Nat} {w : Bool} {o : Nat → Int32} : offY hB (PQ hB p w o) := ⟨fun a _ h16 h23 => by funext i; exact PQ_a h16 h23, fun i h8 h9 => by simp [PQ, h8, h9]⟩
theorem offY.trans {h1 h2 h3 : HPt} (a : offY h1 h2) (b : offY h2 h3) : offY h1 h3 := ⟨fun c h17 h16 h23 => (b.1 c h17 h16 h23).trans (a.1 c h17 h16 h23), fun i h8 h9 => (b.2 i h8 h9).trans (a.2 i h8 h9)⟩
theorem offR.Y {h1 h2 : HPt} (a : offR h1 h2) : offY h1 h2 := ⟨fun c h17 _ _ => a c h17, fun i _ _ => by rw [a _ (by decide)]⟩
theorem offX.trans {h1 h2 h3 : HPt} (a : offX h1 h2) (b : offX h2 h3) : offX h1 h3 := fun c h h14 => (b c h h14).trans (a c h h14)
theorem offS.X {h1 h2 : HPt} (a : offS h1 h2) : offX h1 h2 := fun c h _ => a c h
theorem RQ_X {hp : HPt} {f : Nat → Int32} : offX hp (RQ hp f) := fun a _ h => by funext i; exact RQ_a h
variable {g : Gh} {len : Nat} {c : Nat → Int32}
theorem RQ_WT {hp : HPt} {f : Nat → Int32} (hW : WT hp) (hc : okc (f 2)) : WT (RQ hp f) := by
  intro a i
  unfold RQ
  split
  next e =>
    obtain ⟨rfl, -⟩ := e
    by_cases hi : i = 2
    · subst hi
      exact ⟨fun h => absurd (show false = true from h) (by decide), fun _ => hc⟩
    · refine okv_free rfl ?_
      show (false || Nat.beq i 2) = false
      cases hq : Nat.beq i 2
      · rfl
      · exact absurd (Nat.eq_of_beq_eq_true hq) hi
  next => exact hW a i
theorem cry (hl : len ≤ 80) (hc0 : ∀ i, ¬ c i = 0 → i < len) : ∀ k i s (hc : HPt) (sr : Nat → Int32) (n : Nat), i + k = 80 → 2 * i ≤ s → s ≤ len → qF c len k s = none → WT hc → Rep hc 0 sr n → hc (12, 0, 0, 0) 1 = nI len → cF hc len = c → (∃ f2, Ci g mX3_readsNextOrder [vR (14, 0, 0, 0)] hc (bi (qO c s).2.isSome) (RQ hc f2) ∧ f2 1 = nI (qO c s).1 ∧ f2 2 = c s ∧ ∀ a, (qO c s).2 = some a → FLD f2 (c s) a) → ∃ q hA s2 n2, q ≤ 80 ∧ (∀ P, V g mX6_carryOut 0 0 0 0 616 64 [some (vR (15, 0, 0, 0)), some (vI (nI q))] [] RP hA P → V g mX6_carryOut 0 0 0 0 616 35 [some (vR (15, 0, 0, 0)), some (vI (nI i))] [] RP hc P) ∧ WT hA ∧ offX hc hA ∧ Rep hA 0 s2 n2 ∧ ∀ hB : HPt, hB (17, 0, 0, 0) = sr → hB (16, 0, 0, 0) 6 = nI len → cRf hB len = c → hB (16, 0, 0, 0) 8 = nI s → hB (16, 0, 0, 0) 9 = bi false → ∃ hD, (∀ x4 x5, V g mX7_goes 0 0 0 0 616 14 [some (vR (16, 0, 0, 0)), some (vI 1), some (vI (nI i)), some (vI 1), x4, x5] [] RP hB (Pi (nI q) hD)) ∧ offY hB hD ∧ hD (17, 0, 0, 0) = s2 ∧ hD (16, 0, 0, 0) 9 = bi false := by
  intro k
  induction k with
  | zero =>
    intro i s hc sr n hik his hsl
    omega
  | succ k ih =>
    intro i s hc sr n hik his hsl hF hW hR h12 hcF hRead
    obtain ⟨f2, hC, hf1, hf2, hFld⟩ := hRead
    have hi80 : i < 80 := by omega
    have nb : ¬ (80 : Int32) ≤ nI i := nI_ge (b := 80) hi80 (by decide)
    rw [qF_s] at hF
    cases hq : (qO c s).2 with
    | none =>
      rw [if_pos hq] at hF
      cases hF
    | some a =>
      have hnn : ¬ (qO c s).2 = none := by rw [hq]; exact fun h => by cases h
      rw [if_neg hnn] at hF
      rw [hq] at hC
      obtain ⟨g1, g2⟩ := qO_some hc0 hq
      have hWc2 : WT (RQ hc f2) := RQ_WT hW (by rw [hf2, ← hcF]; exact cF_ch hW)
      have hR2 : Rep (RQ hc f2) 0 sr n := by
        exact hR.same (fun a h _ => by funext j; exact RQ_a (cls_ne h (by decide))) (fun _ _ => rfl)
      -- the reference reads the order
      have hrg : ∀ j, 1 ≤ j ∧ j < 7 → RQ hc f2 (14, 0, 0, 0) j = f2 j := fun j h => RQ_g h
      have hFl := hFld a hq
      have hFl2 : FLD (RQ hc f2 (14, 0, 0, 0)) (c s) a := by
        unfold FLD at hFl ⊢
        rw [hrg 3 (by decide), hrg 4 (by decide), hrg 5 (by decide), hrg 6 (by decide)]
        exact hFl
      obtain ⟨r, hA, s2, n2, hAO, hWA, hSA, hRA, hRef⟩ := OKo_all (g := g) (sr := sr) (a := a) (o := up (up (up (up (up (fun _ => 0) 0 (c s)) 1 a.1) 2 a.2.1) 3 a.2.2.1) 4 a.2.2.2) hR2 hWc2 (by have q := qO_let hq; exact q) (by rw [hrg 2 (by decide), hf2]; rfl) hFl2 rfl rfl rfl rfl (fun h => qO_v hq h)
      have hRdr : ∀ hB : HPt, hB (17, 0, 0, 0) = sr → hB (16, 0, 0, 0) 6 = nI len → cRf hB len = c → hB (16, 0, 0, 0) 8 = nI s → hB (16, 0, 0, 0) 9 = bi false → ∃ o2 hD, Cv g mX7_readOrder [vR (16, 0, 0, 0)] hB (PQ hB (qO c s).1 false o2) ∧ Ci g mX7_isDone [vR (16, 0, 0, 0)] (PQ hB (qO c s).1 false o2) (bi (!decide (r < 0))) hD ∧ offY hB hD ∧ hD (17, 0, 0, 0) = s2 ∧ hD (16, 0, 0, 0) 8 = nI (qO c s).1 ∧ hD (16, 0, 0, 0) 9 = bi false ∧ hD (16, 0, 0, 0) 6 = nI len := by
        intro hB h17 h6 hcR h8 h9
        have hRd := RdR_all (g := g) (hp := hB) (o := hB (23, 0, 0, 0)) hl h6 hsl
        unfold RdR at hRd
        rw [hcR, PQ_self h8 h9] at hRd
        obtain ⟨o2, hRO, ho⟩ := hRd
        rw [hq] at hRO
        obtain ⟨k0, k1, k2, k3, k4⟩ := ho a hq
        obtain ⟨hD, hDn, hDo, hD17⟩ := hRef (PQ hB (qO c s).1 false o2) (by
          rw [← h17]
          funext j
          exact PQ_a (by decide) (by decide)) (fun j hj => by
          rw [PQ_23 hj]
          have : j = 0 ∨ j = 1 ∨ j = 2 ∨ j = 3 ∨ j = 4 := by omega
          rcases this with rfl | rfl | rfl | rfl | rfl
          · exact k0
          · exact k1
          · exact k2
          · exact k3
          · exact k4)
        refine ⟨o2, hD, hRO, hDn, PQ_Y.trans hDo.Y, hD17, ?_, ?_, ?_⟩
        · rw [hDo _ (by decide)]; exact PQ_8
        · rw [hDo _ (by decide)]; exact PQ_9
        · rw [hDo _ (by decide), PQ_6]; exact h6
      have hX : offX hc hA := RQ_X.trans hSA.X
      by_cases hr : r < 0
      · refine ⟨i, hA, s2, n2, by omega, fun P hP => ?_, hWA, hX, hRA, fun hB h17 h6 hcR h8 h9 => ?_⟩
        · refine r_iload_n dX6_carryOut_35 (i := 1) rfl rfl ?_
          refine r_bipush dX6_carryOut_36 (v := 80) rfl ?_
          refine r_icmp_ge dX6_carryOut_38 (tgt := 64) rfl (fun h38 => absurd h38 (nb)) (fun _ => ?_)
          refine r_aload_n dX6_carryOut_41 (i := 0) rfl rfl ?_
          refine r_getR dX6_carryOut_42 f_6_43 rfl rfl rfl lv15 ?_
          refine sX6_carryOut_45 (Nat.le_refl _) (Nat.le_refl _) rfl lv14 (Nat.le_of_ble_eq_true rfl) (hC) ?_
          refine r_if_eq dX6_carryOut_48 (tgt := 64) rfl (fun h48 => absurd h48 ((show ¬ bi true = 0 by decide))) (fun _ => ?_)
          refine r_aload_n dX6_carryOut_51 (i := 0) rfl rfl ?_
          refine sX6_carryOut_52 (Nat.le_refl _) (Nat.le_refl _) rfl lv15 (Nat.le_of_ble_eq_true rfl) (hAO) ?_
          refine r_if_lt dX6_carryOut_55 (tgt := 64) rfl (fun _ => ?_) (fun h55 => absurd (hr) h55)
          exact hP
        · have hz : bi (!decide (r < 0)) = 0 := by simp [bi, hr]
          obtain ⟨o2, hD, hRO, hDn, hY, hD17, -, eD9, -⟩ := hRdr hB h17 h6 hcR h8 h9
          rw [hz] at hDn
          refine ⟨hD, fun x4 x5 => ?_, hY, hD17, eD9⟩
          refine r_iload_n dX7_goes_14 (i := 3) rfl rfl ?_
          refine r_if_eq dX7_goes_15 (tgt := 112) rfl (fun h15 => absurd h15 ((by decide))) (fun _ => ?_)
          refine r_aload_n dX7_goes_18 (i := 0) rfl rfl ?_
          refine sX7_goes_19 (Nat.le_refl _) (Nat.le_refl _) rfl lv16 (Nat.le_of_ble_eq_true rfl) (hRO) ?_
          refine r_iload_n dX7_goes_22 (i := 1) rfl rfl ?_
          refine r_if_eq dX7_goes_23 (tgt := 33) rfl (fun h23 => absurd h23 ((by decide))) (fun _ => ?_)
          refine r_aload_n dX7_goes_26 (i := 0) rfl rfl ?_
          refine sX7_goes_27 (Nat.le_refl _) (Nat.le_refl _) rfl lv16 (Nat.le_of_ble_eq_true rfl) (hDn) ?_
          refine r_if_eq dX7_goes_30 (tgt := 37) rfl (fun _ => ?_) (fun h30 => absurd (rfl) h30)
          refine r_iconst dX7_goes_37 (v := 0) rfl ?_
          refine r_istore dX7_goes_38 (Nat.le_of_ble_eq_true rfl) rfl rfl ?_
          refine r_iload_n dX7_goes_40 (i := 2) rfl rfl ?_
          refine r_iload dX7_goes_41 rfl ?_
          refine r_if_eq dX7_goes_43 (tgt := 50) rfl (fun _ => ?_) (fun h43 => absurd (rfl) h43)
          refine r_iconst dX7_goes_50 (v := 0) rfl ?_
          refine r_iadd dX7_goes_51 ?_
          refine r_istore_n dX7_goes_52 (i := 2) rfl (Nat.le_of_ble_eq_true rfl) rfl rfl ?_
          refine r_iload dX7_goes_53 rfl ?_
          refine r_if_eq dX7_goes_55 (tgt := 80) rfl (fun _ => ?_) (fun h55 => absurd (rfl) h55)
          refine r_iconst dX7_goes_80 (v := 0) rfl ?_
          refine r_istore_n dX7_goes_81 (i := 3) rfl (Nat.le_of_ble_eq_true rfl) rfl rfl ?_
          refine r_iload_n dX7_goes_82 (i := 3) rfl rfl ?_
          refine r_if_eq dX7_goes_83 (tgt := 109) rfl (fun _ => ?_) (fun h83 => absurd (rfl) h83)
          refine r_goto dX7_goes_109 (tgt := 14) rfl ?_
          refine r_iload_n dX7_goes_14 (i := 3) rfl rfl ?_
          refine r_if_eq dX7_goes_15 (tgt := 112) rfl (fun _ => ?_) (fun h => absurd rfl h)
          refine r_iload_n dX7_goes_112 (i := 2) rfl rfl ?_
          exact e_i dX7_goes_113 rfl rfl (Int32.add_zero _) rfl
      · have hz : bi (!decide (r < 0)) = 1 := by simp [bi, hr]
        have hge : 0 ≤ r := Int32.not_lt.mp hr
        have eA12 : hA (12, 0, 0, 0) 1 = nI len := by rw [hX _ (by decide) (by decide)]; exact h12
        have eAc : cF hA len = c := by
          rw [← hcF]
          funext j
          unfold cF
          rw [hX (13, 0, 0, 0) (by decide) (by decide)]
        have eA1 : hA (14, 0, 0, 0) 1 = nI (qO c s).1 := by rw [hSA _ (by decide), hrg 1 (by decide)]; exact hf1
        have hRDA : RDp hA len := ⟨hl, eA12, hWA⟩
        by_cases he : (qO c s).1 = len
        · refine ⟨i + 1, hA, s2, n2, by omega, fun P hP => ?_, hWA, hX, hRA, fun hB h17 h6 hcR h8 h9 => ?_⟩
          · have hlast : V g mX6_carryOut 0 0 0 0 616 35 [some (vR (15, 0, 0, 0)), some (vI (nI (i + 1)))] [] RP hA P := by
              by_cases h80 : i + 1 = 80
              · rw [h80] at hP ⊢
                refine r_iload_n dX6_carryOut_35 (i := 1) rfl rfl ?_
                refine r_bipush dX6_carryOut_36 (v := 80) rfl ?_
                refine r_icmp_ge dX6_carryOut_38 (tgt := 64) rfl (fun _ => ?_) (fun h38 => absurd ((by decide : (80 : Int32) ≤ nI 80)) h38)
                exact hP
              · have nb2 : ¬ (80 : Int32) ≤ nI (i + 1) := nI_ge (b := 80) (by omega) (by decide)
                have hno := tX3_rN_n (g := g) (hp := hA) (f := hA (14, 0, 0, 0)) hRDA (p := (qO c s).1) (by omega) (by omega) eA1 (by
                  rw [eAc, he]
                  intro h
                  have := hc0 len (by rw [h]; decide)
                  omega)
                rw [RQ_self] at hno
                refine r_iload_n dX6_carryOut_35 (i := 1) rfl rfl ?_
                refine r_bipush dX6_carryOut_36 (v := 80) rfl ?_
                refine r_icmp_ge dX6_carryOut_38 (tgt := 64) rfl (fun h38 => absurd h38 (nb2)) (fun _ => ?_)
                refine r_aload_n dX6_carryOut_41 (i := 0) rfl rfl ?_
                refine r_getR dX6_carryOut_42 f_6_43 rfl rfl rfl lv15 ?_
                refine sX6_carryOut_45 (Nat.le_refl _) (Nat.le_refl _) rfl lv14 (Nat.le_of_ble_eq_true rfl) (hno) ?_
                refine r_if_eq dX6_carryOut_48 (tgt := 64) rfl (fun _ => ?_) (fun h48 => absurd (rfl) h48)
                exact hP
            rw [nI_succ] at hlast
            refine r_iload_n dX6_carryOut_35 (i := 1) rfl rfl ?_
            refine r_bipush dX6_carryOut_36 (v := 80) rfl ?_
            refine r_icmp_ge dX6_carryOut_38 (tgt := 64) rfl (fun h38 => absurd h38 (nb)) (fun _ => ?_)
            refine r_aload_n dX6_carryOut_41 (i := 0) rfl rfl ?_
            refine r_getR dX6_carryOut_42 f_6_43 rfl rfl rfl lv15 ?_
            refine sX6_carryOut_45 (Nat.le_refl _) (Nat.le_refl _) rfl lv14 (Nat.le_of_ble_eq_true rfl) (hC) ?_
            refine r_if_eq dX6_carryOut_48 (tgt := 64) rfl (fun h48 => absurd h48 ((show ¬ bi true = 0 by decide))) (fun _ => ?_)
            refine r_aload_n dX6_carryOut_51 (i := 0) rfl rfl ?_
            refine sX6_carryOut_52 (Nat.le_refl _) (Nat.le_refl _) rfl lv15 (Nat.le_of_ble_eq_true rfl) (hAO) ?_
            refine r_if_lt dX6_carryOut_55 (tgt := 64) rfl (fun h55 => absurd h55 (hr)) (fun _ => ?_)
            refine r_inc1 dX6_carryOut_58 rfl (Nat.le_of_ble_eq_true rfl) rfl ?_
            refine r_goto dX6_carryOut_61 (tgt := 35) rfl ?_
            exact hlast
          · obtain ⟨o2, hD, hRO, hDn, hY, hD17, eD8, eD9, eD6⟩ := hRdr hB h17 h6 hcR h8 h9
            rw [hz] at hDn
            refine ⟨hD, fun x4 x5 => ?_, hY, hD17, eD9⟩
            refine r_iload_n dX7_goes_14 (i := 3) rfl rfl ?_
            refine r_if_eq dX7_goes_15 (tgt := 112) rfl (fun h15 => absurd h15 ((by decide))) (fun _ => ?_)
            refine r_aload_n dX7_goes_18 (i := 0) rfl rfl ?_
            refine sX7_goes_19 (Nat.le_refl _) (Nat.le_refl _) rfl lv16 (Nat.le_of_ble_eq_true rfl) (hRO) ?_
            refine r_iload_n dX7_goes_22 (i := 1) rfl rfl ?_
            refine r_if_eq dX7_goes_23 (tgt := 33) rfl (fun h23 => absurd h23 ((by decide))) (fun _ => ?_)
            refine r_aload_n dX7_goes_26 (i := 0) rfl rfl ?_
            refine sX7_goes_27 (Nat.le_refl _) (Nat.le_refl _) rfl lv16 (Nat.le_of_ble_eq_true rfl) (hDn) ?_
            refine r_if_eq dX7_goes_30 (tgt := 37) rfl (fun h30 => absurd h30 ((by decide))) (fun _ => ?_)
            refine r_iconst dX7_goes_33 (v := 1) rfl ?_
            refine r_goto dX7_goes_34 (tgt := 38) rfl ?_
            refine r_istore dX7_goes_38 (Nat.le_of_ble_eq_true rfl) rfl rfl ?_
            refine r_iload_n dX7_goes_40 (i := 2) rfl rfl ?_
            refine r_iload dX7_goes_41 rfl ?_
            refine r_if_eq dX7_goes_43 (tgt := 50) rfl (fun h43 => absurd h43 ((by decide))) (fun _ => ?_)
            refine r_iconst dX7_goes_46 (v := 1) rfl ?_
            refine r_goto dX7_goes_47 (tgt := 51) rfl ?_
            refine r_iadd dX7_goes_51 ?_
            refine r_istore_n dX7_goes_52 (i := 2) rfl (Nat.le_of_ble_eq_true rfl) rfl rfl ?_
            refine r_iload dX7_goes_53 rfl ?_
            refine r_if_eq dX7_goes_55 (tgt := 80) rfl (fun h55 => absurd h55 ((by decide))) (fun _ => ?_)
            refine r_aload_n dX7_goes_58 (i := 0) rfl rfl ?_
            refine r_getI dX7_goes_59 f_7_159 rfl rfl lv16 ?_
            refine r_if_ne dX7_goes_62 (tgt := 80) rfl (fun h62 => absurd ((by rw [eD9]; rfl)) h62) (fun _ => ?_)
            refine r_aload_n dX7_goes_65 (i := 0) rfl rfl ?_
            refine r_getI dX7_goes_66 f_7_163 rfl rfl lv16 ?_
            refine r_aload_n dX7_goes_69 (i := 0) rfl rfl ?_
            refine r_getI dX7_goes_70 f_7_151 rfl rfl lv16 ?_
            refine r_icmp_ge dX7_goes_73 (tgt := 80) rfl (fun _ => ?_) (fun h73 => absurd ((by rw [eD8, eD6, he]; exact Int32.le_refl _)) h73)
            refine r_iconst dX7_goes_80 (v := 0) rfl ?_
            refine r_istore_n dX7_goes_81 (i := 3) rfl (Nat.le_of_ble_eq_true rfl) rfl rfl ?_
            refine r_iload_n dX7_goes_82 (i := 3) rfl rfl ?_
            refine r_if_eq dX7_goes_83 (tgt := 109) rfl (fun _ => ?_) (fun h83 => absurd (rfl) h83)
            refine r_goto dX7_goes_109 (tgt := 14) rfl ?_
            refine r_iload_n dX7_goes_14 (i := 3) rfl rfl ?_
            refine r_if_eq dX7_goes_15 (tgt := 112) rfl (fun _ => ?_) (fun h => absurd rfl h)
            refine r_iload_n dX7_goes_112 (i := 2) rfl rfl ?_
            exact e_i dX7_goes_113 rfl rfl (nI_1 i) rfl
        · rw [if_neg he] at hF
          by_cases hs : c (qO c s).1 = 59
          · rw [if_pos hs] at hF
            have hlt : (qO c s).1 < len := by omega
            have hread := tX3_rN_s (g := g) (hp := hA) (f := hA (14, 0, 0, 0)) hRDA (p := (qO c s).1) (by omega) (by omega) eA1 (by rw [eAc]; exact hs)
            rw [RQ_self, eAc] at hread
            obtain ⟨q, hA2, s3, n3, hq80, hCls, hW2, hX2, hR3, hRf⟩ := ih (i + 1) ((qO c s).1 + 1) hA s2 n2 (by omega) (by omega) (by omega) hF hWA hRA eA12 eAc hread
            refine ⟨q, hA2, s3, n3, hq80, fun P hP => ?_, hW2, hX.trans hX2, hR3, fun hB h17 h6 hcR h8 h9 => ?_⟩
            · have hlast := hCls P hP
              rw [nI_succ] at hlast
              refine r_iload_n dX6_carryOut_35 (i := 1) rfl rfl ?_
              refine r_bipush dX6_carryOut_36 (v := 80) rfl ?_
              refine r_icmp_ge dX6_carryOut_38 (tgt := 64) rfl (fun h38 => absurd h38 (nb)) (fun _ => ?_)
              refine r_aload_n dX6_carryOut_41 (i := 0) rfl rfl ?_
              refine r_getR dX6_carryOut_42 f_6_43 rfl rfl rfl lv15 ?_
              refine sX6_carryOut_45 (Nat.le_refl _) (Nat.le_refl _) rfl lv14 (Nat.le_of_ble_eq_true rfl) (hC) ?_
              refine r_if_eq dX6_carryOut_48 (tgt := 64) rfl (fun h48 => absurd h48 ((show ¬ bi true = 0 by decide))) (fun _ => ?_)
              refine r_aload_n dX6_carryOut_51 (i := 0) rfl rfl ?_
              refine sX6_carryOut_52 (Nat.le_refl _) (Nat.le_refl _) rfl lv15 (Nat.le_of_ble_eq_true rfl) (hAO) ?_
              refine r_if_lt dX6_carryOut_55 (tgt := 64) rfl (fun h55 => absurd h55 (hr)) (fun _ => ?_)
              refine r_inc1 dX6_carryOut_58 rfl (Nat.le_of_ble_eq_true rfl) rfl ?_
              refine r_goto dX6_carryOut_61 (tgt := 35) rfl ?_
              exact hlast
            · obtain ⟨o2, hD, hRO, hDn, hY, hD17, eD8, eD9, eD6⟩ := hRdr hB h17 h6 hcR h8 h9
              rw [hz] at hDn
              have eDc : cRf hD len = c := by
                rw [← hcR]
                funext j
                unfold cRf
                rw [hY.1 (21, 0, 0, 0) (by decide) (by decide) (by decide)]
              have ht := tX7_takes (g := g) (hp := hD) (p := (qO c s).1) (w := false) (o := hD (23, 0, 0, 0)) (lo := 59) (hi := 59) hl eD6 (by omega)
              rw [eDc, PQ_self eD8 eD9] at ht
              have eW : tkW c 59 59 (qO c s).1 false = false := by
                simp [tkW, fIn_one, hs]
              have eP : tkP c 59 59 (qO c s).1 false = (qO c s).1 + 1 := by
                unfold tkP
                rw [eW]
                rfl
              rw [eW, eP] at ht
              obtain ⟨hD2, hgo, hY2, hD172, h92⟩ := hRf (PQ hD ((qO c s).1 + 1) false (hD (23, 0, 0, 0))) (by
                rw [← hD17]
                funext j
                exact PQ_a (by decide) (by decide)) (by rw [PQ_6]; exact eD6) (by
                rw [← eDc]
                funext j
                unfold cRf
                rw [PQ_21]) PQ_8 PQ_9
              refine ⟨hD2, fun x4 x5 => ?_, (hY.trans PQ_Y).trans hY2, hD172, h92⟩
              have hgo2 := hgo (some (vI 1)) (some (vI (c (qO c s).1 - 59)))
              rw [nI_succ] at hgo2
              refine r_iload_n dX7_goes_14 (i := 3) rfl rfl ?_
              refine r_if_eq dX7_goes_15 (tgt := 112) rfl (fun h15 => absurd h15 ((by decide))) (fun _ => ?_)
              refine r_aload_n dX7_goes_18 (i := 0) rfl rfl ?_
              refine sX7_goes_19 (Nat.le_refl _) (Nat.le_refl _) rfl lv16 (Nat.le_of_ble_eq_true rfl) (hRO) ?_
              refine r_iload_n dX7_goes_22 (i := 1) rfl rfl ?_
              refine r_if_eq dX7_goes_23 (tgt := 33) rfl (fun h23 => absurd h23 ((by decide))) (fun _ => ?_)
              refine r_aload_n dX7_goes_26 (i := 0) rfl rfl ?_
              refine sX7_goes_27 (Nat.le_refl _) (Nat.le_refl _) rfl lv16 (Nat.le_of_ble_eq_true rfl) (hDn) ?_
              refine r_if_eq dX7_goes_30 (tgt := 37) rfl (fun h30 => absurd h30 ((by decide))) (fun _ => ?_)
              refine r_iconst dX7_goes_33 (v := 1) rfl ?_
              refine r_goto dX7_goes_34 (tgt := 38) rfl ?_
              refine r_istore dX7_goes_38 (Nat.le_of_ble_eq_true rfl) rfl rfl ?_
              refine r_iload_n dX7_goes_40 (i := 2) rfl rfl ?_
              refine r_iload dX7_goes_41 rfl ?_
              refine r_if_eq dX7_goes_43 (tgt := 50) rfl (fun h43 => absurd h43 ((by decide))) (fun _ => ?_)
              refine r_iconst dX7_goes_46 (v := 1) rfl ?_
              refine r_goto dX7_goes_47 (tgt := 51) rfl ?_
              refine r_iadd dX7_goes_51 ?_
              refine r_istore_n dX7_goes_52 (i := 2) rfl (Nat.le_of_ble_eq_true rfl) rfl rfl ?_
              refine r_iload dX7_goes_53 rfl ?_
              refine r_if_eq dX7_goes_55 (tgt := 80) rfl (fun h55 => absurd h55 ((by decide))) (fun _ => ?_)
              refine r_aload_n dX7_goes_58 (i := 0) rfl rfl ?_
              refine r_getI dX7_goes_59 f_7_159 rfl rfl lv16 ?_
              refine r_if_ne dX7_goes_62 (tgt := 80) rfl (fun h62 => absurd ((by rw [eD9]; rfl)) h62) (fun _ => ?_)
              refine r_aload_n dX7_goes_65 (i := 0) rfl rfl ?_
              refine r_getI dX7_goes_66 f_7_163 rfl rfl lv16 ?_
              refine r_aload_n dX7_goes_69 (i := 0) rfl rfl ?_
              refine r_getI dX7_goes_70 f_7_151 rfl rfl lv16 ?_
              refine r_icmp_ge dX7_goes_73 (tgt := 80) rfl (fun h73 => absurd h73 ((by rw [eD8, eD6]; exact nI_ge hlt (by omega)))) (fun _ => ?_)
              refine r_iconst dX7_goes_76 (v := 1) rfl ?_
              refine r_goto dX7_goes_77 (tgt := 81) rfl ?_
              refine r_istore_n dX7_goes_81 (i := 3) rfl (Nat.le_of_ble_eq_true rfl) rfl rfl ?_
              refine r_iload_n dX7_goes_82 (i := 3) rfl rfl ?_
              refine r_if_eq dX7_goes_83 (tgt := 109) rfl (fun h83 => absurd h83 ((by decide))) (fun _ => ?_)
              refine r_aload_n dX7_goes_86 (i := 0) rfl rfl ?_
              refine r_bipush dX7_goes_87 (v := 59) rfl ?_
              refine r_bipush dX7_goes_89 (v := 59) rfl ?_
              refine sX7_goes_91 (Nat.le_refl _) (Nat.le_refl _) rfl lv16 (Nat.le_of_ble_eq_true rfl) (ht) ?_
              refine r_istore dX7_goes_94 (Nat.le_of_ble_eq_true rfl) rfl rfl ?_
              refine r_aload_n dX7_goes_96 (i := 0) rfl rfl ?_
              refine r_getI dX7_goes_97 f_7_159 rfl rfl lv16 ?_
              refine r_if_ne dX7_goes_100 (tgt := 107) rfl (fun h100 => absurd ((PQ_9 : _ = bi false)) h100) (fun _ => ?_)
              refine r_iconst dX7_goes_103 (v := 1) rfl ?_
              refine r_goto dX7_goes_104 (tgt := 108) rfl ?_
              refine r_istore_n dX7_goes_108 (i := 3) rfl (Nat.le_of_ble_eq_true rfl) rfl rfl ?_
              refine r_goto dX7_goes_109 (tgt := 14) rfl ?_
              exact hgo2
          · rw [if_neg hs] at hF
            cases hF
theorem qO_b {c : Nat → Int32} {p : Nat} : (qO c p).1 ≤ p + 16 := by
  have q1 := @tN_3 c (p + 1) false
  have q4 := @tN_3 c (p + 4) false
  have q5 := @tN_3 c ((tN c (p + 4) false).2.1 + 1) false
  generalize hr : qO c p = r
  unfold qO at hr
  by_cases k1 : c p = 107 ∨ c p = 98
  · rw [if_pos k1] at hr
    by_cases hd : isD (c (p + 1)) = true
    · rw [if_pos hd] at hr
      subst hr
      first | (show _ ≤ _; omega) | (dsimp only; omega)
    · rw [if_neg hd] at hr
      subst hr
      first | (show _ ≤ _; omega) | (dsimp only; omega)
  rw [if_neg k1] at hr
  by_cases k2 : c p = 114 ∨ c p = 117 ∨ c p = 109
  · rw [if_pos k2] at hr
    by_cases hd : isD (c (p + 1)) = true
    · rw [if_pos hd] at hr
      subst hr
      first | (show _ ≤ _; omega) | (dsimp only; omega)
    · rw [if_neg hd] at hr
      subst hr
      first | (show _ ≤ _; omega) | (dsimp only; omega)
  rw [if_neg k2] at hr
  by_cases k3 : c p = 122
  · rw [if_pos k3] at hr
    by_cases hd : fIn (c (p + 1)) 97 98 = true
    · rw [if_pos hd] at hr
      subst hr
      first | (show _ ≤ _; omega) | (dsimp only; omega)
    · rw [if_neg hd] at hr
      subst hr
      first | (show _ ≤ _; omega) | (dsimp only; omega)
  rw [if_neg k3] at hr
  by_cases k4 : c p = 108 ∨ c p = 116
  · rw [if_pos k4] at hr
    by_cases hd : fIn (c (p + 1)) 97 98 = true
    · rw [if_pos hd] at hr
      by_cases hd2 : isD (c (p + 2)) = true
      · rw [if_pos hd2] at hr
        by_cases k5 : c p = 108
        · rw [if_pos k5] at hr
          by_cases k6 : c (p + 3) = 43
          · rw [if_pos k6] at hr
            by_cases hd4 : isD (c (p + 4)) = true
            · rw [if_pos hd4] at hr
              by_cases k7 : c (tN c (p + 4) false).2.1 = 44
              · rw [if_pos k7] at hr
                by_cases hd6 : isD (c ((tN c (p + 4) false).2.1 + 1)) = true
                · rw [if_pos hd6] at hr
                  subst hr
                  first | (show _ ≤ _; omega) | (dsimp only; omega)
                · rw [if_neg hd6] at hr
                  subst hr
                  first | (show _ ≤ _; omega) | (dsimp only; omega)
              · rw [if_neg k7] at hr
                subst hr
                first | (show _ ≤ _; omega) | (dsimp only; omega)
            · rw [if_neg hd4] at hr
              subst hr
              first | (show _ ≤ _; omega) | (dsimp only; omega)
          · rw [if_neg k6] at hr
            subst hr
            first | (show _ ≤ _; omega) | (dsimp only; omega)
        · rw [if_neg k5] at hr
          by_cases k6 : c (p + 3) = 46
          · rw [if_pos k6] at hr
            by_cases hd4 : isD (c (p + 4)) = true
            · rw [if_pos hd4] at hr
              subst hr
              first | (show _ ≤ _; omega) | (dsimp only; omega)
            · rw [if_neg hd4] at hr
              subst hr
              first | (show _ ≤ _; omega) | (dsimp only; omega)
          · rw [if_neg k6] at hr
            subst hr
            first | (show _ ≤ _; omega) | (dsimp only; omega)
      · rw [if_neg hd2] at hr
        subst hr
        first | (show _ ≤ _; omega) | (dsimp only; omega)
    · rw [if_neg hd] at hr
      subst hr
      first | (show _ ≤ _; omega) | (dsimp only; omega)
  rw [if_neg k4] at hr
  subst hr
  first | (show _ ≤ _; omega) | (dsimp only; omega)
theorem qF_b (hl : len ≤ 80) (hc0 : ∀ i, ¬ c i = 0 → i < len) : ∀ k s p, s ≤ len + 1 → qF c len k s = some p → p ≤ len + 17
  | 0, _, _, _, h => by cases h
  | k + 1, s, p, hs, h => by
    rw [qF_s] at h
    have hb := qO_b (c := c) (p := s)
    cases hq : (qO c s).2 with
    | none =>
      rw [if_pos hq] at h
      have e := Option.some.inj h
      omega
    | some a =>
      have hnn : ¬ (qO c s).2 = none := by rw [hq]; exact fun h => by cases h
      rw [if_neg hnn] at h
      obtain ⟨g1, g2⟩ := qO_some hc0 hq
      by_cases he : (qO c s).1 = len
      · rw [if_pos he] at h
        cases h
      · rw [if_neg he] at h
        by_cases h5 : c (qO c s).1 = 59
        · rw [if_pos h5] at h
          exact qF_b hl hc0 k _ p (by omega) h
        · rw [if_neg h5] at h
          have e := Option.some.inj h
          omega
end CRY
