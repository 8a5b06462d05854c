section FFC
variable {g : Gh} {hp : HPt} {len p : Nat} {f : Nat → Int32}
def okc (x : Int32) : Prop := ∃ q : Nat, q < 65536 ∧ x = nI q
theorem qF_s {c : Nat → Int32} {len k p : Nat} : qF c len (k + 1) p = if (qO c p).2 = none then some (qO c p).1 else if (qO c p).1 = len then none else if c (qO c p).1 = 59 then qF c len k ((qO c p).1 + 1) else some (qO c p).1 := rfl
def fNx (c : Nat → Int32) (len k p : Nat) : Option Nat := if p = 0 then qF c len k 0 else if c p = 59 then qF c len k (p + 1) else some p
theorem lX3_firstFault (hR : RDp hp len) : ∀ k i p f, i + k = 80 → (p = 0 ∧ i = 0 ∨ (0 < p ∧ 2 * i ≤ p)) → p ≤ len → f 1 = nI p → okc (f 2) → ∃ f2, V g mX3_firstFault 0 0 0 0 616 6 [some (vR (14, 0, 0, 0)), some (vI (nI i))] [] RP (RQ hp f) (Pi (fAns (fNx (cF hp len) len k p)) (RQ hp f2)) ∧ okc (f2 2) := by
  intro k
  induction k with
  | zero =>
    intro i p f hi hpi hpl hf hfc
    have := hR.1
    omega
  | succ k ih =>
    intro i p f hi hpi hpl hf hfc
    have hl := hR.1
    have hi80 : i < 80 := by omega
    have nb : ¬ (80 : Int32) ≤ nI i := nI_ge (b := 80) hi80 (by decide)
    have step : ∀ p2, (p = 0 ∧ p2 = 0 ∨ p2 = p + 1 ∧ 0 < p) → (∃ f2, Ci g mX3_readsNextOrder [vR (14, 0, 0, 0)] (RQ hp f) (bi (qO (cF hp len) p2).2.isSome) (RQ hp f2) ∧ f2 1 = nI (qO (cF hp len) p2).1 ∧ f2 2 = cF hp len p2 ∧ ∀ a, (qO (cF hp len) p2).2 = some a → FLD f2 (cF hp len p2) a) → ∃ f2, V g mX3_firstFault 0 0 0 0 616 6 [some (vR (14, 0, 0, 0)), some (vI (nI i))] [] RP (RQ hp f) (Pi (fAns (qF (cF hp len) len (k + 1) p2)) (RQ hp f2)) ∧ okc (f2 2) := by
      intro p2 hp2 hC
      obtain ⟨f2, hC, h1, h2, -⟩ := hC
      have hc2 : okc (f2 2) := by rw [h2]; exact cF_ch hR.2.2
      cases hq : (qO (cF hp len) p2).2 with
      | none =>
        rw [hq] at hC
        refine ⟨f2, ?_, hc2⟩
        rw [qF_s, if_pos hq]
        refine r_iload_n dX3_firstFault_6 (i := 1) rfl rfl ?_
        refine r_bipush dX3_firstFault_7 (v := 80) rfl ?_
        refine r_icmp_ge dX3_firstFault_9 (tgt := 47) rfl (fun h9 => absurd h9 (nb)) (fun _ => ?_)
        refine r_aload_n dX3_firstFault_12 (i := 0) rfl rfl ?_
        refine sX3_firstFault_13 (Nat.le_refl _) (Nat.le_refl _) rfl lv14 (Nat.le_of_ble_eq_true rfl) (hC) ?_
        refine r_if_ne dX3_firstFault_16 (tgt := 24) rfl (fun h16 => absurd (rfl) h16) (fun _ => ?_)
        refine r_aload_n dX3_firstFault_19 (i := 0) rfl rfl ?_
        refine r_getI dX3_firstFault_20 f_3_15 rfl rfl lv14 ?_
        exact e_i dX3_firstFault_23 rfl rfl (by rw [RQ_1, h1]; rfl) rfl
      | some a =>
        rw [hq] at hC
        have hn : ¬ (qO (cF hp len) p2).2 = none := by rw [hq]; exact fun h => by cases h
        obtain ⟨q1, q2⟩ := qO_some cF_n0 hq
        by_cases he : (qO (cF hp len) p2).1 = len
        · refine ⟨f2, ?_, hc2⟩
          rw [qF_s, if_neg hn, if_pos he]
          refine r_iload_n dX3_firstFault_6 (i := 1) rfl rfl ?_
          refine r_bipush dX3_firstFault_7 (v := 80) rfl ?_
          refine r_icmp_ge dX3_firstFault_9 (tgt := 47) rfl (fun h9 => absurd h9 (nb)) (fun _ => ?_)
          refine r_aload_n dX3_firstFault_12 (i := 0) rfl rfl ?_
          refine sX3_firstFault_13 (Nat.le_refl _) (Nat.le_refl _) rfl lv14 (Nat.le_of_ble_eq_true rfl) (hC) ?_
          refine r_if_ne dX3_firstFault_16 (tgt := 24) rfl (fun _ => ?_) (fun h16 => absurd h16 ((show ¬ bi true = 0 by decide)))
          refine r_aload_n dX3_firstFault_24 (i := 0) rfl rfl ?_
          refine r_getI dX3_firstFault_25 f_3_15 rfl rfl lv14 ?_
          refine r_aload_n dX3_firstFault_28 (i := 0) rfl rfl ?_
          refine r_getR dX3_firstFault_29 f_3_9 rfl rfl rfl lv14 ?_
          refine r_getI dX3_firstFault_32 f_3_26 rfl rfl lv12 ?_
          refine r_icmp_ne dX3_firstFault_35 (tgt := 41) rfl (fun h35 => absurd ((by rw [RQ_1, h1, RQ_a (by decide), hR.2.1, he])) h35) (fun _ => ?_)
          refine r_bipush dX3_firstFault_38 (v := (-6)) rfl ?_
          exact e_i dX3_firstFault_40 rfl (by first | rfl | exact bi_nar _) (by first | rfl | simp [bi, *]) rfl
        · obtain ⟨f3, hV, hc3⟩ := ih (i + 1) (qO (cF hp len) p2).1 f2 (by omega) (Or.inr (by omega)) q2 h1 hc2
          refine ⟨f3, ?_, hc3⟩
          rw [qF_s, if_neg hn, if_neg he]
          rw [fNx, if_neg (by omega)] at hV
          rw [nI_succ] at hV
          refine r_iload_n dX3_firstFault_6 (i := 1) rfl rfl ?_
          refine r_bipush dX3_firstFault_7 (v := 80) rfl ?_
          refine r_icmp_ge dX3_firstFault_9 (tgt := 47) rfl (fun h9 => absurd h9 (nb)) (fun _ => ?_)
          refine r_aload_n dX3_firstFault_12 (i := 0) rfl rfl ?_
          refine sX3_firstFault_13 (Nat.le_refl _) (Nat.le_refl _) rfl lv14 (Nat.le_of_ble_eq_true rfl) (hC) ?_
          refine r_if_ne dX3_firstFault_16 (tgt := 24) rfl (fun _ => ?_) (fun h16 => absurd h16 ((show ¬ bi true = 0 by decide)))
          refine r_aload_n dX3_firstFault_24 (i := 0) rfl rfl ?_
          refine r_getI dX3_firstFault_25 f_3_15 rfl rfl lv14 ?_
          refine r_aload_n dX3_firstFault_28 (i := 0) rfl rfl ?_
          refine r_getR dX3_firstFault_29 f_3_9 rfl rfl rfl lv14 ?_
          refine r_getI dX3_firstFault_32 f_3_26 rfl rfl lv12 ?_
          refine r_icmp_ne dX3_firstFault_35 (tgt := 41) rfl (fun _ => ?_) (fun h35 => absurd h35 ((by rw [RQ_1, h1, RQ_a (by decide), hR.2.1, nI_eq (by omega) (by omega)]; exact he)))
          refine r_inc1 dX3_firstFault_41 rfl (Nat.le_of_ble_eq_true rfl) rfl ?_
          refine r_goto dX3_firstFault_44 (tgt := 6) rfl ?_
          exact hV
    by_cases h0 : p = 0
    · subst h0
      rw [fNx, if_pos rfl]
      exact step 0 (Or.inl ⟨rfl, rfl⟩) (tX3_rN_0 hR hf)
    · by_cases hs : cF hp len p = 59
      · rw [fNx, if_neg h0, if_pos hs]
        exact step (p + 1) (Or.inr ⟨rfl, by omega⟩) (tX3_rN_s hR (by omega) (by omega) hf hs)
      · rw [fNx, if_neg h0, if_neg hs]
        refine ⟨f, ?_, hfc⟩
        refine r_iload_n dX3_firstFault_6 (i := 1) rfl rfl ?_
        refine r_bipush dX3_firstFault_7 (v := 80) rfl ?_
        refine r_icmp_ge dX3_firstFault_9 (tgt := 47) rfl (fun h9 => absurd h9 (nb)) (fun _ => ?_)
        refine r_aload_n dX3_firstFault_12 (i := 0) rfl rfl ?_
        refine sX3_firstFault_13 (Nat.le_refl _) (Nat.le_refl _) rfl lv14 (Nat.le_of_ble_eq_true rfl) (tX3_rN_n hR (p := p) (by omega) (by omega) hf hs) ?_
        refine r_if_ne dX3_firstFault_16 (tgt := 24) rfl (fun h16 => absurd (rfl) h16) (fun _ => ?_)
        refine r_aload_n dX3_firstFault_19 (i := 0) rfl rfl ?_
        refine r_getI dX3_firstFault_20 f_3_15 rfl rfl lv14 ?_
        exact e_i dX3_firstFault_23 rfl rfl (by rw [RQ_1, hf]; rfl) rfl
theorem tX3_goToStart : Cv g mX3_goToStart [vR (14, 0, 0, 0)] (RQ hp f) (RQ hp (up f 1 (nI 0))) := by
  unfold Cv
  refine r_aload_n dX3_goToStart_0 (i := 0) rfl rfl ?_
  refine r_iconst dX3_goToStart_1 (v := 0) rfl ?_
  refine r_putI dX3_goToStart_2 f_3_15 rfl rfl lv14 ⟨rfl, rfl⟩ ?_
  exact e_v dX3_goToStart_5 rfl (RQ_s (by decide))
theorem tX3_firstFault (hR : RDp hp len) (hfc : okc (f 2)) : ∃ f2, Ci g mX3_firstFault [vR (14, 0, 0, 0)] (RQ hp f) (fAns (qF (cF hp len) len 80 0)) (RQ hp f2) ∧ okc (f2 2) := by
  obtain ⟨f2, hV, hc⟩ := lX3_firstFault (g := g) hR 80 0 0 (up f 1 (nI 0)) rfl (Or.inl ⟨rfl, rfl⟩) (Nat.zero_le _) up_eq (by rw [up_ne (by decide)]; exact hfc)
  refine ⟨f2, ?_, hc⟩
  unfold Ci
  refine r_aload_n dX3_firstFault_0 (i := 0) rfl rfl ?_
  refine sX3_firstFault_1 (Nat.le_refl _) (Nat.le_refl _) rfl lv14 (Nat.le_of_ble_eq_true rfl) (tX3_goToStart) ?_
  refine r_iconst dX3_firstFault_4 (v := 0) rfl ?_
  refine r_istore_n dX3_firstFault_5 (i := 1) rfl (Nat.le_of_ble_eq_true rfl) rfl rfl ?_
  exact hV
theorem tX6_fault (hR : RDp hp len) (hfc : okc (f 2)) : ∃ f2, Ci g mX6_fault [vR (15, 0, 0, 0)] (RQ hp f) (fAns (qF (cF hp len) len 80 0)) (RQ hp f2) ∧ okc (f2 2) := by
  obtain ⟨f2, hV, hc⟩ := tX3_firstFault (g := g) hR hfc
  refine ⟨f2, ?_, hc⟩
  unfold Ci
  refine r_aload_n dX6_fault_0 (i := 0) rfl rfl ?_
  refine r_getR dX6_fault_1 f_6_43 rfl rfl rfl lv15 ?_
  refine sX6_fault_4 (Nat.le_refl _) (Nat.le_refl _) rfl lv14 (Nat.le_of_ble_eq_true rfl) (hV) ?_
  exact e_i dX6_fault_7 rfl (by first | rfl | exact bi_nar _) (by first | rfl | simp [bi, *]) rfl
end FFC
section FFR
variable {g : Gh} {hp : HPt} {len p : Nat} {o : Nat → Int32}
theorem cRf_n0 : ∀ i, ¬ cRf hp len i = 0 → i < len := fun _ h => cRf_lt rfl h
/-- the text's end or fault in the reference -/
def FFQ (q : Option Nat) (p : Nat) (w : Bool) : Prop := match q with
  | none => w = false
  | some x => w = true ∧ p = x
theorem lX7_goesF (hl : len ≤ 80) (hL : hp (16, 0, 0, 0) 6 = nI len) : ∀ k i p o n x4 x5, i + k = 80 → 2 * i ≤ p → p ≤ len → ∃ n2 p2 w2 o2, V g mX7_goes 0 0 0 0 616 14 [some (vR (16, 0, 0, 0)), some (vI 0), some (vI n), some (vI 1), x4, x5] [] RP (PQ hp p false o) (Pi n2 (PQ hp p2 w2 o2)) ∧ FFQ (qF (cRf hp len) len k p) p2 w2 := by
  intro k
  induction k with
  | zero =>
    intro i p o n x4 x5 hi hpi hpl
    omega
  | succ k ih =>
    intro i p o n x4 x5 hi hpi hpl
    obtain ⟨o2, hC, -⟩ := RdR_all (g := g) (o := o) hl hL hpl
    cases hq : (qO (cRf hp len) p).2 with
    | none =>
      rw [hq] at hC
      refine ⟨n + 1, (qO (cRf hp len) p).1, true, o2, ?_, ?_⟩
      · refine r_iload_n dX7_goes_14 (i := 3) rfl rfl ?_
        refine r_if_eq dX7_goes_15 (tgt := 112) rfl (fun h15 => absurd h15 ((by decide))) (fun _ => ?_)
        refine r_aload_n dX7_goes_18 (i := 0) rfl rfl ?_
        refine sX7_goes_19 (Nat.le_refl _) (Nat.le_refl _) rfl lv16 (Nat.le_of_ble_eq_true rfl) (hC) ?_
        refine r_iload_n dX7_goes_22 (i := 1) rfl rfl ?_
        refine r_if_eq dX7_goes_23 (tgt := 33) rfl (fun _ => ?_) (fun h23 => absurd (rfl) h23)
        refine r_iconst dX7_goes_33 (v := 1) rfl ?_
        refine r_goto dX7_goes_34 (tgt := 38) rfl ?_
        refine r_istore dX7_goes_38 (Nat.le_of_ble_eq_true rfl) rfl rfl ?_
        refine r_iload_n dX7_goes_40 (i := 2) rfl rfl ?_
        refine r_iload dX7_goes_41 rfl ?_
        refine r_if_eq dX7_goes_43 (tgt := 50) rfl (fun h43 => absurd h43 ((by decide))) (fun _ => ?_)
        refine r_iconst dX7_goes_46 (v := 1) rfl ?_
        refine r_goto dX7_goes_47 (tgt := 51) rfl ?_
        refine r_iadd dX7_goes_51 ?_
        refine r_istore_n dX7_goes_52 (i := 2) rfl (Nat.le_of_ble_eq_true rfl) rfl rfl ?_
        refine r_iload dX7_goes_53 rfl ?_
        refine r_if_eq dX7_goes_55 (tgt := 80) rfl (fun h55 => absurd h55 ((by decide))) (fun _ => ?_)
        refine r_aload_n dX7_goes_58 (i := 0) rfl rfl ?_
        refine r_getI dX7_goes_59 f_7_159 rfl rfl lv16 ?_
        refine r_if_ne dX7_goes_62 (tgt := 80) rfl (fun _ => ?_) (fun h62 => absurd h62 ((by rw [PQ_9]; decide)))
        refine r_iconst dX7_goes_80 (v := 0) rfl ?_
        refine r_istore_n dX7_goes_81 (i := 3) rfl (Nat.le_of_ble_eq_true rfl) rfl rfl ?_
        refine r_iload_n dX7_goes_82 (i := 3) rfl rfl ?_
        refine r_if_eq dX7_goes_83 (tgt := 109) rfl (fun _ => ?_) (fun h83 => absurd (rfl) h83)
        refine r_goto dX7_goes_109 (tgt := 14) rfl ?_
        refine r_iload_n dX7_goes_14 (i := 3) rfl rfl ?_
        refine r_if_eq dX7_goes_15 (tgt := 112) rfl (fun _ => ?_) (fun h => absurd rfl h)
        refine r_iload_n dX7_goes_112 (i := 2) rfl rfl ?_
        exact e_i dX7_goes_113 rfl rfl rfl rfl
      · rw [qF_s, if_pos hq]
        exact ⟨rfl, rfl⟩
    | some a =>
      rw [hq] at hC
      have hn : ¬ (qO (cRf hp len) p).2 = none := by rw [hq]; exact fun h => by cases h
      obtain ⟨q1, q2⟩ := qO_some cRf_n0 hq
      by_cases he : (qO (cRf hp len) p).1 = len
      · refine ⟨n + 1, (qO (cRf hp len) p).1, false, o2, ?_, ?_⟩
        · refine r_iload_n dX7_goes_14 (i := 3) rfl rfl ?_
          refine r_if_eq dX7_goes_15 (tgt := 112) rfl (fun h15 => absurd h15 ((by decide))) (fun _ => ?_)
          refine r_aload_n dX7_goes_18 (i := 0) rfl rfl ?_
          refine sX7_goes_19 (Nat.le_refl _) (Nat.le_refl _) rfl lv16 (Nat.le_of_ble_eq_true rfl) (hC) ?_
          refine r_iload_n dX7_goes_22 (i := 1) rfl rfl ?_
          refine r_if_eq dX7_goes_23 (tgt := 33) rfl (fun _ => ?_) (fun h23 => absurd (rfl) h23)
          refine r_iconst dX7_goes_33 (v := 1) rfl ?_
          refine r_goto dX7_goes_34 (tgt := 38) rfl ?_
          refine r_istore dX7_goes_38 (Nat.le_of_ble_eq_true rfl) rfl rfl ?_
          refine r_iload_n dX7_goes_40 (i := 2) rfl rfl ?_
          refine r_iload dX7_goes_41 rfl ?_
          refine r_if_eq dX7_goes_43 (tgt := 50) rfl (fun h43 => absurd h43 ((by decide))) (fun _ => ?_)
          refine r_iconst dX7_goes_46 (v := 1) rfl ?_
          refine r_goto dX7_goes_47 (tgt := 51) rfl ?_
          refine r_iadd dX7_goes_51 ?_
          refine r_istore_n dX7_goes_52 (i := 2) rfl (Nat.le_of_ble_eq_true rfl) rfl rfl ?_
          refine r_iload dX7_goes_53 rfl ?_
          refine r_if_eq dX7_goes_55 (tgt := 80) rfl (fun h55 => absurd h55 ((by decide))) (fun _ => ?_)
          refine r_aload_n dX7_goes_58 (i := 0) rfl rfl ?_
          refine r_getI dX7_goes_59 f_7_159 rfl rfl lv16 ?_
          refine r_if_ne dX7_goes_62 (tgt := 80) rfl (fun h62 => absurd ((PQ_9 : _ = bi false)) h62) (fun _ => ?_)
          refine r_aload_n dX7_goes_65 (i := 0) rfl rfl ?_
          refine r_getI dX7_goes_66 f_7_163 rfl rfl lv16 ?_
          refine r_aload_n dX7_goes_69 (i := 0) rfl rfl ?_
          refine r_getI dX7_goes_70 f_7_151 rfl rfl lv16 ?_
          refine r_icmp_ge dX7_goes_73 (tgt := 80) rfl (fun _ => ?_) (fun h73 => absurd ((by rw [PQ_8, PQ_6, hL, he]; exact Int32.le_refl _)) h73)
          refine r_iconst dX7_goes_80 (v := 0) rfl ?_
          refine r_istore_n dX7_goes_81 (i := 3) rfl (Nat.le_of_ble_eq_true rfl) rfl rfl ?_
          refine r_iload_n dX7_goes_82 (i := 3) rfl rfl ?_
          refine r_if_eq dX7_goes_83 (tgt := 109) rfl (fun _ => ?_) (fun h83 => absurd (rfl) h83)
          refine r_goto dX7_goes_109 (tgt := 14) rfl ?_
          refine r_iload_n dX7_goes_14 (i := 3) rfl rfl ?_
          refine r_if_eq dX7_goes_15 (tgt := 112) rfl (fun _ => ?_) (fun h => absurd rfl h)
          refine r_iload_n dX7_goes_112 (i := 2) rfl rfl ?_
          exact e_i dX7_goes_113 rfl rfl rfl rfl
        · rw [qF_s, if_neg hn, if_pos he]
          rfl
      · have hlt : (qO (cRf hp len) p).1 < len := by omega
        have ht := tX7_takes (g := g) (hp := hp) (w := false) (o := o2) (lo := 59) (hi := 59) hl hL q2
        by_cases hs : cRf hp len (qO (cRf hp len) p).1 = 59
        · have eW : tkW (cRf hp len) 59 59 (qO (cRf hp len) p).1 false = false := by
            simp [tkW, fIn_one, hs]
          have eP : tkP (cRf hp len) 59 59 (qO (cRf hp len) p).1 false = (qO (cRf hp len) p).1 + 1 := by
            unfold tkP
            rw [eW]
            rfl
          rw [eW, eP] at ht
          obtain ⟨n2, p2, w2, o3, hV, hQ⟩ := ih (i + 1) ((qO (cRf hp len) p).1 + 1) o2 (n + 1) (some (vI 1)) (some (vI (cRf hp len (qO (cRf hp len) p).1 - 59))) (by omega) (by omega) (by omega)
          refine ⟨n2, p2, w2, o3, ?_, ?_⟩
          · refine r_iload_n dX7_goes_14 (i := 3) rfl rfl ?_
            refine r_if_eq dX7_goes_15 (tgt := 112) rfl (fun h15 => absurd h15 ((by decide))) (fun _ => ?_)
            refine r_aload_n dX7_goes_18 (i := 0) rfl rfl ?_
            refine sX7_goes_19 (Nat.le_refl _) (Nat.le_refl _) rfl lv16 (Nat.le_of_ble_eq_true rfl) (hC) ?_
            refine r_iload_n dX7_goes_22 (i := 1) rfl rfl ?_
            refine r_if_eq dX7_goes_23 (tgt := 33) rfl (fun _ => ?_) (fun h23 => absurd (rfl) h23)
            refine r_iconst dX7_goes_33 (v := 1) rfl ?_
            refine r_goto dX7_goes_34 (tgt := 38) rfl ?_
            refine r_istore dX7_goes_38 (Nat.le_of_ble_eq_true rfl) rfl rfl ?_
            refine r_iload_n dX7_goes_40 (i := 2) rfl rfl ?_
            refine r_iload dX7_goes_41 rfl ?_
            refine r_if_eq dX7_goes_43 (tgt := 50) rfl (fun h43 => absurd h43 ((by decide))) (fun _ => ?_)
            refine r_iconst dX7_goes_46 (v := 1) rfl ?_
            refine r_goto dX7_goes_47 (tgt := 51) rfl ?_
            refine r_iadd dX7_goes_51 ?_
            refine r_istore_n dX7_goes_52 (i := 2) rfl (Nat.le_of_ble_eq_true rfl) rfl rfl ?_
            refine r_iload dX7_goes_53 rfl ?_
            refine r_if_eq dX7_goes_55 (tgt := 80) rfl (fun h55 => absurd h55 ((by decide))) (fun _ => ?_)
            refine r_aload_n dX7_goes_58 (i := 0) rfl rfl ?_
            refine r_getI dX7_goes_59 f_7_159 rfl rfl lv16 ?_
            refine r_if_ne dX7_goes_62 (tgt := 80) rfl (fun h62 => absurd ((PQ_9 : _ = bi false)) h62) (fun _ => ?_)
            refine r_aload_n dX7_goes_65 (i := 0) rfl rfl ?_
            refine r_getI dX7_goes_66 f_7_163 rfl rfl lv16 ?_
            refine r_aload_n dX7_goes_69 (i := 0) rfl rfl ?_
            refine r_getI dX7_goes_70 f_7_151 rfl rfl lv16 ?_
            refine r_icmp_ge dX7_goes_73 (tgt := 80) rfl (fun h73 => absurd h73 ((by rw [PQ_8, PQ_6, hL]; exact nI_ge hlt (by omega)))) (fun _ => ?_)
            refine r_iconst dX7_goes_76 (v := 1) rfl ?_
            refine r_goto dX7_goes_77 (tgt := 81) rfl ?_
            refine r_istore_n dX7_goes_81 (i := 3) rfl (Nat.le_of_ble_eq_true rfl) rfl rfl ?_
            refine r_iload_n dX7_goes_82 (i := 3) rfl rfl ?_
            refine r_if_eq dX7_goes_83 (tgt := 109) rfl (fun h83 => absurd h83 ((by decide))) (fun _ => ?_)
            refine r_aload_n dX7_goes_86 (i := 0) rfl rfl ?_
            refine r_bipush dX7_goes_87 (v := 59) rfl ?_
            refine r_bipush dX7_goes_89 (v := 59) rfl ?_
            refine sX7_goes_91 (Nat.le_refl _) (Nat.le_refl _) rfl lv16 (Nat.le_of_ble_eq_true rfl) (ht) ?_
            refine r_istore dX7_goes_94 (Nat.le_of_ble_eq_true rfl) rfl rfl ?_
            refine r_aload_n dX7_goes_96 (i := 0) rfl rfl ?_
            refine r_getI dX7_goes_97 f_7_159 rfl rfl lv16 ?_
            refine r_if_ne dX7_goes_100 (tgt := 107) rfl (fun h100 => absurd ((PQ_9 : _ = bi false)) h100) (fun _ => ?_)
            refine r_iconst dX7_goes_103 (v := 1) rfl ?_
            refine r_goto dX7_goes_104 (tgt := 108) rfl ?_
            refine r_istore_n dX7_goes_108 (i := 3) rfl (Nat.le_of_ble_eq_true rfl) rfl rfl ?_
            refine r_goto dX7_goes_109 (tgt := 14) rfl ?_
            exact hV
          · rw [qF_s, if_neg hn, if_neg he, if_pos hs]
            exact hQ
        · have eW : tkW (cRf hp len) 59 59 (qO (cRf hp len) p).1 false = true := by
            simp [tkW, fIn_one, hs]
          have eP : tkP (cRf hp len) 59 59 (qO (cRf hp len) p).1 false = (qO (cRf hp len) p).1 := by
            unfold tkP
            rw [eW]
            rfl
          rw [eW, eP] at ht
          refine ⟨n + 1, (qO (cRf hp len) p).1, true, o2, ?_, ?_⟩
          · refine r_iload_n dX7_goes_14 (i := 3) rfl rfl ?_
            refine r_if_eq dX7_goes_15 (tgt := 112) rfl (fun h15 => absurd h15 ((by decide))) (fun _ => ?_)
            refine r_aload_n dX7_goes_18 (i := 0) rfl rfl ?_
            refine sX7_goes_19 (Nat.le_refl _) (Nat.le_refl _) rfl lv16 (Nat.le_of_ble_eq_true rfl) (hC) ?_
            refine r_iload_n dX7_goes_22 (i := 1) rfl rfl ?_
            refine r_if_eq dX7_goes_23 (tgt := 33) rfl (fun _ => ?_) (fun h23 => absurd (rfl) h23)
            refine r_iconst dX7_goes_33 (v := 1) rfl ?_
            refine r_goto dX7_goes_34 (tgt := 38) rfl ?_
            refine r_istore dX7_goes_38 (Nat.le_of_ble_eq_true rfl) rfl rfl ?_
            refine r_iload_n dX7_goes_40 (i := 2) rfl rfl ?_
            refine r_iload dX7_goes_41 rfl ?_
            refine r_if_eq dX7_goes_43 (tgt := 50) rfl (fun h43 => absurd h43 ((by decide))) (fun _ => ?_)
            refine r_iconst dX7_goes_46 (v := 1) rfl ?_
            refine r_goto dX7_goes_47 (tgt := 51) rfl ?_
            refine r_iadd dX7_goes_51 ?_
            refine r_istore_n dX7_goes_52 (i := 2) rfl (Nat.le_of_ble_eq_true rfl) rfl rfl ?_
            refine r_iload dX7_goes_53 rfl ?_
            refine r_if_eq dX7_goes_55 (tgt := 80) rfl (fun h55 => absurd h55 ((by decide))) (fun _ => ?_)
            refine r_aload_n dX7_goes_58 (i := 0) rfl rfl ?_
            refine r_getI dX7_goes_59 f_7_159 rfl rfl lv16 ?_
            refine r_if_ne dX7_goes_62 (tgt := 80) rfl (fun h62 => absurd ((PQ_9 : _ = bi false)) h62) (fun _ => ?_)
            refine r_aload_n dX7_goes_65 (i := 0) rfl rfl ?_
            refine r_getI dX7_goes_66 f_7_163 rfl rfl lv16 ?_
            refine r_aload_n dX7_goes_69 (i := 0) rfl rfl ?_
            refine r_getI dX7_goes_70 f_7_151 rfl rfl lv16 ?_
            refine r_icmp_ge dX7_goes_73 (tgt := 80) rfl (fun h73 => absurd h73 ((by rw [PQ_8, PQ_6, hL]; exact nI_ge hlt (by omega)))) (fun _ => ?_)
            refine r_iconst dX7_goes_76 (v := 1) rfl ?_
            refine r_goto dX7_goes_77 (tgt := 81) rfl ?_
            refine r_istore_n dX7_goes_81 (i := 3) rfl (Nat.le_of_ble_eq_true rfl) rfl rfl ?_
            refine r_iload_n dX7_goes_82 (i := 3) rfl rfl ?_
            refine r_if_eq dX7_goes_83 (tgt := 109) rfl (fun h83 => absurd h83 ((by decide))) (fun _ => ?_)
            refine r_aload_n dX7_goes_86 (i := 0) rfl rfl ?_
            refine r_bipush dX7_goes_87 (v := 59) rfl ?_
            refine r_bipush dX7_goes_89 (v := 59) rfl ?_
            refine sX7_goes_91 (Nat.le_refl _) (Nat.le_refl _) rfl lv16 (Nat.le_of_ble_eq_true rfl) (ht) ?_
            refine r_istore dX7_goes_94 (Nat.le_of_ble_eq_true rfl) rfl rfl ?_
            refine r_aload_n dX7_goes_96 (i := 0) rfl rfl ?_
            refine r_getI dX7_goes_97 f_7_159 rfl rfl lv16 ?_
            refine r_if_ne dX7_goes_100 (tgt := 107) rfl (fun _ => ?_) (fun h100 => absurd h100 ((by rw [PQ_9]; decide)))
            refine r_iconst dX7_goes_107 (v := 0) rfl ?_
            refine r_istore_n dX7_goes_108 (i := 3) rfl (Nat.le_of_ble_eq_true rfl) rfl rfl ?_
            refine r_goto dX7_goes_109 (tgt := 14) rfl ?_
            refine r_iload_n dX7_goes_14 (i := 3) rfl rfl ?_
            refine r_if_eq dX7_goes_15 (tgt := 112) rfl (fun _ => ?_) (fun h => absurd rfl h)
            refine r_iload_n dX7_goes_112 (i := 2) rfl rfl ?_
            exact e_i dX7_goes_113 rfl rfl rfl rfl
          · rw [qF_s, if_neg hn, if_neg he, if_neg hs]
            exact ⟨rfl, rfl⟩
theorem tX7_goesF (hl : len ≤ 80) (hL : hp (16, 0, 0, 0) 6 = nI len) : ∃ n2 p2 w2 o2, Ci g mX7_goes [vR (16, 0, 0, 0), vI 0] hp n2 (PQ hp p2 w2 o2) ∧ FFQ (qF (cRf hp len) len 80 0) p2 w2 := by
  obtain ⟨n2, p2, w2, o2, hV, hQ⟩ := lX7_goesF (g := g) hl hL 80 0 0 (hp (23, 0, 0, 0)) 0 none none rfl (Nat.le_refl _) (Nat.zero_le _)
  refine ⟨n2, p2, w2, o2, ?_, hQ⟩
  unfold Ci
  refine r_aload_n dX7_goes_0 (i := 0) rfl rfl ?_
  refine r_iconst dX7_goes_1 (v := 0) rfl ?_
  refine r_putI dX7_goes_2 f_7_163 rfl rfl lv16 ⟨rfl, rfl⟩ ?_
  refine r_aload_n dX7_goes_5 (i := 0) rfl rfl ?_
  refine r_iconst dX7_goes_6 (v := 0) rfl ?_
  refine r_putI dX7_goes_7 f_7_159 rfl rfl lv16 ⟨rfl, rfl⟩ ?_
  refine V.eqH PQ_in ?_
  refine r_iconst dX7_goes_10 (v := 0) rfl ?_
  refine r_istore_n dX7_goes_11 (i := 2) rfl (Nat.le_of_ble_eq_true rfl) rfl rfl ?_
  refine r_iconst dX7_goes_12 (v := 1) rfl ?_
  refine r_istore_n dX7_goes_13 (i := 3) rfl (Nat.le_of_ble_eq_true rfl) rfl rfl ?_
  exact hV
theorem tX7_fault (hl : len ≤ 80) (hL : hp (16, 0, 0, 0) 6 = nI len) : ∃ p2 w2 o2, Ci g mX7_fault [vR (16, 0, 0, 0)] hp (fAns (qF (cRf hp len) len 80 0)) (PQ hp p2 w2 o2) := by
  obtain ⟨n2, p2, w2, o2, hV, hQ⟩ := tX7_goesF (g := g) hl hL
  refine ⟨p2, w2, o2, ?_⟩
  unfold Ci
  cases hq : qF (cRf hp len) len 80 0 with
  | none =>
    rw [hq] at hQ
    have hw : w2 = false := hQ
    subst hw
    refine r_aload_n dX7_fault_0 (i := 0) rfl rfl ?_
    refine r_iconst dX7_fault_1 (v := 0) rfl ?_
    refine sX7_fault_2 (Nat.le_refl _) (Nat.le_refl _) rfl lv16 (Nat.le_of_ble_eq_true rfl) (hV) ?_
    refine r_istore_n dX7_fault_5 (i := 1) rfl (Nat.le_of_ble_eq_true rfl) rfl rfl ?_
    refine r_aload_n dX7_fault_6 (i := 0) rfl rfl ?_
    refine r_getI dX7_fault_7 f_7_159 rfl rfl lv16 ?_
    refine r_if_eq dX7_fault_10 (tgt := 20) rfl (fun _ => ?_) (fun h10 => absurd ((PQ_9 : _ = bi false)) h10)
    refine r_bipush dX7_fault_20 (v := (-6)) rfl ?_
    exact e_i dX7_fault_22 rfl (by first | rfl | exact bi_nar _) (by first | rfl | simp [bi, *]) rfl
  | some x =>
    rw [hq] at hQ
    obtain ⟨rfl, rfl⟩ := hQ
    refine r_aload_n dX7_fault_0 (i := 0) rfl rfl ?_
    refine r_iconst dX7_fault_1 (v := 0) rfl ?_
    refine sX7_fault_2 (Nat.le_refl _) (Nat.le_refl _) rfl lv16 (Nat.le_of_ble_eq_true rfl) (hV) ?_
    refine r_istore_n dX7_fault_5 (i := 1) rfl (Nat.le_of_ble_eq_true rfl) rfl rfl ?_
    refine r_aload_n dX7_fault_6 (i := 0) rfl rfl ?_
    refine r_getI dX7_fault_7 f_7_159 rfl rfl lv16 ?_
    refine r_if_eq dX7_fault_10 (tgt := 20) rfl (fun h10 => absurd h10 ((by rw [PQ_9]; decide))) (fun _ => ?_)
    refine r_aload_n dX7_fault_13 (i := 0) rfl rfl ?_
    refine r_getI dX7_fault_14 f_7_163 rfl rfl lv16 ?_
    refine r_goto dX7_fault_17 (tgt := 22) rfl ?_
    exact e_i dX7_fault_22 rfl rfl PQ_8 rfl
end FFR
