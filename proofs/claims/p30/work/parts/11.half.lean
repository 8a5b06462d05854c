theorem tX0_partWith {g : Gh} {t j b : Nat} {hp : HPt} {o : Int32} (ht : t < 10) (hj : j < 8) (hb : b < 2) : Ci g mX0_partWith [vR (5, t, j, b), vI o] hp (jrem (hp (6, t, j, b) 0 + o) 256) hp := by
  unfold Ci
  refine r_aload_n dX0_partWith_0 (i := 0) rfl rfl ?_
  refine r_getR dX0_partWith_1 f_0_9 rfl rfl rfl (lv5 (by first | assumption | decide | omega) (by first | assumption | decide | omega) (by first | assumption | decide | omega)) ?_
  refine r_iconst dX0_partWith_4 (v := 0) rfl ?_
  refine n_iald dX0_partWith_5 rfl (lv6 (by first | assumption | decide | omega) (by first | assumption | decide | omega) (by first | assumption | decide | omega)) (k := 0) rfl (by decide) ?_
  refine r_iload_n dX0_partWith_6 (i := 1) rfl rfl ?_
  refine r_iadd dX0_partWith_7 ?_
  refine r_sipush dX0_partWith_8 (v := 256) rfl ?_
  refine r_irem dX0_partWith_11 (by decide) ?_
  exact e_i dX0_partWith_12 rfl (by first | rfl | exact bi_nar _) (by first | rfl | simp [bi, *]) rfl
theorem tX0_toldPart {g : Gh} {t j b : Nat} {hp : HPt} (ht : t < 10) (hj : j < 8) (hb : b < 2) : Ci g mX0_toldPart [vR (5, t, j, b)] hp (jrem (hp (6, t, j, b) 0 + hp (5, t, j, b) 5) 256) hp := by
  unfold Ci
  refine r_aload_n dX0_toldPart_0 (i := 0) rfl rfl ?_
  refine r_aload_n dX0_toldPart_1 (i := 0) rfl rfl ?_
  refine r_getI dX0_toldPart_2 f_0_29 rfl rfl (lv5 (by first | assumption | decide | omega) (by first | assumption | decide | omega) (by first | assumption | decide | omega)) ?_
  refine sX0_toldPart_5 (Nat.le_refl _) (Nat.le_refl _) rfl (lv5 (by first | assumption | decide | omega) (by first | assumption | decide | omega) (by first | assumption | decide | omega)) (Nat.le_of_ble_eq_true rfl) (tX0_partWith ht hj hb) ?_
  exact e_i dX0_toldPart_8 rfl (by first | rfl | exact bi_nar _) (by first | rfl | simp [bi, *]) rfl
theorem tX0_toldTag {g : Gh} {t j b : Nat} {hp : HPt} (ht : t < 10) (hj : j < 8) (hb : b < 2) : Ci g mX0_toldTag [vR (5, t, j, b)] hp (jrem (hp (5, t, j, b) 2 + hp (5, t, j, b) 6) 257) hp := by
  unfold Ci
  refine r_aload_n dX0_toldTag_0 (i := 0) rfl rfl ?_
  refine r_getI dX0_toldTag_1 f_0_19 rfl rfl (lv5 (by first | assumption | decide | omega) (by first | assumption | decide | omega) (by first | assumption | decide | omega)) ?_
  refine r_aload_n dX0_toldTag_4 (i := 0) rfl rfl ?_
  refine r_getI dX0_toldTag_5 f_0_32 rfl rfl (lv5 (by first | assumption | decide | omega) (by first | assumption | decide | omega) (by first | assumption | decide | omega)) ?_
  refine r_iadd dX0_toldTag_8 ?_
  refine r_sipush dX0_toldTag_9 (v := 257) rfl ?_
  refine r_irem dX0_toldTag_12 (by decide) ?_
  exact e_i dX0_toldTag_13 rfl (by first | rfl | exact bi_nar _) (by first | rfl | simp [bi, *]) rfl
theorem tX0_tagDueFor {g : Gh} {t j b : Nat} {hp : HPt} {o : Int32} (ht : t < 10) (hj : j < 8) (hb : b < 2) : Ci g mX0_tagDueFor [vR (5, t, j, b), vI o] hp (jrem (hp (5, t, j, b) 3 * o + hp (5, t, j, b) 4) 257) hp := by
  unfold Ci
  refine r_aload_n dX0_tagDueFor_0 (i := 0) rfl rfl ?_
  refine r_getI dX0_tagDueFor_1 f_0_23 rfl rfl (lv5 (by first | assumption | decide | omega) (by first | assumption | decide | omega) (by first | assumption | decide | omega)) ?_
  refine r_iload_n dX0_tagDueFor_4 (i := 1) rfl rfl ?_
  refine r_imul dX0_tagDueFor_5 ?_
  refine r_aload_n dX0_tagDueFor_6 (i := 0) rfl rfl ?_
  refine r_getI dX0_tagDueFor_7 f_0_26 rfl rfl (lv5 (by first | assumption | decide | omega) (by first | assumption | decide | omega) (by first | assumption | decide | omega)) ?_
  refine r_iadd dX0_tagDueFor_10 ?_
  refine r_sipush dX0_tagDueFor_11 (v := 257) rfl ?_
  refine r_irem dX0_tagDueFor_14 (by decide) ?_
  exact e_i dX0_tagDueFor_15 rfl (by first | rfl | exact bi_nar _) (by first | rfl | simp [bi, *]) rfl
/-- whether an offset is above 0 -/
def fLies (o q : Int32) : Bool := decide (0 < o) || decide (0 < q)
theorem tX0_lies {g : Gh} {t j b : Nat} {hp : HPt} (ht : t < 10) (hj : j < 8) (hb : b < 2) : Ci g mX0_lies [vR (5, t, j, b)] hp (bi (fLies (hp (5, t, j, b) 5) (hp (5, t, j, b) 6))) hp := by
  unfold Ci
  refine r_aload_n dX0_lies_0 (i := 0) rfl rfl ?_
  refine r_getI dX0_lies_1 f_0_29 rfl rfl (lv5 (by first | assumption | decide | omega) (by first | assumption | decide | omega) (by first | assumption | decide | omega)) ?_
  refine r_if_gt dX0_lies_4 (tgt := 14) rfl (fun h4 => ?_) (fun h4 => ?_)
  · refine r_iconst dX0_lies_14 (v := 1) rfl ?_
    refine r_goto dX0_lies_15 (tgt := 19) rfl ?_
    exact e_i dX0_lies_19 rfl (by first | rfl | exact bi_nar _) (by first | rfl | simp_all [bi, fLies]) rfl
  · refine r_aload_n dX0_lies_7 (i := 0) rfl rfl ?_
    refine r_getI dX0_lies_8 f_0_32 rfl rfl (lv5 (by first | assumption | decide | omega) (by first | assumption | decide | omega) (by first | assumption | decide | omega)) ?_
    refine r_if_le dX0_lies_11 (tgt := 18) rfl (fun h11 => ?_) (fun h11 => ?_)
    · refine r_iconst dX0_lies_18 (v := 0) rfl ?_
      exact e_i dX0_lies_19 rfl (by first | rfl | exact bi_nar _) (by first | rfl | simp_all [bi, fLies]) rfl
    · refine r_iconst dX0_lies_14 (v := 1) rfl ?_
      refine r_goto dX0_lies_15 (tgt := 19) rfl ?_
      exact e_i dX0_lies_19 rfl (by first | rfl | exact bi_nar _) (by first | rfl | simp_all [bi, fLies]) rfl
/-- whether a half finds a lie of the other: factor, sum, part, offset, tag, its offset -/
def fCatch (f u p o q w : Int32) : Bool := !decide (jrem (f * jrem (p + o) 256 + u) 257 = jrem (q + w) 257)
theorem tX0_catches {g : Gh} {t j b c : Nat} {hp : HPt} (ht : t < 10) (hj : j < 8) (hb : b < 2) (hc : c < 2) : Ci g mX0_catches [vR (5, t, j, b), vR (5, t, j, c)] hp (bi (fCatch (hp (5, t, j, b) 3) (hp (5, t, j, b) 4) (hp (6, t, j, c) 0) (hp (5, t, j, c) 5) (hp (5, t, j, c) 2) (hp (5, t, j, c) 6))) hp := by
  unfold Ci
  refine r_aload_n dX0_catches_0 (i := 0) rfl rfl ?_
  refine r_aload_n dX0_catches_1 (i := 1) rfl rfl ?_
  refine sX0_catches_2 (Nat.le_refl _) (Nat.le_refl _) rfl (lv5 (by first | assumption | decide | omega) (by first | assumption | decide | omega) (by first | assumption | decide | omega)) (Nat.le_of_ble_eq_true rfl) (tX0_toldPart ht hj hc) ?_
  refine sX0_catches_5 (Nat.le_refl _) (Nat.le_refl _) rfl (lv5 (by first | assumption | decide | omega) (by first | assumption | decide | omega) (by first | assumption | decide | omega)) (Nat.le_of_ble_eq_true rfl) (tX0_tagDueFor ht hj hb) ?_
  refine r_aload_n dX0_catches_8 (i := 1) rfl rfl ?_
  refine sX0_catches_9 (Nat.le_refl _) (Nat.le_refl _) rfl (lv5 (by first | assumption | decide | omega) (by first | assumption | decide | omega) (by first | assumption | decide | omega)) (Nat.le_of_ble_eq_true rfl) (tX0_toldTag ht hj hc) ?_
  refine r_icmp_eq dX0_catches_12 (tgt := 19) rfl (fun h12 => ?_) (fun h12 => ?_)
  · refine r_iconst dX0_catches_19 (v := 0) rfl ?_
    exact e_i dX0_catches_20 rfl (by first | rfl | exact bi_nar _) (by first | rfl | simp_all [bi, fCatch]) rfl
  · refine r_iconst dX0_catches_15 (v := 1) rfl ?_
    refine r_goto dX0_catches_16 (tgt := 20) rfl ?_
    exact e_i dX0_catches_20 rfl (by first | rfl | exact bi_nar _) (by first | rfl | simp_all [bi, fCatch]) rfl
