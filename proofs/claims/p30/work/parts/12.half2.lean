/-- the words of a heap that are truths, or signs -/
def bK (k i : Nat) : Bool := Nat.beq k 7 || Nat.beq k 3 || Nat.beq k 11 || (Nat.beq k 4 && Nat.beq i 9)
def cK (k i : Nat) : Bool := Nat.beq k 13 || (Nat.beq k 14 && Nat.beq i 2)
def okv (k i : Nat) (x : Int32) : Prop := (bK k i = true → x = 0 ∨ x = 1) ∧ (cK k i = true → ∃ q : Nat, q < 65536 ∧ x = nI q)
def WT (hp : HPt) : Prop := ∀ a i, okv a.1 i (hp a i)
theorem okv_free {k i : Nat} {x : Int32} (h1 : bK k i = false) (h2 : cK k i = false) : okv k i x := ⟨fun h => (by rw [h1] at h; cases h), fun h => (by rw [h2] at h; cases h)⟩
theorem okv_bi {k i : Nat} {b : Bool} (h2 : cK k i = false) : okv k i (bi b) := ⟨fun _ => by cases b <;> simp [bi], fun h => (by rw [h2] at h; cases h)⟩
theorem okv_0 {k i : Nat} : okv k i 0 := ⟨fun _ => Or.inl rfl, fun _ => ⟨0, by decide, rfl⟩⟩
theorem okv_1 {k i : Nat} : okv k i 1 := ⟨fun _ => Or.inr rfl, fun _ => ⟨1, by decide, rfl⟩⟩
theorem WT.set {hp : HPt} {a : A4} {i : Nat} {x : Int32} (h : WT hp) (hx : okv a.1 i x) : WT (hset hp a i x) := by
  intro c k
  unfold hset
  split
  next e => obtain ⟨rfl, rfl⟩ := e; exact hx
  next => exact h c k
theorem WT.b {hp : HPt} (h : WT hp) {a : A4} {i : Nat} (hk : bK a.1 i = true) : hp a i = 0 ∨ hp a i = 1 := (h a i).1 hk
theorem vp01 {x : Int32} (h : x = 0 ∨ x = 1) : vp_nar .boolean x = x := by rcases h with h | h <;> rw [h] <;> rfl
theorem nar01 {x : Int32} (h : x = 0 ∨ x = 1) : narrow .boolean (.int x) = .int x := by rcases h with h | h <;> rw [h] <;> rfl
theorem fit01 {x : Int32} (h : x = 0 ∨ x = 1) : narrow .boolean (.int x) = .int x ∧ fits .boolean (.int x) = true := by rcases h with h | h <;> rw [h] <;> exact ⟨rfl, rfl⟩
theorem WT.vp {hp : HPt} (h : WT hp) {a : A4} {i : Nat} (hk : bK a.1 i = true) : vp_nar .boolean (hp a i) = hp a i := vp01 (h.b hk)
/-- rows above r are shifted by one -/
def shR (hp : HPt) (t j b r : Nat) : HPt := fun a i => if (a = (6, t, j, b) ∨ a = (7, t, j, b)) ∧ r < i ∧ i < 5 then hp a (i - 1) else hp a i
theorem shR_set {hp : HPt} {t j b r : Nat} (hr : r + 1 < 5) : hset (hset (shR hp t j b (r + 1)) (6, t, j, b) (r + 1) (shR hp t j b (r + 1) (6, t, j, b) r)) (7, t, j, b) (r + 1) (hset (shR hp t j b (r + 1)) (6, t, j, b) (r + 1) (shR hp t j b (r + 1) (6, t, j, b) r) (7, t, j, b) r) = shR hp t j b r := by
  funext a i
  unfold hset shR
  by_cases h6 : a = (6, t, j, b)
  · subst h6
    by_cases hi : i = r + 1
    · subst hi; simp [hr]; intro h; omega
    · simp [hi]
      by_cases h1 : r + 1 < i
      · simp [h1, show r < i by omega]
      · simp [h1, show ¬ r < i by omega]
  · by_cases h7 : a = (7, t, j, b)
    · subst h7
      by_cases hi : i = r + 1
      · subst hi; simp [hr]; intro h; omega
      · simp [hi]
        by_cases h1 : r + 1 < i
        · simp [h1, show r < i by omega]
        · simp [h1, show ¬ r < i by omega]
    · simp [h6, h7]
theorem shR_4 {hp : HPt} {t j b : Nat} : shR hp t j b 4 = hp := by
  funext a i
  unfold shR
  rw [if_neg (by omega)]
theorem shR_WT {hp : HPt} {t j b r : Nat} (h : WT hp) : WT (shR hp t j b r) := by
  intro a i
  unfold shR
  split
  next e =>
    obtain ⟨e1, e2, e3⟩ := e
    have h2 := h a (i - 1)
    rcases e1 with rfl | rfl
    · exact okv_free rfl rfl
    · exact ⟨fun _ => h2.1 rfl, fun h => by cases h⟩
  next => exact h a i
/-- the rows of one half, freed for a new version -/
def frH (hp : HPt) (t j b : Nat) : HPt := hset (shR hp t j b 0) (7, t, j, b) 0 0
theorem frH_WT {hp : HPt} {t j b : Nat} (h : WT hp) : WT (frH hp t j b) := (shR_WT h).set okv_0
theorem lX0_freeRowOfNow {g : Gh} {t j b : Nat} {hp : HPt} (ht : t < 10) (hj : j < 8) (hb : b < 2) (hW : WT hp) : ∀ r, r < 5 → V g mX0_freeRowOfNow 0 0 0 0 609 2 [some (vR (5, t, j, b)), some (vI (nI r))] [] RP (shR hp t j b r) (Pv (frH hp t j b)) := by
  intro r
  induction r with
  | zero =>
    intro hr
    refine r_iload_n dX0_freeRowOfNow_2 (i := 1) rfl rfl ?_
    refine r_if_le dX0_freeRowOfNow_3 (tgt := 40) rfl (fun _ => ?_) (fun h3 => absurd ((by decide : nI 0 ≤ 0)) h3)
    refine r_aload_n dX0_freeRowOfNow_40 (i := 0) rfl rfl ?_
    refine r_getR dX0_freeRowOfNow_41 f_0_15 rfl rfl rfl (lv5 (by first | assumption | decide | omega) (by first | assumption | decide | omega) (by first | assumption | decide | omega)) ?_
    refine r_iconst dX0_freeRowOfNow_44 (v := 0) rfl ?_
    refine r_iconst dX0_freeRowOfNow_45 (v := 0) rfl ?_
    refine n_zast dX0_freeRowOfNow_46 rfl (lv7 (by first | assumption | decide | omega) (by first | assumption | decide | omega) (by first | assumption | decide | omega)) (k := 0) rfl (by decide) rfl ?_
    exact e_v dX0_freeRowOfNow_47 rfl (by first | rfl | simp [hset])
  | succ r ih =>
    intro hr
    refine r_iload_n dX0_freeRowOfNow_2 (i := 1) rfl rfl ?_
    refine r_if_le dX0_freeRowOfNow_3 (tgt := 40) rfl (fun h => absurd h (nI_nle (by omega) (by omega))) (fun _ => ?_)
    refine r_aload_n dX0_freeRowOfNow_6 (i := 0) rfl rfl ?_
    refine r_getR dX0_freeRowOfNow_7 f_0_9 rfl rfl rfl (lv5 (by first | assumption | decide | omega) (by first | assumption | decide | omega) (by first | assumption | decide | omega)) ?_
    refine r_iload_n dX0_freeRowOfNow_10 (i := 1) rfl rfl ?_
    refine r_aload_n dX0_freeRowOfNow_11 (i := 0) rfl rfl ?_
    refine r_getR dX0_freeRowOfNow_12 f_0_9 rfl rfl rfl (lv5 (by first | assumption | decide | omega) (by first | assumption | decide | omega) (by first | assumption | decide | omega)) ?_
    refine r_iload_n dX0_freeRowOfNow_15 (i := 1) rfl rfl ?_
    refine r_iconst dX0_freeRowOfNow_16 (v := 1) rfl ?_
    refine r_isub dX0_freeRowOfNow_17 ?_
    refine n_iald dX0_freeRowOfNow_18 rfl (lv6 ht hj hb) (k := r) (by rw [nI_succ]; exact Int32.add_sub_cancel _ _) (by omega) ?_
    refine n_iast dX0_freeRowOfNow_19 rfl (lv6 ht hj hb) (k := r + 1) rfl hr ?_
    refine r_aload_n dX0_freeRowOfNow_20 (i := 0) rfl rfl ?_
    refine r_getR dX0_freeRowOfNow_21 f_0_15 rfl rfl rfl (lv5 (by first | assumption | decide | omega) (by first | assumption | decide | omega) (by first | assumption | decide | omega)) ?_
    refine r_iload_n dX0_freeRowOfNow_24 (i := 1) rfl rfl ?_
    refine r_aload_n dX0_freeRowOfNow_25 (i := 0) rfl rfl ?_
    refine r_getR dX0_freeRowOfNow_26 f_0_15 rfl rfl rfl (lv5 (by first | assumption | decide | omega) (by first | assumption | decide | omega) (by first | assumption | decide | omega)) ?_
    refine r_iload_n dX0_freeRowOfNow_29 (i := 1) rfl rfl ?_
    refine r_iconst dX0_freeRowOfNow_30 (v := 1) rfl ?_
    refine r_isub dX0_freeRowOfNow_31 ?_
    refine n_zald dX0_freeRowOfNow_32 rfl (lv7 ht hj hb) (k := r) (by rw [nI_succ]; exact Int32.add_sub_cancel _ _) (by omega) ?_
    refine n_zast dX0_freeRowOfNow_33 rfl (lv7 ht hj hb) (k := r + 1) rfl hr (((shR_WT hW).set (okv_free rfl rfl)).vp rfl) ?_
    refine r_dec1 dX0_freeRowOfNow_34 rfl (Nat.le_of_ble_eq_true rfl) rfl ?_
    refine r_goto dX0_freeRowOfNow_37 (tgt := 2) rfl ?_
    refine V.eqH (shR_set hr) ?_
    refine V.eqL (L2 := [some (vR (5, t, j, b)), some (vI (nI r))]) ?_ (ih (by omega))
    show [some (vR (5, t, j, b)), some (vI (nI (r + 1) + (-1)))] = _
    rw [pk_m1]
theorem tX0_freeRowOfNow {g : Gh} {t j b : Nat} {hp : HPt} (ht : t < 10) (hj : j < 8) (hb : b < 2) (hW : WT hp) : Cv g mX0_freeRowOfNow [vR (5, t, j, b)] hp (frH hp t j b) := by
  unfold Cv
  refine r_iconst dX0_freeRowOfNow_0 (v := 4) rfl ?_
  refine r_istore_n dX0_freeRowOfNow_1 (i := 1) rfl (Nat.le_of_ble_eq_true rfl) rfl rfl ?_
  have h := lX0_freeRowOfNow (g := g) ht hj hb hW 4 (by decide)
  rw [shR_4] at h
  exact h
/-- the words of a Stores that carry something -/
abbrev relS (a : A4) (i : Nat) : Prop := (a.1 = 0 ∧ a.2.2 = (0, 0) ∧ 3 ≤ i ∧ i < 10) ∨ (a.1 = 2 ∧ a.2.2 = (0, 0) ∧ i < 3) ∨ (a.1 = 3 ∧ a.2.2 = (0, 0) ∧ i < 2) ∨ (a.1 = 4 ∧ a.2.2.1 < 8 ∧ a.2.2.2 = 0 ∧ 2 ≤ i ∧ i < 10) ∨ (a.1 = 5 ∧ a.2.2.1 < 8 ∧ a.2.2.2 < 2 ∧ 2 ≤ i ∧ i < 7) ∨ ((a.1 = 6 ∨ a.1 = 7) ∧ a.2.2.1 < 8 ∧ a.2.2.2 < 2 ∧ i < 5)
/-- the first n rows of a half are copied -/
def cpR (hp : HPt) (t u j b n : Nat) : HPt := fun a i => if (a = (6, t, j, b) ∨ a = (7, t, j, b)) ∧ i < n then hp (a.1, u, j, b) i else hp a i
theorem cpR_0 {hp : HPt} {t u j b : Nat} : cpR hp t u j b 0 = hp := by
  funext a i
  unfold cpR
  rw [if_neg (by omega)]
theorem cpR_set {hp : HPt} {t u j b n : Nat} (hn : n < 5) (htu : t ≠ u) : hset (hset (cpR hp t u j b n) (6, t, j, b) n (cpR hp t u j b n (6, u, j, b) n)) (7, t, j, b) n (hset (cpR hp t u j b n) (6, t, j, b) n (cpR hp t u j b n (6, u, j, b) n) (7, u, j, b) n) = cpR hp t u j b (n + 1) := by
  have hut : ¬ u = t := fun h => htu h.symm
  funext a i
  unfold hset cpR
  by_cases h6 : a = (6, t, j, b)
  · subst h6
    by_cases hi : i = n
    · subst hi; simp [hut]
    · simp [hi]
      by_cases h1 : i < n
      · simp [h1, show i < n + 1 by omega]
      · simp [h1, show ¬ i < n + 1 by omega]
  · by_cases h7 : a = (7, t, j, b)
    · subst h7
      by_cases hi : i = n
      · subst hi; simp [hut]
      · simp [hi]
        by_cases h1 : i < n
        · simp [h1, show i < n + 1 by omega]
        · simp [h1, show ¬ i < n + 1 by omega]
    · simp [h6, h7]
theorem cpR_WT {hp : HPt} {t u j b n : Nat} (h : WT hp) : WT (cpR hp t u j b n) := by
  intro a i
  unfold cpR
  split
  next e =>
    obtain ⟨e1, e2⟩ := e
    have h2 := h (a.1, u, j, b) i
    rcases e1 with rfl | rfl <;> exact h2
  next => exact h a i
def cpH (hp : HPt) (t u j b : Nat) : HPt := fun a i => if (a = (5, t, j, b) ∧ 2 ≤ i ∧ i < 7) ∨ ((a = (6, t, j, b) ∨ a = (7, t, j, b)) ∧ i < 5) then hp (a.1, u, j, b) i else hp a i
theorem lX0_copyHalf {g : Gh} {t u j b : Nat} {hp : HPt} (ht : t < 10) (hu : u < 10) (htu : t ≠ u) (hj : j < 8) (hb : b < 2) (hW : WT hp) {P : Pst} (hE : V g mX0_copyHalf 0 0 0 0 609 37 [some (vR (5, t, j, b)), some (vR (5, u, j, b)), some (vI (nI 5))] [] RP (cpR hp t u j b 5) P) : ∀ m r, r + m = 5 → V g mX0_copyHalf 0 0 0 0 609 2 [some (vR (5, t, j, b)), some (vR (5, u, j, b)), some (vI (nI r))] [] RP (cpR hp t u j b r) P := by
  intro m
  induction m with
  | zero =>
    intro r hr
    have hr : r = 5 := by omega
    subst hr
    refine r_iload_n dX0_copyHalf_2 (i := 2) rfl rfl ?_
    refine r_iconst dX0_copyHalf_3 (v := 5) rfl ?_
    refine r_icmp_ge dX0_copyHalf_4 (tgt := 37) rfl (fun _ => ?_) (fun h4 => absurd ((by decide : (5 : Int32) ≤ nI 5)) h4)
    exact hE
  | succ m ih =>
    intro r hr
    have hr5 : r < 5 := by omega
    refine r_iload_n dX0_copyHalf_2 (i := 2) rfl rfl ?_
    refine r_iconst dX0_copyHalf_3 (v := 5) rfl ?_
    refine r_icmp_ge dX0_copyHalf_4 (tgt := 37) rfl (fun h => absurd h (nI_ge (b := 5) hr5 (by decide))) (fun _ => ?_)
    refine r_aload_n dX0_copyHalf_7 (i := 0) rfl rfl ?_
    refine r_getR dX0_copyHalf_8 f_0_9 rfl rfl rfl (lv5 (by first | assumption | decide | omega) (by first | assumption | decide | omega) (by first | assumption | decide | omega)) ?_
    refine r_iload_n dX0_copyHalf_11 (i := 2) rfl rfl ?_
    refine r_aload_n dX0_copyHalf_12 (i := 1) rfl rfl ?_
    refine r_getR dX0_copyHalf_13 f_0_9 rfl rfl rfl (lv5 (by first | assumption | decide | omega) (by first | assumption | decide | omega) (by first | assumption | decide | omega)) ?_
    refine r_iload_n dX0_copyHalf_16 (i := 2) rfl rfl ?_
    refine n_iald dX0_copyHalf_17 rfl (lv6 (by first | assumption | decide | omega) (by first | assumption | decide | omega) (by first | assumption | decide | omega)) rfl (by first | assumption | omega | (unfold cI; omega)) ?_
    refine n_iast dX0_copyHalf_18 rfl (lv6 (by first | assumption | decide | omega) (by first | assumption | decide | omega) (by first | assumption | decide | omega)) rfl (by first | assumption | omega | (unfold cI; omega)) ?_
    refine r_aload_n dX0_copyHalf_19 (i := 0) rfl rfl ?_
    refine r_getR dX0_copyHalf_20 f_0_15 rfl rfl rfl (lv5 (by first | assumption | decide | omega) (by first | assumption | decide | omega) (by first | assumption | decide | omega)) ?_
    refine r_iload_n dX0_copyHalf_23 (i := 2) rfl rfl ?_
    refine r_aload_n dX0_copyHalf_24 (i := 1) rfl rfl ?_
    refine r_getR dX0_copyHalf_25 f_0_15 rfl rfl rfl (lv5 (by first | assumption | decide | omega) (by first | assumption | decide | omega) (by first | assumption | decide | omega)) ?_
    refine r_iload_n dX0_copyHalf_28 (i := 2) rfl rfl ?_
    refine n_zald dX0_copyHalf_29 rfl (lv7 (by first | assumption | decide | omega) (by first | assumption | decide | omega) (by first | assumption | decide | omega)) rfl (by first | assumption | omega | (unfold cI; omega)) ?_
    refine n_zast dX0_copyHalf_30 rfl (lv7 ht hj hb) (k := r) rfl hr5 (((cpR_WT hW).set (okv_free rfl rfl)).vp rfl) ?_
    refine r_inc1 dX0_copyHalf_31 rfl (Nat.le_of_ble_eq_true rfl) rfl ?_
    refine r_goto dX0_copyHalf_34 (tgt := 2) rfl ?_
    refine V.eqH (cpR_set hr5 htu) ?_
    have h := ih (r + 1) (by omega)
    rw [nI_succ] at h
    exact h
theorem tX0_copyHalf {g : Gh} {t u j b : Nat} {hp : HPt} (ht : t < 10) (hu : u < 10) (htu : t ≠ u) (hj : j < 8) (hb : b < 2) (hW : WT hp) : Cv g mX0_copyHalf [vR (5, t, j, b), vR (5, u, j, b)] hp (cpH hp t u j b) := by
  have hut : ¬ u = t := fun h => htu h.symm
  unfold Cv
  refine r_iconst dX0_copyHalf_0 (v := 0) rfl ?_
  refine r_istore_n dX0_copyHalf_1 (i := 2) rfl (Nat.le_of_ble_eq_true rfl) rfl rfl ?_
  have h := lX0_copyHalf (g := g) (hp := hp) ht hu htu hj hb hW (P := Pv (cpH hp t u j b)) ?_ 5 0 rfl
  · rw [cpR_0] at h
    exact h
  refine r_aload_n dX0_copyHalf_37 (i := 0) rfl rfl ?_
  refine r_aload_n dX0_copyHalf_38 (i := 1) rfl rfl ?_
  refine r_getI dX0_copyHalf_39 f_0_19 rfl rfl (lv5 (by first | assumption | decide | omega) (by first | assumption | decide | omega) (by first | assumption | decide | omega)) ?_
  refine r_putI dX0_copyHalf_42 f_0_19 rfl rfl (lv5 (by first | assumption | decide | omega) (by first | assumption | decide | omega) (by first | assumption | decide | omega)) ⟨rfl, rfl⟩ ?_
  refine r_aload_n dX0_copyHalf_45 (i := 0) rfl rfl ?_
  refine r_aload_n dX0_copyHalf_46 (i := 1) rfl rfl ?_
  refine r_getI dX0_copyHalf_47 f_0_23 rfl rfl (lv5 (by first | assumption | decide | omega) (by first | assumption | decide | omega) (by first | assumption | decide | omega)) ?_
  refine r_putI dX0_copyHalf_50 f_0_23 rfl rfl (lv5 (by first | assumption | decide | omega) (by first | assumption | decide | omega) (by first | assumption | decide | omega)) ⟨rfl, rfl⟩ ?_
  refine r_aload_n dX0_copyHalf_53 (i := 0) rfl rfl ?_
  refine r_aload_n dX0_copyHalf_54 (i := 1) rfl rfl ?_
  refine r_getI dX0_copyHalf_55 f_0_26 rfl rfl (lv5 (by first | assumption | decide | omega) (by first | assumption | decide | omega) (by first | assumption | decide | omega)) ?_
  refine r_putI dX0_copyHalf_58 f_0_26 rfl rfl (lv5 (by first | assumption | decide | omega) (by first | assumption | decide | omega) (by first | assumption | decide | omega)) ⟨rfl, rfl⟩ ?_
  refine r_aload_n dX0_copyHalf_61 (i := 0) rfl rfl ?_
  refine r_aload_n dX0_copyHalf_62 (i := 1) rfl rfl ?_
  refine r_getI dX0_copyHalf_63 f_0_29 rfl rfl (lv5 (by first | assumption | decide | omega) (by first | assumption | decide | omega) (by first | assumption | decide | omega)) ?_
  refine r_putI dX0_copyHalf_66 f_0_29 rfl rfl (lv5 (by first | assumption | decide | omega) (by first | assumption | decide | omega) (by first | assumption | decide | omega)) ⟨rfl, rfl⟩ ?_
  refine r_aload_n dX0_copyHalf_69 (i := 0) rfl rfl ?_
  refine r_aload_n dX0_copyHalf_70 (i := 1) rfl rfl ?_
  refine r_getI dX0_copyHalf_71 f_0_32 rfl rfl (lv5 (by first | assumption | decide | omega) (by first | assumption | decide | omega) (by first | assumption | decide | omega)) ?_
  refine r_putI dX0_copyHalf_74 f_0_32 rfl rfl (lv5 (by first | assumption | decide | omega) (by first | assumption | decide | omega) (by first | assumption | decide | omega)) ⟨rfl, rfl⟩ ?_
  refine e_v dX0_copyHalf_77 rfl ?_
  funext a i
  unfold cpH cpR hset
  by_cases h5 : a = (5, t, j, b)
  · subst h5
    by_cases hi : 2 ≤ i ∧ i < 7
    · have : i = 2 ∨ i = 3 ∨ i = 4 ∨ i = 5 ∨ i = 6 := by omega
      rcases this with rfl | rfl | rfl | rfl | rfl <;> simp [hut]
    · have h2 : i ≠ 2 ∧ i ≠ 3 ∧ i ≠ 4 ∧ i ≠ 5 ∧ i ≠ 6 := by omega
      simp [h2, hi]
  · simp [h5]
