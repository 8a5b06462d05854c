/-- a block of names holds its references -/
def RPov (S : A4 → Bool) (rp : RPt) : RPt := fun a i => if S a = true then RP a i else rp a i
def fr (n : Nat) (rp : RPt) (hp : HPt) : Prop := ∀ m, n ≤ m → m < 609 → rp (nm m) = (fun _ => none) ∧ hp (nm m) = fun _ => 0
/-- a field that a nest mate reaches is another class's -/
def okN : Cond → Bool
  | .fieldLinkNest a _ c _ _ _ => a != c
  | _ => true
theorem nest_ok : lw_nest.all okN = true := by decide +kernel
section INI
variable {g : Gh} {n t j b : Nat} {rp : RPt} {hp : HPt}
theorem iX0 (h1 : nm n = (6, t, j, b)) (h2 : nm (n + 1) = (7, t, j, b)) (hn : n + 2 ≤ 609) (hlv : lvp n (5, t, j, b)) (hf : fr n rp hp) : V g mX0_init 2 10 0 0 n 0 (inL [vR (5, t, j, b)] 1) [] rp hp (fun v n' rp' hp' => v = none ∧ n' = n + 2 ∧ rp' = rset (rset rp (5, t, j, b) 0 (6, t, j, b)) (5, t, j, b) 1 (7, t, j, b) ∧ hp' = hp) := by
  have hlv1 : lvp (n + 1) (5, t, j, b) := ⟨hlv.1, by have := hlv.2; omega⟩
  have hlv2 : lvp (n + 1 + 1) (5, t, j, b) := ⟨hlv.1, by have := hlv.2; omega⟩
  refine r_aload_n dX0_init_0 (i := 0) rfl rfl ?_
  refine r_objInit dX0_init_1 wd_87 wd_67 wd_68 (by decide) (Nat.le_of_ble_eq_true rfl) ?_
  refine r_aload_n dX0_init_4 (i := 0) rfl rfl ?_
  refine r_iconst dX0_init_5 (v := 5) rfl ?_
  refine r_newa dX0_init_6 (ty := .int) (t := 0) (len := 5) wd_118 rfl rfl (fun _ h => by cases h) rfl rfl (by decide) (by omega) (by rw [h1]; rfl) (by decide) (hf n (Nat.le_refl _) (by omega)).2 (by decide) (by decide) ?_
  rw [h1]
  refine r_putF dX0_init_8 f_0_9 rfl rfl hlv1 rfl (fun q h => by cases h; rfl) (fun q h host hm => by cases h; exact absurd (show (RX0 != RX0) = true from List.all_eq_true.mp nest_ok _ hm) (by decide)) ?_
  refine r_aload_n dX0_init_11 (i := 0) rfl rfl ?_
  refine r_iconst dX0_init_12 (v := 5) rfl ?_
  refine r_newa dX0_init_13 (ty := .boolean) (t := 1) (len := 5) wd_119 rfl rfl (fun _ h => by cases h) rfl rfl (by decide) (by omega) (by rw [h2]; rfl) (by decide) (hf (n + 1) (by omega) (by omega)).2 (by decide) (by decide) ?_
  rw [h2]
  refine r_putF dX0_init_15 f_0_15 rfl rfl hlv2 rfl (fun q h => by cases h; rfl) (fun q h host hm => by cases h; exact absurd (show (RX0 != RX0) = true from List.all_eq_true.mp nest_ok _ hm) (by decide)) ?_
  exact r_retV dX0_init_18 rfl (by decide) (by decide) ⟨rfl, rfl, rfl, rfl⟩
theorem fr_set {m : Nat} {a b2 : A4} {i : Nat} (hf : fr n rp hp) (hm : n ≤ m) (ha : pos a < m) : fr m (rset rp a i b2) hp := by
  intro k hk h6
  refine ⟨?_, (hf k (by omega) h6).2⟩
  funext q
  unfold rset
  rw [if_neg (fun e => by
    have h := congrArg pos e.1
    rw [pos_nm k h6] at h
    omega)]
  exact congrFun (hf k (by omega) h6).1 q
theorem lv_up {m : Nat} {a : A4} (h : lvp n a) (hm : n ≤ m) : lvp m a := ⟨h.1, by have := h.2; omega⟩
theorem lv_nm {m : Nat} {a : A4} (h : nm n = a) (hn : n < m) (h6 : n < 609) : lvp m a := by
  subst h
  exact ⟨by rw [pos_nm n h6], by rw [pos_nm n h6]; exact hn⟩
/-- a secret's references -/
def sR (rp : RPt) (t j : Nat) : RPt := rset (rset (rset (rset (rset (rset rp (5, t, j, 0) 0 (6, t, j, 0)) (5, t, j, 0) 1 (7, t, j, 0)) (4, t, j, 0) 0 (5, t, j, 0)) (5, t, j, 1) 0 (6, t, j, 1)) (5, t, j, 1) 1 (7, t, j, 1)) (4, t, j, 0) 1 (5, t, j, 1)
theorem iX4 (h0 : nm n = (5, t, j, 0)) (h1 : nm (n + 1) = (6, t, j, 0)) (h2 : nm (n + 2) = (7, t, j, 0)) (h3 : nm (n + 3) = (5, t, j, 1)) (h4 : nm (n + 4) = (6, t, j, 1)) (h5 : nm (n + 5) = (7, t, j, 1)) (hn : n + 6 ≤ 609) (hlv : lvp n (4, t, j, 0)) (hf : fr n rp hp) : V g mX4_init 6 34 0 0 n 0 (inL [vR (4, t, j, 0)] 1) [] rp hp (fun v n' rp' hp' => v = none ∧ n' = n + 6 ∧ rp' = sR rp t j ∧ hp' = hp) := by
  have p0 : pos (5, t, j, 0) = n := by rw [← h0, pos_nm n (by omega)]
  have p3 : pos (5, t, j, 1) = n + 3 := by rw [← h3, pos_nm _ (by omega)]
  have p4 := hlv.2
  refine r_aload_n dX4_init_0 (i := 0) rfl rfl ?_
  refine r_objInit dX4_init_1 wd_81 wd_67 wd_68 (by decide) (Nat.le_of_ble_eq_true rfl) ?_
  refine r_aload_n dX4_init_4 (i := 0) rfl rfl ?_
  refine r_new dX4_init_5 (ci := 0) (Cn := RX0) (T := TX0) (N := 7) rfl wd_82 wd_83 wd_56 (by omega) (by rw [h0]; rfl) (hf n (Nat.le_refl _) (by omega)).1 (hf n (Nat.le_refl _) (by omega)).2 (by decide) (by decide) ?_
  rw [h0]
  refine r_dup dX4_init_8 rfl ?_
  refine r_callIN dX4_init_9 (coX0_init (by decide) (by decide)) (as := []) (b := (5, t, j, 0)) wd_84 wd_85 rfl rfl rfl rfl (Nat.le_of_ble_eq_true rfl) (by decide) (by decide) (Nat.le_of_ble_eq_true rfl) (iX0 h1 h2 (by omega) (lv_nm h0 (by omega) (by omega)) (fun m a b => hf m (by omega) b)) ?_
  rintro v n' rp' hp' ⟨rfl, rfl, rfl, e4⟩
  rw [e4]
  have hf1 : fr (n + 3) (rset (rset rp (5, t, j, 0) 0 (6, t, j, 0)) (5, t, j, 0) 1 (7, t, j, 0)) hp := fr_set (fr_set (m := n + 3) hf (by omega) (by omega)) (Nat.le_refl _) (by omega)
  have hf2 : fr (n + 3) (rset (rset (rset rp (5, t, j, 0) 0 (6, t, j, 0)) (5, t, j, 0) 1 (7, t, j, 0)) (4, t, j, 0) 0 (5, t, j, 0)) hp := fr_set hf1 (Nat.le_refl _) (by omega)
  refine r_putF dX4_init_12 f_4_12 rfl rfl (lv_up hlv (by omega)) rfl (fun q h => by cases h; rfl) (fun q h host hm => by cases h; exact absurd (show (RX4 != RX4) = true from List.all_eq_true.mp nest_ok _ hm) (by decide)) ?_
  refine r_aload_n dX4_init_15 (i := 0) rfl rfl ?_
  refine r_new dX4_init_16 (ci := 0) (Cn := RX0) (T := TX0) (N := 7) rfl wd_82 wd_83 wd_56 (by omega) (by rw [h3]; rfl) (hf2 (n + 3) (Nat.le_refl _) (by omega)).1 (hf2 (n + 3) (Nat.le_refl _) (by omega)).2 (by decide) (by decide) ?_
  rw [show nm (n + 1 + 2) = (5, t, j, 1) from h3]
  refine r_dup dX4_init_19 rfl ?_
  refine r_callIN dX4_init_20 (coX0_init (by decide) (by decide)) (as := []) (b := (5, t, j, 1)) wd_84 wd_85 rfl rfl rfl rfl (Nat.le_of_ble_eq_true rfl) (by decide) (by decide) (Nat.le_of_ble_eq_true rfl) (iX0 h4 h5 (by omega) (lv_nm h3 (by omega) (by omega)) (fun m a b => hf2 m (by omega) b)) ?_
  rintro v n' rp' hp' ⟨rfl, rfl, rfl, e4⟩
  rw [e4]
  refine r_putF dX4_init_23 f_4_18 rfl rfl (lv_up hlv (by omega)) rfl (fun q h => by cases h; rfl) (fun q h host hm => by cases h; exact absurd (show (RX4 != RX4) = true from List.all_eq_true.mp nest_ok _ hm) (by decide)) ?_
  exact r_retV dX4_init_26 rfl (by decide) (by decide) ⟨rfl, rfl, rfl, rfl⟩
end INI
