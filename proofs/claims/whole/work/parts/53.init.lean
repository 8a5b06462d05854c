/-- a block of names holds its references -/
def RPov (S : A4 → Bool) (rp : RPt) : RPt := fun a i => if S a = true then RP a i else rp a i
def fr (n : Nat) (rp : RPt) (hp : HPt) : Prop := ∀ m, n ≤ m → m < 616 → rp (nm m) = (fun _ => none) ∧ hp (nm m) = fun _ => 0
/-- a field that a nest mate reaches is another class's -/
def okN : Cond → Bool
  | .fieldLinkNest a _ c _ _ _ => a != c
  | _ => true
theorem nest_ok : lw_nest.all okN = true := by decide +kernel
section INI
variable {g : Gh} {n t j b : Nat} {rp : RPt} {hp : HPt}
theorem iX0 (h1 : nm n = (6, t, j, b)) (h2 : nm (n + 1) = (7, t, j, b)) (hn : n + 2 ≤ 616) (hlv : lvp n (5, t, j, b)) (hf : fr n rp hp) : V g mX0_init 2 10 0 0 n 0 (inL [vR (5, t, j, b)] 1) [] rp hp (fun v n' rp' hp' => v = none ∧ n' = n + 2 ∧ rp' = rset (rset rp (5, t, j, b) 0 (6, t, j, b)) (5, t, j, b) 1 (7, t, j, b) ∧ hp' = hp) := by
  have hlv1 : lvp (n + 1) (5, t, j, b) := ⟨hlv.1, by have := hlv.2; omega⟩
  have hlv2 : lvp (n + 1 + 1) (5, t, j, b) := ⟨hlv.1, by have := hlv.2; omega⟩
  refine r_aload_n dX0_init_0 (i := 0) rfl rfl ?_
  refine r_objInit dX0_init_1 wd_143 wd_123 wd_124 (by decide) (Nat.le_of_ble_eq_true rfl) ?_
  refine r_aload_n dX0_init_4 (i := 0) rfl rfl ?_
  refine r_iconst dX0_init_5 (v := 5) rfl ?_
  refine r_newa dX0_init_6 (ty := .int) (t := 0) (len := 5) wd_174 rfl rfl (fun _ h => by cases h) rfl rfl (by decide) (by omega) (by rw [h1]; rfl) (by decide) (hf n (Nat.le_refl _) (by omega)).2 (by decide) (by decide) ?_
  rw [h1]
  refine r_putF dX0_init_8 f_0_9 rfl rfl hlv1 rfl (fun q h => by cases h; rfl) (fun q h host hm => by cases h; exact absurd (show (RX0 != RX0) = true from List.all_eq_true.mp nest_ok _ hm) (by decide)) ?_
  refine r_aload_n dX0_init_11 (i := 0) rfl rfl ?_
  refine r_iconst dX0_init_12 (v := 5) rfl ?_
  refine r_newa dX0_init_13 (ty := .boolean) (t := 1) (len := 5) wd_175 rfl rfl (fun _ h => by cases h) rfl rfl (by decide) (by omega) (by rw [h2]; rfl) (by decide) (hf (n + 1) (by omega) (by omega)).2 (by decide) (by decide) ?_
  rw [h2]
  refine r_putF dX0_init_15 f_0_15 rfl rfl hlv2 rfl (fun q h => by cases h; rfl) (fun q h host hm => by cases h; exact absurd (show (RX0 != RX0) = true from List.all_eq_true.mp nest_ok _ hm) (by decide)) ?_
  exact r_retV dX0_init_18 rfl (by decide) (by decide) ⟨rfl, rfl, rfl, rfl⟩
end INI
