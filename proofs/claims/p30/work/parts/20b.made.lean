/-- what the names hold at last, as the constructors leave them -/
def RPx : RPt := fun a i => if (a.1 = 1 ∧ 8 ≤ i) ∨ (a.1 = 9 ∧ 7 ≤ i) ∨ (a.1 = 10 ∧ 2 ≤ i) then none else RP a i
def HPx : HPt := fun a i => if (a.1 = 0 ∧ i = 4) ∨ (a.1 = 2 ∧ i = 0) then 1 else if a.1 = 2 ∧ i = 2 then 2 else 0
/-- from one heap to a later one: the names at lo .. hi - 1 hold what they hold at last, all else is as it was -/
def DN (lo hi : Nat) (r0 : RPt) (h0 : HPt) (rp : RPt) (hp : HPt) : Prop := (∀ i, lo ≤ i → i < hi → rp (nm i) = RPx (nm i) ∧ hp (nm i) = HPx (nm i)) ∧ ∀ i, i < 609 → i < lo ∨ hi ≤ i → rp (nm i) = r0 (nm i) ∧ hp (nm i) = h0 (nm i)
theorem nm_inj {i q : Nat} (hi : i < 609) (hq : q < 609) (h : nm i = nm q) : i = q := by
  have h1 := congrArg pos h
  rw [pos_nm i hi, pos_nm q hq] at h1
  exact h1
theorem rset_nm {rp : RPt} {i q k : Nat} {b : A4} (hi : i < 609) (hq : q < 609) (h : i ≠ q) : rset rp (nm q) k b (nm i) = rp (nm i) := by
  funext x
  unfold rset
  rw [if_neg (fun e => h (nm_inj hi hq e.1))]
theorem hset_nm {hp : HPt} {i q k : Nat} {v : Int32} (hi : i < 609) (hq : q < 609) (h : i ≠ q) : hset hp (nm q) k v (nm i) = hp (nm i) := by
  funext x
  unfold hset
  rw [if_neg (fun e => h (nm_inj hi hq e.1))]
theorem rset_at {rp : RPt} {a b : A4} {k : Nat} : rset rp a k b a = fun x => if x = k then some b else rp a x := by
  funext x
  simp [rset]
theorem DN.free {lo hi : Nat} {r0 rp : RPt} {h0 hp : HPt} (h : DN lo hi r0 h0 rp hp) (hf : fr lo r0 h0) (hl : lo ≤ hi) : fr hi rp hp := by
  intro m hm h6
  rw [(h.2 m h6 (Or.inr hm)).1, (h.2 m h6 (Or.inr hm)).2]
  exact hf m (by omega) h6
/-- an object at lo under way, n cells made, its fields f, its array at e with the elements s -/
def JJ (lo e n : Nat) (f s : Nat → Option A4) (r0 : RPt) (h0 : HPt) (rp : RPt) (hp : HPt) : Prop := (∀ i, lo < i → i < n → i ≠ e → rp (nm i) = RPx (nm i) ∧ hp (nm i) = HPx (nm i)) ∧ (rp (nm lo) = f ∧ hp (nm lo) = HPx (nm lo)) ∧ (e < n → rp (nm e) = s ∧ hp (nm e) = HPx (nm e)) ∧ ∀ i, i < 609 → i < lo ∨ n ≤ i → rp (nm i) = r0 (nm i) ∧ hp (nm i) = h0 (nm i)
section JJ
variable {lo e n n2 k : Nat} {f s s2 : Nat → Option A4} {r0 rp rp2 : RPt} {h0 hp hp2 : HPt} {a b : A4}
theorem JJ.free (h : JJ lo e n f s r0 h0 rp hp) (hf : fr lo r0 h0) (hl : lo ≤ n) : fr n rp hp := by
  intro m hm h6
  rw [(h.2.2.2 m h6 (Or.inr hm)).1, (h.2.2.2 m h6 (Or.inr hm)).2]
  exact hf m (by omega) h6
theorem JJ.dn (h : JJ lo e n f s r0 h0 rp hp) (hD : DN n n2 rp hp rp2 hp2) (h1 : n ≤ n2) (h2 : n2 ≤ 609) (h3 : lo < n) (h4 : e < n ∨ n2 ≤ e) : JJ lo e n2 f s r0 h0 rp2 hp2 := by
  refine ⟨fun i q1 q2 q3 => ?_, ?_, fun q => ?_, fun i q6 q => ?_⟩
  · by_cases hi : i < n
    · have z := hD.2 i (by omega) (Or.inl hi)
      rw [z.1, z.2]
      exact h.1 i q1 hi q3
    · exact hD.1 i (by omega) q2
  · have z := hD.2 lo (by omega) (Or.inl h3)
    rw [z.1, z.2]
    exact h.2.1
  · have z := hD.2 e (by omega) (Or.inl (by omega))
    rw [z.1, z.2]
    exact h.2.2.1 (by omega)
  · have z := hD.2 i q6 (by omega)
    rw [z.1, z.2]
    exact h.2.2.2 i q6 (by omega)
theorem JJ.sf (h : JJ lo e n f s r0 h0 rp hp) (ha : nm lo = a) (h1 : lo < n) (h2 : n ≤ 609) (h3 : lo ≠ e) : JJ lo e n (fun x => if x = k then some b else f x) s r0 h0 (rset rp a k b) hp := by
  subst ha
  refine ⟨fun i q1 q2 q3 => ?_, ⟨?_, h.2.1.2⟩, fun q => ?_, fun i q6 q => ?_⟩
  · rw [rset_nm (by omega) (by omega) (by omega)]
    exact h.1 i q1 q2 q3
  · rw [rset_at, h.2.1.1]
  · rw [rset_nm (by omega) (by omega) (by omega)]
    exact h.2.2.1 q
  · rw [rset_nm q6 (by omega) (by omega)]
    exact h.2.2.2 i q6 q
theorem JJ.ss (h : JJ lo e n f s r0 h0 rp hp) (ha : nm e = a) (h1 : e < n) (h2 : n ≤ 609) (h3 : lo < e) (hs : ∀ x, (if x = k then some b else s x) = s2 x) : JJ lo e n f s2 r0 h0 (rset rp a k b) hp := by
  subst ha
  refine ⟨fun i q1 q2 q3 => ?_, ?_, fun q => ⟨?_, (h.2.2.1 q).2⟩, fun i q6 q => ?_⟩
  · rw [rset_nm (by omega) (by omega) q3]
    exact h.1 i q1 q2 q3
  · rw [rset_nm (by omega) (by omega) (by omega)]
    exact h.2.1
  · rw [rset_at, (h.2.2.1 q).1]
    funext x
    exact hs x
  · rw [rset_nm q6 (by omega) (by omega)]
    exact h.2.2.2 i q6 q
theorem JJ.new (h : JJ lo e n f s r0 h0 rp hp) (hf : fr lo r0 h0) (h1 : lo ≤ n) (h2 : n < 609) (h3 : n ≠ e) (hR : RPx (nm n) = fun _ => none) (hH : HPx (nm n) = fun _ => 0) : JJ lo e (n + 1) f s r0 h0 rp hp := by
  refine ⟨fun i q1 q2 q3 => ?_, h.2.1, fun q => h.2.2.1 (by omega), fun i q6 q => h.2.2.2 i q6 (by omega)⟩
  by_cases hi : i = n
  · subst hi
    have z := h.free hf h1 i (Nat.le_refl _) h2
    rw [z.1, z.2, hR, hH]
    exact ⟨rfl, rfl⟩
  · exact h.1 i q1 (by omega) q3
theorem JJ.arr (h : JJ lo e e f s r0 h0 rp hp) (hf : fr lo r0 h0) (h1 : lo ≤ e) (h2 : e < 609) (hH : HPx (nm e) = fun _ => 0) : JJ lo e (e + 1) f (fun _ => none) r0 h0 rp hp := by
  refine ⟨fun i q1 q2 q3 => h.1 i q1 (by omega) q3, h.2.1, fun q => ?_, fun i q6 q => h.2.2.2 i q6 (by omega)⟩
  have z := h.free hf h1 e (Nat.le_refl _) h2
  rw [z.1, z.2, hH]
  exact ⟨rfl, rfl⟩
theorem JJ.fin (h : JJ lo e n f s r0 h0 rp hp) (hf : f = RPx (nm lo)) (hs : s = RPx (nm e)) : DN lo n r0 h0 rp hp := by
  refine ⟨fun i q1 q2 => ?_, h.2.2.2⟩
  by_cases hi : i = lo
  · subst hi
    rw [← hf]
    exact h.2.1
  · by_cases hi2 : i = e
    · subst hi2
      rw [← hs]
      exact h.2.2.1 q2
    · exact h.1 i (by omega) q2 hi2
end JJ
section RD
variable {g : Gh} {M : Md} {mc ms cu su n pc : Nat} {L : List (Option Vv)} {st : List Vv} {rp : RPt} {hp : HPt} {P : Pst}
theorem V.eqC {cu2 su2 n2 : Nat} (e1 : cu = cu2) (e2 : su = su2) (e3 : n = n2) (h : V g M mc ms cu2 su2 n2 pc L st rp hp P) : V g M mc ms cu su n pc L st rp hp P := by
  subst e1 e2 e3
  exact h
/-- a constructor's final field -/
theorem r_pf {a b : A4} {idx ci fi : Nat} (hd : decode (mC M) pc = .ok (.putfield idx, 3)) (lk : LK (mK M) idx ci fi) (ho : okd a.1 = some ci) (hr : rfT ci fi = true) (hlv : lvp n a) (hin : (mY M).name = "<init>") (hC : (vwCl[ci]?).map (fun q => q.1) = some (mK M)) (k : V g M mc ms cu su n (pc + 3) L st (rset rp a fi b) hp P) : V g M mc ms cu su n pc L (vR b :: vR a :: st) rp hp P := by
  have hown : ∀ q, vwCl[ci]? = some q → q.1 = mK M := by
    intro q hq
    rw [hq] at hC
    exact Option.some.inj hC
  refine r_putF hd lk ho hr hlv hin hown (fun q hq host hm => ?_) k
  obtain ⟨q2, hq2, hfi, -⟩ := lk
  have c1 := (cls_ok hq).1.2.2.2
  have c2 := (cls_ok hq).2 fi (by rw [c1]; exact hfi)
  have c3 := (c2.2.1 hr).1
  have c4 : (mK M != (q.2.1 fi).1) = true := List.all_eq_true.mp nest_ok _ hm
  rw [c3, hown q hq] at c4
  simp at c4
theorem n_aast {a b : A4} {x : Int32} {k t len ci : Nat} {q : vw_C} (hd : decode (mC M) pc = .ok (.aastore, 1)) (ho : rkd a.1 = some (t, len)) (hlv : lvp n a) (hlb : lvp n b) (hob : okd b.1 = some ci) (hc : vwCl[ci]? = some q) (ht : (tysF g)[t]? = some (g.2.1 t, .object q.1)) (hx : x = nI k) (hk : k < len) (kk : V g M mc ms cu su n (pc + 1) L st (rset rp a k b) hp P) : V g M mc ms cu su n pc L (vR b :: vI x :: vR a :: st) rp hp P := by
  obtain ⟨h1, h2⟩ := vpN hx hk (rkd_len ho)
  exact r_aast hd ho hlv hlb hob hc ht h1 (by rw [h2]; exact kk)
end RD
/-- a secret's names, by place -/
theorem sbq_a : ∀ t, t < 10 → ∀ j, j < 8 → nm (baseT t + 4 + 7 * j) = (4, t, j, 0) ∧ nm (baseT t + 4 + 7 * j + 1) = (5, t, j, 0) := by decide +kernel
theorem sbq_b : ∀ t, t < 10 → ∀ j, j < 8 → nm (baseT t + 4 + 7 * j + 2) = (6, t, j, 0) ∧ nm (baseT t + 4 + 7 * j + 3) = (7, t, j, 0) := by decide +kernel
theorem sbq_c : ∀ t, t < 10 → ∀ j, j < 8 → nm (baseT t + 4 + 7 * j + 4) = (5, t, j, 1) ∧ nm (baseT t + 4 + 7 * j + 5) = (6, t, j, 1) := by decide +kernel
theorem sbq_d : ∀ t, t < 10 → ∀ j, j < 8 → nm (baseT t + 4 + 7 * j + 6) = (7, t, j, 1) ∧ baseT t + 4 + 7 * j + 7 ≤ 609 := by decide +kernel
theorem sb_0 (t : Nat) (ht : t < 10) (j : Nat) (hj : j < 8) : nm (baseT t + 4 + 7 * j) = (4, t, j, 0) ∧ nm (baseT t + 4 + 7 * j + 1) = (5, t, j, 0) ∧ nm (baseT t + 4 + 7 * j + 2) = (6, t, j, 0) ∧ nm (baseT t + 4 + 7 * j + 3) = (7, t, j, 0) ∧ baseT t + 4 + 7 * j + 7 ≤ 609 := ⟨(sbq_a t ht j hj).1, (sbq_a t ht j hj).2, (sbq_b t ht j hj).1, (sbq_b t ht j hj).2, (sbq_d t ht j hj).2⟩
theorem sb_1 (t : Nat) (ht : t < 10) (j : Nat) (hj : j < 8) : nm (baseT t + 4 + 7 * j + 4) = (5, t, j, 1) ∧ nm (baseT t + 4 + 7 * j + 5) = (6, t, j, 1) ∧ nm (baseT t + 4 + 7 * j + 6) = (7, t, j, 1) := ⟨(sbq_c t ht j hj).1, (sbq_c t ht j hj).2, (sbq_d t ht j hj).1⟩
theorem sb_2 : ∀ t, t < 10 → nm (baseT t) = (0, t, 0, 0) ∧ nm (baseT t + 1) = (1, t, 0, 0) ∧ nm (baseT t + 2) = (2, t, 0, 0) ∧ nm (baseT t + 3) = (3, t, 0, 0) ∧ baseT t + 60 ≤ 609 := by decide +kernel
section CC
variable {g : Gh} {t j : Nat} {rp r0 : RPt} {hp h0 : HPt}
theorem cX4 (ht : t < 10) (hj : j < 8) (hf : fr (baseT t + 4 + 7 * j) rp hp) : V g mX4_init 6 34 0 0 (baseT t + 4 + 7 * j + 1) 0 (inL [vR (4, t, j, 0)] 1) [] rp hp (fun v n' rp' hp' => v = none ∧ n' = baseT t + 4 + 7 * j + 7 ∧ DN (baseT t + 4 + 7 * j) (baseT t + 4 + 7 * j + 7) rp hp rp' hp') := by
  obtain ⟨e0, e1, e2, e3, e7⟩ := sb_0 t ht j hj
  obtain ⟨e4, e5, e6⟩ := sb_1 t ht j hj
  generalize baseT t + 4 + 7 * j = p at *
  refine (iX4 (n := p + 1) (t := t) (j := j) e1 e2 e3 e4 e5 e6 (by omega) (lv_nm e0 (by omega) (by omega)) (fun m a b => hf m (by omega) b)).post ?_
  rintro v n' rp' hp' ⟨rfl, rfl, rfl, rfl⟩
  have z0 := hf p (by omega) (by omega)
  have z1 := hf (p + 1) (by omega) (by omega)
  have z2 := hf (p + 2) (by omega) (by omega)
  have z3 := hf (p + 3) (by omega) (by omega)
  have z4 := hf (p + 4) (by omega) (by omega)
  have z5 := hf (p + 5) (by omega) (by omega)
  have z6 := hf (p + 6) (by omega) (by omega)
  rw [e0] at z0
  rw [e1] at z1
  rw [e2] at z2
  rw [e3] at z3
  rw [e4] at z4
  rw [e5] at z5
  rw [e6] at z6
  refine ⟨rfl, rfl, fun i h1 h2 => ?_, fun i h6 h => ⟨?_, rfl⟩⟩
  · obtain ⟨k, rfl⟩ : ∃ k, i = p + k := ⟨i - p, by omega⟩
    have hk : k < 7 := by omega
    match k, hk with
    | 0, _ =>
      rw [show p + 0 = p from rfl, e0]
      refine ⟨?_, by rw [z0.2]; funext x; simp [HPx]⟩
      funext x
      match x with
      | 0 => simp [sR, rset, RPx, RP]
      | 1 => simp [sR, rset, RPx, RP]
      | x + 2 => simp [sR, rset, RPx, RP, z0.1]
    | 1, _ =>
      rw [e1]
      refine ⟨?_, by rw [z1.2]; funext x; simp [HPx]⟩
      funext x
      match x with
      | 0 => simp [sR, rset, RPx, RP]
      | 1 => simp [sR, rset, RPx, RP]
      | x + 2 => simp [sR, rset, RPx, RP, z1.1]
    | 2, _ =>
      rw [e2]
      exact ⟨by funext x; simp [sR, rset, RPx, RP, z2.1], by rw [z2.2]; funext x; simp [HPx]⟩
    | 3, _ =>
      rw [e3]
      exact ⟨by funext x; simp [sR, rset, RPx, RP, z3.1], by rw [z3.2]; funext x; simp [HPx]⟩
    | 4, _ =>
      rw [e4]
      refine ⟨?_, by rw [z4.2]; funext x; simp [HPx]⟩
      funext x
      match x with
      | 0 => simp [sR, rset, RPx, RP]
      | 1 => simp [sR, rset, RPx, RP]
      | x + 2 => simp [sR, rset, RPx, RP, z4.1]
    | 5, _ =>
      rw [e5]
      exact ⟨by funext x; simp [sR, rset, RPx, RP, z5.1], by rw [z5.2]; funext x; simp [HPx]⟩
    | 6, _ =>
      rw [e6]
      exact ⟨by funext x; simp [sR, rset, RPx, RP, z6.1], by rw [z6.2]; funext x; simp [HPx]⟩
  · unfold sR
    rw [← e0, ← e1, ← e4, rset_nm h6 (by omega) (by omega), rset_nm h6 (by omega) (by omega), rset_nm h6 (by omega) (by omega), rset_nm h6 (by omega) (by omega), rset_nm h6 (by omega) (by omega), rset_nm h6 (by omega) (by omega)]
theorem lX5 (ht : t < 10) (hf : fr (baseT t) r0 h0) : ∀ k j, j + k = 8 → ∀ rp hp, JJ (baseT t) (baseT t + 1) (baseT t + 4 + 7 * j) (RPx (0, t, 0, 0)) (fun x => if x < j then some (4, t, x, 0) else none) r0 h0 rp hp → V g mX5_init 59 365 (3 + 7 * j) (13 + 44 * j) (baseT t + 4 + 7 * j) 46 [some (vR (0, t, 0, 0)), some (vI (nI j))] [] rp hp (fun v n' rp' hp' => v = none ∧ n' = baseT t + 60 ∧ DN (baseT t) (baseT t + 60) r0 h0 rp' hp') := by
  obtain ⟨e0, e1, -, -, e6⟩ := sb_2 t ht
  intro k
  induction k with
  | zero =>
    intro j hj rp hp hJ
    obtain rfl : j = 8 := by omega
    refine r_iload_n dX5_init_46 (i := 1) rfl rfl ?_
    refine r_bipush dX5_init_47 (v := 8) rfl ?_
    refine r_icmp_ge dX5_init_49 (tgt := 71) rfl (fun _ => ?_) (fun h => absurd (by decide) h)
    refine r_retV dX5_init_71 rfl (by decide) (by decide) ⟨rfl, rfl, hJ.fin (by rw [e0]) ?_⟩
    rw [e1]
    funext x
    by_cases hx : x < 8
    · simp [hx, RPx, RP, Nat.not_le.mpr hx]
    · simp [hx, RPx, Nat.not_lt.mp hx]
  | succ k ih =>
    intro j hj rp hp hJ
    have hj8 : j < 8 := by omega
    obtain ⟨s0, -, -, -, s7⟩ := sb_0 t ht j hj8
    have hfn := hJ.free hf (by omega)
    have hr0 : rp (0, t, 0, 0) = RPx (0, t, 0, 0) := by
      have z := hJ.2.1.1
      rw [e0] at z
      exact z
    refine r_iload_n dX5_init_46 (i := 1) rfl rfl ?_
    refine r_bipush dX5_init_47 (v := 8) rfl ?_
    refine r_icmp_ge dX5_init_49 (tgt := 71) rfl (fun h => absurd h (nI_ge (b := 8) hj8 (by decide))) (fun _ => ?_)
    refine r_aload_n dX5_init_52 (i := 0) rfl rfl ?_
    refine r_getR dX5_init_53 f_5_11 rfl rfl (b := (1, t, 0, 0)) (by rw [hr0]; simp [RPx, RP]) (lv_nm e0 (by omega) (by omega)) ?_
    refine r_iload_n dX5_init_56 (i := 1) rfl rfl ?_
    refine r_new dX5_init_57 (ci := 4) (Cn := RX4) (T := TX4) (N := 10) rfl wd_75 wd_77 wd_55 (by omega) (by rw [s0]; rfl) (hfn _ (Nat.le_refl _) (by omega)).1 (hfn _ (Nat.le_refl _) (by omega)).2 (by omega) (by omega) ?_
    rw [s0]
    refine r_dup dX5_init_60 rfl ?_
    refine r_callIN dX5_init_61 (coX4_init (by decide) (by decide)) (as := []) (b := (4, t, j, 0)) wd_78 wd_79 rfl rfl rfl rfl (Nat.le_of_ble_eq_true rfl) (by omega) (by omega) (Nat.le_of_ble_eq_true rfl) (cX4 ht hj8 hfn) ?_
    rintro v n' rp1 hp1 ⟨rfl, rfl, hD⟩
    refine n_aast dX5_init_64 (k := j) (ci := 4) (q := (RX4, TX4, 10)) rfl (lv_nm e1 (by omega) (by omega)) (lv_nm s0 (by omega) (by omega)) rfl rfl rfl rfl hj8 ?_
    refine r_inc1 dX5_init_65 rfl (Nat.le_of_ble_eq_true rfl) rfl ?_
    refine r_goto dX5_init_68 (tgt := 46) rfl ?_
    refine V.eqC (cu2 := 3 + 7 * (j + 1)) (su2 := 13 + 44 * (j + 1)) (n2 := baseT t + 4 + 7 * (j + 1)) (by omega) (by omega) (by omega) ?_
    refine V.eqL (L2 := [some (vR (0, t, 0, 0)), some (vI (nI (j + 1)))]) (by rw [← nI_1]; rfl) ?_
    refine ih (j + 1) (by omega) _ _ ?_
    have h3 := (hJ.dn hD (by omega) (by omega) (by omega) (by omega)).ss (k := j) (b := (4, t, j, 0)) (s2 := fun x => if x < j + 1 then some (4, t, x, 0) else none) e1 (by omega) (by omega) (by omega) (fun x => by
      by_cases h : x = j
      · subst h
        rw [if_pos rfl, if_pos (Nat.lt_succ_self _)]
      · rw [if_neg h]
        by_cases h2 : x < j
        · rw [if_pos h2, if_pos (by omega)]
        · rw [if_neg h2, if_neg (by omega)])
    rw [show baseT t + 4 + 7 * (j + 1) = baseT t + 4 + 7 * j + 7 by omega]
    exact h3
end CC
