section DR
variable {g : Gh} {M : Md} {mc ms cu su n pc : Nat} {L : List (Option Vv)} {st : List Vv} {rp : RPt} {hp h1 : HPt} {P : Pst}
theorem r_inc1 {i : Nat} {x : Int32} (hd : decode (mC M) pc = .ok (.iinc i 1, 3)) (hx : L[i]? = some (some (vI x))) (hn : i < mL M) (hln : lnl L i = true) (k : V g M mc ms cu su n (pc + 3) (L.set i (some (vI (x + 1)))) st rp hp P) : V g M mc ms cu su n pc L st rp hp P := r_iinc hd hx rfl hn hln rfl k
theorem r_dec1 {i : Nat} {x : Int32} (hd : decode (mC M) pc = .ok (.iinc i (-1), 3)) (hx : L[i]? = some (some (vI x))) (hn : i < mL M) (hln : lnl L i = true) (k : V g M mc ms cu su n (pc + 3) (L.set i (some (vI (x + (-1))))) st rp hp P) : V g M mc ms cu su n pc L st rp hp P := r_iinc hd hx rfl hn hln rfl k
theorem vpN {x : Int32} {k len : Nat} (hx : x = nI k) (hk : k < len) (hl : len < 2 ^ 31) : vp_in x len ∧ x.toNatClampNeg = k := by
  subst hx
  exact ⟨vp_in_nI hk hl, nI_clamp (by omega)⟩
theorem akd_len {a t len : Nat} (h : akd a = some (t, len)) : len < 2 ^ 31 := by
  unfold akd at h
  split at h <;> cases h <;> decide
theorem rkd_len {a t len : Nat} (h : rkd a = some (t, len)) : len < 2 ^ 31 := by
  unfold rkd at h
  split at h <;> cases h <;> decide
theorem n_iald {a : A4} {x : Int32} {k len : Nat} (hd : decode (mC M) pc = .ok (.iaload, 1)) (ho : akd a.1 = some (0, len)) (hlv : lvp n a) (hx : x = nI k) (hk : k < len) (kk : V g M mc ms cu su n (pc + 1) L (vI (hp a k) :: st) rp hp P) : V g M mc ms cu su n pc L (vI x :: vR a :: st) rp hp P := by
  obtain ⟨h1, h2⟩ := vpN hx hk (akd_len ho)
  exact r_iald hd ho hlv h1 (by rw [h2]; exact kk)
theorem n_zald {a : A4} {x : Int32} {k len : Nat} (hd : decode (mC M) pc = .ok (.baload, 1)) (ho : akd a.1 = some (1, len)) (hlv : lvp n a) (hx : x = nI k) (hk : k < len) (kk : V g M mc ms cu su n (pc + 1) L (vI (hp a k) :: st) rp hp P) : V g M mc ms cu su n pc L (vI x :: vR a :: st) rp hp P := by
  obtain ⟨h1, h2⟩ := vpN hx hk (akd_len ho)
  exact r_zald hd ho hlv h1 (by rw [h2]; exact kk)
theorem n_cald {a : A4} {x : Int32} {k len : Nat} (hd : decode (mC M) pc = .ok (.caload, 1)) (ho : akd a.1 = some (2, len)) (hlv : lvp n a) (hx : x = nI k) (hk : k < len) (kk : V g M mc ms cu su n (pc + 1) L (vI (hp a k) :: st) rp hp P) : V g M mc ms cu su n pc L (vI x :: vR a :: st) rp hp P := by
  obtain ⟨h1, h2⟩ := vpN hx hk (akd_len ho)
  exact r_cald hd ho hlv h1 (by rw [h2]; exact kk)
theorem n_aald {a b : A4} {x : Int32} {k t len : Nat} (hd : decode (mC M) pc = .ok (.aaload, 1)) (ho : rkd a.1 = some (t, len)) (hlv : lvp n a) (hx : x = nI k) (hk : k < len) (hb : rp a k = some b) (kk : V g M mc ms cu su n (pc + 1) L (vR b :: st) rp hp P) : V g M mc ms cu su n pc L (vI x :: vR a :: st) rp hp P := by
  obtain ⟨h1, h2⟩ := vpN hx hk (rkd_len ho)
  exact r_aald hd ho hlv h1 (by rw [h2]; exact hb) kk
theorem n_iast {a : A4} {x y : Int32} {k len : Nat} (hd : decode (mC M) pc = .ok (.iastore, 1)) (ho : akd a.1 = some (0, len)) (hlv : lvp n a) (hx : x = nI k) (hk : k < len) (kk : V g M mc ms cu su n (pc + 1) L st rp (hset hp a k y) P) : V g M mc ms cu su n pc L (vI y :: vI x :: vR a :: st) rp hp P := by
  obtain ⟨h1, h2⟩ := vpN hx hk (akd_len ho)
  exact r_iast hd ho hlv h1 (by rw [h2]; exact kk)
theorem n_zast {a : A4} {x y : Int32} {k len : Nat} (hd : decode (mC M) pc = .ok (.bastore, 1)) (ho : akd a.1 = some (1, len)) (hlv : lvp n a) (hx : x = nI k) (hk : k < len) (hy : vp_nar .boolean y = y) (kk : V g M mc ms cu su n (pc + 1) L st rp (hset hp a k y) P) : V g M mc ms cu su n pc L (vI y :: vI x :: vR a :: st) rp hp P := by
  obtain ⟨h1, h2⟩ := vpN hx hk (akd_len ho)
  exact r_zast hd ho hlv h1 hy (by rw [h2]; exact kk)
theorem n_cast {a : A4} {x y : Int32} {k len : Nat} (hd : decode (mC M) pc = .ok (.castore, 1)) (ho : akd a.1 = some (2, len)) (hlv : lvp n a) (hx : x = nI k) (hk : k < len) (hy : vp_nar .char y = y) (kk : V g M mc ms cu su n (pc + 1) L st rp (hset hp a k y) P) : V g M mc ms cu su n pc L (vI y :: vI x :: vR a :: st) rp hp P := by
  obtain ⟨h1, h2⟩ := vpN hx hk (akd_len ho)
  exact r_cast hd ho hlv h1 hy (by rw [h2]; exact kk)
theorem n_xald {t k : Nat} {x : Int32} (hd : decode (mC M) pc = .ok (.iaload, 1)) (ht : t < 3) (hx : x = nI k) (hk : k < (g.2.2.2.2 t).1) (hl : (g.2.2.2.2 t).1 < 2 ^ 31) (kk : V g M mc ms cu su n (pc + 1) L (vI ((g.2.2.2.2 t).2 k) :: st) rp hp P) : V g M mc ms cu su n pc L (vI x :: vR (24, t, 0, 0) :: st) rp hp P := by
  obtain ⟨h1, h2⟩ := vpN hx hk hl
  exact r_xald hd ht h1 (by rw [h2]; exact kk)
/-- ends of methods that make no cell -/
theorem e_i {x r : Int32} {ty : FieldType} (hd : decode (mC M) pc = .ok (.ireturn, 1)) (hr : mR M = some ty) (hx : narrow ty (.int x) = .int x) (h : x = r) (hh : hp = h1) : V g M 0 0 0 0 609 pc L [vI x] RP hp (Pi r h1) := r_retI hd hr hx (Nat.le_refl _) (Nat.le_refl _) ⟨by rw [h], rfl, rfl, hh⟩
theorem e_v (hd : decode (mC M) pc = .ok (.return_, 1)) (hr : mR M = none) (hh : hp = h1) : V g M 0 0 0 0 609 pc L [] RP hp (Pv h1) := r_retV hd hr (Nat.le_refl _) (Nat.le_refl _) ⟨rfl, rfl, rfl, hh⟩
theorem e_a {a b : A4} {Cn : String} (hd : decode (mC M) pc = .ok (.areturn, 1)) (hr : mR M = some (.object Cn)) (h : a = b) (hh : hp = h1) : V g M 0 0 0 0 609 pc L [vR a] RP hp (Pa b h1) := r_retA hd hr (Nat.le_refl _) (Nat.le_refl _) ⟨by rw [h], rfl, rfl, hh⟩
/-- the same with the judgement's own end replaced -/
theorem V.post {Q : Pst} (h : V g M mc ms cu su n pc L st rp hp Q) (hQ : ∀ v n' rp' hp', Q v n' rp' hp' → P v n' rp' hp') : V g M mc ms cu su n pc L st rp hp P := by
  intro p l e R s m args below meth c Q C RT
  exact h p l e R s m args below meth c Q C (fun v n' cu' su' rp' hp' H' locs' LS' pc' hq => RT v n' cu' su' rp' hp' H' locs' LS' pc' (hQ v n' rp' hp' hq))
theorem V.eqH {hp2 : HPt} (e : hp = hp2) (h : V g M mc ms cu su n pc L st rp hp2 P) : V g M mc ms cu su n pc L st rp hp P := e ▸ h
theorem V.eqL {L2 : List (Option Vv)} (e : L = L2) (h : V g M mc ms cu su n pc L2 st rp hp P) : V g M mc ms cu su n pc L st rp hp P := e ▸ h
theorem V.eqS {st2 : List Vv} (e : st = st2) (h : V g M mc ms cu su n pc L st2 rp hp P) : V g M mc ms cu su n pc L st rp hp P := e ▸ h
theorem Ci.eq {J : Md} {as : List Vv} {r r2 : Int32} {h2 : HPt} (h : Ci g J as hp r h1) (e : r = r2) (e2 : h1 = h2) : Ci g J as hp r2 h2 := e ▸ e2 ▸ h
end DR
theorem hs_eq {hp : HPt} {a : A4} {i : Nat} {x : Int32} : hset hp a i x a i = x := by simp [hset]
theorem hs_a {hp : HPt} {a b : A4} {i k : Nat} {x : Int32} (h : b ≠ a) : hset hp a i x b k = hp b k := by simp [hset, h]
theorem hs_i {hp : HPt} {a b : A4} {i k : Nat} {x : Int32} (h : k ≠ i) : hset hp a i x b k = hp b k := by simp [hset, h]
/-- a truth as an int -/
def bi (b : Bool) : Int32 := if b = true then 1 else 0
theorem bi_nar (b : Bool) : narrow .boolean (.int (bi b)) = .int (bi b) := by cases b <;> rfl
theorem bi_fit (b : Bool) : narrow .boolean (.int (bi b)) = .int (bi b) ∧ fits .boolean (.int (bi b)) = true := by cases b <;> exact ⟨rfl, rfl⟩
theorem bi_vp (b : Bool) : vp_nar .boolean (bi b) = bi b := by cases b <;> rfl
theorem bi_0 {b : Bool} : bi b = 0 ↔ b = false := by cases b <;> simp [bi]
theorem bi_n0 {b : Bool} : ¬ bi b = 0 ↔ b = true := by cases b <;> simp [bi]
theorem bi_t {b : Bool} (h : b = true) : (1 : Int32) = bi b := by rw [h]; rfl
theorem bi_f {b : Bool} (h : b = false) : (0 : Int32) = bi b := by rw [h]; rfl
