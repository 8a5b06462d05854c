/-- what is done to the reference's row depends on the row alone -/
def LOC (F : HPt → HPt) : Prop := ∀ h1 h2 : HPt, h1 (17, 0, 0, 0) = h2 (17, 0, 0, 0) → F h1 (17, 0, 0, 0) = F h2 (17, 0, 0, 0)
def Zr (s : Nat → Int32) : HPt := fun a i => if a = (17, 0, 0, 0) then s i else 0
theorem Zr_17 {s : Nat → Int32} : Zr s (17, 0, 0, 0) = s := by funext i; simp [Zr]
theorem hs_loc {h1 h2 : HPt} {i : Nat} {x y : Int32} (e : h1 (17, 0, 0, 0) = h2 (17, 0, 0, 0)) (ex : x = y) : hset h1 (17, 0, 0, 0) i x (17, 0, 0, 0) = hset h2 (17, 0, 0, 0) i y (17, 0, 0, 0) := by
  funext k
  unfold hset
  rw [e, ex]
theorem rdr_loc : LOC rdr := fun h1 h2 e => hs_loc e (by rw [e])
theorem rdv_loc {h1 h2 : HPt} {m : Int32} (e : h1 (17, 0, 0, 0) = h2 (17, 0, 0, 0)) : rdv h1 m = rdv h2 m := by
  unfold rdv
  rw [rdr_loc h1 h2 e]
theorem RM_loc {h1 h2 : HPt} {j : Nat} {v num : Int32} (e : h1 (17, 0, 0, 0) = h2 (17, 0, 0, 0)) : RM h1 j v num (17, 0, 0, 0) = RM h2 j v num (17, 0, 0, 0) := by
  have e1 : rm1 h1 j v num (17, 0, 0, 0) = rm1 h2 j v num (17, 0, 0, 0) := hs_loc (hs_loc (hs_loc (hs_loc (rdr_loc _ _ e) rfl) (rdv_loc e)) (by rw [rdv_loc e])) rfl
  have e2 : ∀ (a b : HPt) (k : Nat), a (17, 0, 0, 0) = b (17, 0, 0, 0) → rm2 a j k (17, 0, 0, 0) = rm2 b j k (17, 0, 0, 0) := fun a b k q => hs_loc (rdr_loc _ _ q) (by rw [rdv_loc q])
  have e3 : ∀ (a b : HPt) (k : Nat), a (17, 0, 0, 0) = b (17, 0, 0, 0) → rm3 a j k (17, 0, 0, 0) = rm3 b j k (17, 0, 0, 0) := fun a b k q => hs_loc (rdr_loc _ _ q) (by rw [rdv_loc q])
  have e4 := e3 _ _ 1 (e2 _ _ 1 (e3 _ _ 0 (e2 _ _ 0 e1)))
  exact hs_loc e4 (by rw [e4])
theorem rz_loc {h1 h2 : HPt} {j r : Nat} (e : h1 (17, 0, 0, 0) = h2 (17, 0, 0, 0)) : ∀ w, rz h1 j r w (17, 0, 0, 0) = rz h2 j r w (17, 0, 0, 0)
  | 0 => e
  | w + 1 => hs_loc (rz_loc e w) rfl
theorem rbs_loc {h1 h2 : HPt} {j m : Nat} (e : h1 (17, 0, 0, 0) = h2 (17, 0, 0, 0)) : ∀ k, rbs h1 j m k (17, 0, 0, 0) = rbs h2 j m k (17, 0, 0, 0)
  | 0 => e
  | k + 1 => hs_loc (rz_loc (rbs_loc e k) 4) rfl
theorem RB_loc {h1 h2 : HPt} {j m l : Nat} (e : h1 (17, 0, 0, 0) = h2 (17, 0, 0, 0)) : RB h1 j m l (17, 0, 0, 0) = RB h2 j m l (17, 0, 0, 0) := hs_loc (rbs_loc e _) (by rw [e])
theorem rsh_loc {h1 h2 : HPt} {j k : Nat} (e : h1 (17, 0, 0, 0) = h2 (17, 0, 0, 0)) : rsh h1 j k (17, 0, 0, 0) = rsh h2 j k (17, 0, 0, 0) := by
  funext i
  unfold rsh
  rw [e]
theorem rf1_loc {h1 h2 : HPt} {j m o : Nat} (e : h1 (17, 0, 0, 0) = h2 (17, 0, 0, 0)) : rf1 h1 j m o (17, 0, 0, 0) = rf1 h2 j m o (17, 0, 0, 0) := by
  unfold rf1
  split
  · exact hs_loc (rsh_loc (RB_loc e)) (by rw [RB_loc e])
  · exact hs_loc (RB_loc e) (by rw [RB_loc e])
theorem RF_loc {h1 h2 : HPt} {j m o : Nat} (e : h1 (17, 0, 0, 0) = h2 (17, 0, 0, 0)) : RF h1 j m o (17, 0, 0, 0) = RF h2 j m o (17, 0, 0, 0) := by
  unfold RF rVal
  rw [e]
  exact RM_loc (rf1_loc e)
theorem RK_loc {h1 h2 : HPt} {n : Nat} {x : Int32} (e : h1 (17, 0, 0, 0) = h2 (17, 0, 0, 0)) : RK h1 n x (17, 0, 0, 0) = RK h2 n x (17, 0, 0, 0) := RM_loc (hs_loc e rfl)
theorem RG_loc {h1 h2 : HPt} {j : Nat} (e : h1 (17, 0, 0, 0) = h2 (17, 0, 0, 0)) : RG h1 j (17, 0, 0, 0) = RG h2 j (17, 0, 0, 0) := by
  have em : rMg h1 j = rMg h2 j := by
    unfold rMg rPn rPs rTold rTag
    rw [e]
  have el : rLie h1 j = rLie h2 j := by
    unfold rLie
    rw [e]
  unfold RG
  rw [em, el]
  split
  · exact hs_loc (hs_loc (hs_loc (hs_loc e rfl) (by rw [e])) (by rw [e])) (by rw [e])
  · exact hs_loc (hs_loc e (by rw [e])) (by rw [e])
theorem RT3_loc {h1 h2 : HPt} {j b r : Nat} (e : h1 (17, 0, 0, 0) = h2 (17, 0, 0, 0)) : RT3 h1 j b r (17, 0, 0, 0) = RT3 h2 j b r (17, 0, 0, 0) := by
  have e1 : rt1 h1 j b r (17, 0, 0, 0) = rt1 h2 j b r (17, 0, 0, 0) := hs_loc e (by rw [e])
  have en : rNw h1 j b r = rNw h2 j b r := by
    unfold rNw
    rw [e]
  have e2 : rt2 h1 j b r (17, 0, 0, 0) = rt2 h2 j b r (17, 0, 0, 0) := hs_loc e1 (by rw [e1, en])
  exact hs_loc e2 (by rw [e2])
theorem bt1_loc {h1 h2 : HPt} (e : h1 (17, 0, 0, 0) = h2 (17, 0, 0, 0)) : ∀ i, bt1 h1 i (17, 0, 0, 0) = bt1 h2 i (17, 0, 0, 0)
  | 0 => e
  | i + 1 => hs_loc (bt1_loc e i) (by rw [bt1_loc e i])
theorem RFn_loc {h1 h2 : HPt} {j : Nat} (e : h1 (17, 0, 0, 0) = h2 (17, 0, 0, 0)) : RFn h1 j (17, 0, 0, 0) = RFn h2 j (17, 0, 0, 0) := by
  unfold RFn
  rw [e]
  exact RF_loc e
theorem rq_loc {h1 h2 : HPt} (e : h1 (17, 0, 0, 0) = h2 (17, 0, 0, 0)) : ∀ i, rq h1 i (17, 0, 0, 0) = rq h2 i (17, 0, 0, 0)
  | 0 => e
  | i + 1 => by
    have ih := rq_loc e i
    have eE : rEv (rq h1 i) = rEv (rq h2 i) := by
      unfold rEv
      rw [ih]
    have eC : rCan (rq h1 i) i = rCan (rq h2 i) i := by
      unfold rCan rAwk
      rw [ih]
    unfold rq
    rw [eE, eC]
    split
    · exact RFn_loc ih
    · exact ih
theorem rbt_loc {h1 h2 : HPt} {n : Nat} (e : h1 (17, 0, 0, 0) = h2 (17, 0, 0, 0)) : ∀ k, rbt h1 n k (17, 0, 0, 0) = rbt h2 n k (17, 0, 0, 0)
  | 0 => e
  | k + 1 => by
    have ih := rbt_loc (n := n) e k
    show RPB (rbt h1 n k) n _ = RPB (rbt h2 n k) n _
    unfold RPB
    exact rq_loc (hs_loc (bt1_loc ih n) (by rw [ih])) n
theorem loc_of {F : HPt → HPt} (h : ∀ h1 h2 : HPt, h1 (17, 0, 0, 0) = h2 (17, 0, 0, 0) → F h1 (17, 0, 0, 0) = F h2 (17, 0, 0, 0)) : LOC F := h
