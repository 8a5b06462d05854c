/-! THE PICTURE: every cell that the run makes has a name (kind, t, j, b); a heap is a function from names to ints (hp), and from names to names (rp). V is the judgement of a method's walk in these words alone. -/
abbrev A4 : Type := Nat × Nat × Nat × Nat
abbrev Vv : Type := Int32 ⊕ (Int64 ⊕ Option A4)
abbrev vI (x : Int32) : Vv := Sum.inl x
abbrev vJ (x : Int64) : Vv := Sum.inr (Sum.inl x)
abbrev vR (a : A4) : Vv := Sum.inr (Sum.inr (some a))
abbrev vN : Vv := Sum.inr (Sum.inr none)
abbrev RPt : Type := A4 → Nat → Option A4
abbrev HPt : Type := A4 → Nat → Int32
/-- ghosts: class numbers, array class numbers, the first address, the addresses of the arrays that nobody writes (0 the script, 1 LEAST, 2 MOST), their lengths and contents -/
abbrev Gh : Type := va_G × (Nat → ClassId) × Nat × (Nat → Nat) × (Nat → Nat × (Nat → Int32))
/-- a kind's class -/
def okd : Nat → Option Nat := fun k => match k with
  | 0 => some 5
  | 4 => some 4
  | 5 => some 0
  | 8 => some 1
  | 12 => some 2
  | 14 => some 3
  | 15 => some 6
  | _ => none
/-- a kind's array of numbers: type (0 int, 1 boolean, 2 char), length -/
def akd : Nat → Option (Nat × Nat) := fun k => match k with
  | 2 => some (0, 3)
  | 3 => some (1, 2)
  | 6 => some (0, 5)
  | 7 => some (1, 5)
  | 11 => some (1, 2)
  | 13 => some (2, 80)
  | 16 => some (0, 8)
  | _ => none
/-- a kind's array of references: type (3 Stores, 4 Secret), length -/
def rkd : Nat → Option (Nat × Nat) := fun k => match k with
  | 1 => some (4, 8)
  | 9 => some (3, 7)
  | 10 => some (3, 2)
  | _ => none
/-- which fields hold references -/
def rfT : Nat → Nat → Bool := fun c i => match c with
  | 0 => Nat.blt i 2
  | 1 => Nat.beq i 0
  | 2 => Nat.beq i 0
  | 3 => Nat.beq i 0
  | 4 => Nat.blt i 2
  | 5 => Nat.blt i 3
  | _ => true
def nfT : Nat → Nat := fun c => match c with
  | 0 => 7
  | 1 => 3
  | 2 => 2
  | 3 => 7
  | 4 => 10
  | 5 => 10
  | _ => 6
def tyT : Nat → Nat → FieldType := fun c => match c with
  | 0 => tyX0
  | 1 => tyX1
  | 2 => tyX2
  | 3 => tyX3
  | 4 => tyX4
  | 5 => tyX5
  | _ => tyX6
def baseT (t : Nat) : Nat := if t = 0 then 1 else if t < 8 then 3 + 60 * t else 4 + 60 * t
/-- a name's place in the order of making -/
def pos (a : A4) : Nat := match a with
  | (k, t, j, b) => if k < 4 then baseT t + k else if k = 4 then baseT t + 4 + 7 * j else if k < 8 then baseT t + 7 * j + 3 * b + k else if k = 8 then 61 else if k = 9 then 62 else if k = 10 then 483 else if k < 15 then k + 593 else if k = 15 then 0 else k + 592
def stn (t o : Nat) : A4 := if o < 4 then (o, t, 0, 0) else if (o - 4) % 7 = 0 then (4, t, (o - 4) / 7, 0) else (5 + ((o - 4) % 7 - 1) % 3, t, (o - 4) / 7, ((o - 4) % 7 - 1) / 3)
/-- the name at a place -/
def nm (i : Nat) : A4 := if i = 0 then (15, 0, 0, 0) else if i < 61 then stn 0 (i - 1) else if i = 61 then (8, 0, 0, 0) else if i = 62 then (9, 0, 0, 0) else if i < 483 then stn ((i - 3) / 60) ((i - 3) % 60) else if i = 483 then (10, 0, 0, 0) else if i < 604 then stn ((i - 4) / 60) ((i - 4) % 60) else if i < 608 then (i - 593, 0, 0, 0) else (i - 592, 0, 0, 0)
theorem pos_nm : ∀ i, i < 609 → pos (nm i) = i := by decide +kernel
theorem nm_24 : ∀ i, i < 609 → (nm i).1 ≠ 24 := by decide +kernel
/-- the name is made already, when n are -/
def lvp (n : Nat) (a : A4) : Prop := nm (pos a) = a ∧ pos a < n
def al (g : Gh) (a : A4) : Nat := if a.1 = 24 then g.2.2.2.1 a.2.1 else g.2.2.1 + pos a
def trv (g : Gh) : Vv → Value := fun v => match v with
  | .inl x => .int x
  | .inr (.inl x) => .long x
  | .inr (.inr o) => va_rf (o.map (al g))
def cn (g : Gh) (rp : RPt) (hp : HPt) (a : A4) : va_E := match okd a.1 with
  | some ci => .inr (ci, (List.range (nfT ci)).map (fun i => if rfT ci i = true then va_rf ((rp a i).map (al g)) else .int (hp a i)))
  | none => match akd a.1 with
    | some (t, len) => .inl (g.2.1 t, len, .inl (hp a))
    | none => match rkd a.1 with
      | some (t, len) => .inl (g.2.1 t, len, .inr (.inr (.inr (.inr (fun i => (rp a i).map (al g))))))
      | none => .inl (0, 0, .inl (fun _ => 0))
def wl (g : Gh) (n : Nat) (rp : RPt) (hp : HPt) : va_W := (List.range n).map (fun i => (g.2.2.1 + i, cn g rp hp (nm i)))
def Af (g : Gh) : Nat → Prop := fun q => g.2.2.1 ≤ q
def tysF (g : Gh) : List (ClassId × FieldType) := [(g.2.1 0, .int), (g.2.1 1, .boolean), (g.2.1 2, .char), (g.2.1 3, .object RX5), (g.2.1 4, .object RX4)]
theorem lvp_al {g : Gh} {n : Nat} {a : A4} (hn : n ≤ 609) (h : lvp n a) : al g a = g.2.2.1 + pos a := by
  have h1 := nm_24 (pos a) (Nat.lt_of_lt_of_le h.2 hn)
  rw [h.1] at h1
  unfold al
  rw [if_neg h1]
theorem wl_get {g : Gh} {n : Nat} {rp : RPt} {hp : HPt} {a : A4} (hn : n ≤ 609) (h : lvp n a) : (wl g n rp hp)[pos a]? = some (al g a, cn g rp hp a) := by
  unfold wl
  rw [List.getElem?_map, List.getElem?_range h.2, Option.map_some, h.1, lvp_al hn h]
theorem wl_D {g : Gh} {n : Nat} {rp : RPt} {hp : HPt} : va_D (Af g) (wl g n rp hp) := by
  have key : ∀ (k : Nat) (q : Nat × va_E), (wl g n rp hp)[k]? = some q → q.1 = g.2.2.1 + k := by
    intro k q h
    unfold wl at h
    rw [List.getElem?_map] at h
    by_cases hk : k < n
    · rw [List.getElem?_range hk, Option.map_some] at h
      cases h
      rfl
    · rw [List.getElem?_eq_none (by rw [List.length_range]; omega), Option.map_none] at h
      cases h
  refine ⟨fun i j p q hi hj hpq => ?_, fun k q hk => ?_⟩
  · rw [key i p hi, key j q hj] at hpq
    omega
  · rw [key k q hk]
    exact Nat.le_add_right _ _
theorem wl_cong {g : Gh} {n : Nat} {rp rp' : RPt} {hp hp' : HPt} (h : ∀ i, i < n → cn g rp hp (nm i) = cn g rp' hp' (nm i)) : wl g n rp hp = wl g n rp' hp' := by
  unfold wl
  refine List.map_congr_left (fun i hi => ?_)
  rw [h i (List.mem_range.mp hi)]
theorem cn_cong {g : Gh} {rp rp' : RPt} {hp hp' : HPt} {a : A4} (h1 : rp a = rp' a) (h2 : hp a = hp' a) : cn g rp hp a = cn g rp' hp' a := by
  unfold cn
  rw [h1, h2]
theorem wl_set {g : Gh} {n : Nat} {rp rp' : RPt} {hp hp' : HPt} {a : A4} (hn : n ≤ 609) (h : lvp n a) (hrp : ∀ b, b ≠ a → rp b = rp' b) (hhp : ∀ b, b ≠ a → hp b = hp' b) : (wl g n rp hp).set (pos a) (al g a, cn g rp' hp' a) = wl g n rp' hp' := by
  refine List.ext_getElem? (fun i => ?_)
  by_cases hi : i = pos a
  · subst hi
    rw [List.getElem?_set_self (by unfold wl; rw [List.length_map, List.length_range]; exact h.2), wl_get hn h]
  · rw [List.getElem?_set_ne (Ne.symm hi)]
    unfold wl
    rw [List.getElem?_map, List.getElem?_map]
    by_cases hk : i < n
    · rw [List.getElem?_range hk, Option.map_some, Option.map_some]
      have hne : nm i ≠ a := by
        intro q
        have h1 := pos_nm i (by omega)
        rw [q] at h1
        exact hi h1.symm
      rw [cn_cong (hrp _ hne) (hhp _ hne)]
    · rw [List.getElem?_eq_none (by rw [List.length_range]; omega), Option.map_none, Option.map_none]
theorem wl_push {g : Gh} {n : Nat} {rp : RPt} {hp : HPt} : wl g (n + 1) rp hp = wl g n rp hp ++ [(g.2.2.1 + n, cn g rp hp (nm n))] := by
  unfold wl
  rw [List.range_succ, List.map_append]
  rfl
/-- the tables' words that hold everywhere -/
def lw_good : List Cond := lw_tbl.filter goodWord
def isNest : Cond → Bool
  | .fieldLinkNest .. => true
  | .methodLinkNest .. => true
  | _ => false
def lw_nest : List Cond := lw_tbl.filter isNest
theorem gd_i {w : Cond} (i : Nat) (h : lw_tbl[i]? = some w) (hg : goodWord w = true) : w ∈ lw_good := List.mem_filter.mpr ⟨List.mem_of_getElem? h, hg⟩
theorem ns_i {w : Cond} (i : Nat) (h : lw_tbl[i]? = some w) (hg : isNest w = true) : w ∈ lw_nest := List.mem_filter.mpr ⟨List.mem_of_getElem? h, hg⟩
theorem gd_ok {w : Cond} (h : w ∈ lw_good) : (w.onTables && w.keeps) = true ∨ ∃ ty, w = .arrayClass ty := good_of_word (List.mem_filter.mp h).2
/-- what a state's tables, and the arrays that nobody writes, are -/
def SX (g : Gh) (U : State) : Prop := va_K (g.1.1, g.1.2) vwCl (tysF g) U ∧ (∀ w ∈ lw_nest, va_Nw w U) ∧ (va_AO RX5 U ∧ va_AO RX4 U) ∧ va_Z "SplitSecrets" "LEAST_OF_SETTING" "[I" (.ref (g.2.2.2.1 1)) (Af g) U U.heap ∧ va_Z "SplitSecrets" "MOST_OF_SETTING" "[I" (.ref (g.2.2.2.1 2)) (Af g) U U.heap ∧ ∀ t, t < 3 → va_T .int (g.2.2.2.1 t) (g.2.2.2.2 t).1 (fun j => .int ((g.2.2.2.2 t).2 j)) (Af g) U U.heap
theorem SX.same {g : Gh} {u U : State} (h : SX g u) (hvm : u.vm = U.vm) (hh : u.heap = U.heap) : SX g U := by
  obtain ⟨h1, h2, h3, h4, h5, h6⟩ := h
  have ha : u.vm.Alike U.vm := by rw [hvm]; exact Vm.Alike.refl _
  refine ⟨va_K.moved ha h1, fun w hw => ?_, ⟨h3.1.moved ha, h3.2.moved ha⟩, ?_, ?_, fun t ht => ?_⟩
  · have hn := (List.mem_filter.mp hw).2
    refine va_Nw.same ?_ hvm (h2 w hw)
    cases w <;> first | rfl | (exact absurd hn (by decide)) | (simp [isNest] at hn)
  · rw [← hh]; exact va_Z.moved ha h4
  · rw [← hh]; exact va_Z.moved ha h5
  · rw [← hh]; exact va_T.moved ha (h6 t ht)
theorem SX.warm {g : Gh} {u U : State} {H : Heap} {locs : List Loc} (h : SX g u) (hS : va_S (Af g) u.heap H locs) (hU : U.heap = H) (hW : u.WarmedH U.vm) : SX g U := by
  obtain ⟨h1, h2, h3, h4, h5, h6⟩ := h
  have ha : u.vm.Alike U.vm := hW.alike
  refine ⟨va_K.moved ha h1, fun w hw => ?_, ⟨h3.1.moved ha, h3.2.moved ha⟩, ?_, ?_, fun t ht => ?_⟩
  · have hn := (List.mem_filter.mp hw).2
    have hw2 := h2 w hw
    cases w with
    | fieldLinkNest a i b n d h => exact va_Nw.warmF hW hw2
    | methodLinkNest a i x h => exact va_Nw.warmM hW hw2
    | _ => simp [isNest] at hn
  · rw [hU]; exact (va_Z.moved ha h4).kept hS.2.1
  · rw [hU]; exact (va_Z.moved ha h5).kept hS.2.1
  · rw [hU]; exact (va_T.moved ha (h6 t ht)).kept hS.2.1
/-- a method: name, code, locals, answer; frames and words below it -/
abbrev Md : Type := MethodName × ByteArray × Nat × Option FieldType × Nat × Nat
abbrev mY (M : Md) : MethodName := M.1
abbrev mK (M : Md) : String := M.1.cls
abbrev mC (M : Md) : ByteArray := M.2.1
abbrev mL (M : Md) : Nat := M.2.2.1
abbrev mR (M : Md) : Option FieldType := M.2.2.2.1
abbrev mF (M : Md) : Nat := M.2.2.2.2.1
abbrev mW (M : Md) : Nat := M.2.2.2.2.2
def HX (g : Gh) (n : Nat) (rp : RPt) (hp : HPt) (H : Heap) : Prop := va_P (g.1.1, g.1.2) vwCl (wl g n rp hp) H ∧ H.size = g.2.2.1 + n ∧ n ≤ 609
def CX (g : Gh) (M : Md) (mc ms : Nat) (p : Program) (R : Room) (s : State) (m : MethodId) (args : Array Value) (meth : Method) (c : Code) : Prop :=
  p.tables.exec = Jvm.exec ∧ c.code = mC M ∧ meth.sig.returnType = mR M ∧ c.maxLocals = mL M ∧ s.vm.findClass (mK M) = some m.cls ∧ (∀ w ∈ lw_good, w.before args s = true) ∧ meth.locks = false ∧ meth.name = (mY M).name ∧ SX g s ∧ (mF M ≤ R.frames ∧ mW M ≤ R.locals ∧ mc ≤ R.cells ∧ ms ≤ R.slots) ∧ g.2.2.1 ≤ s.heap.size
def cvL (g : Gh) (L : List (Option Vv)) : List (Nat × Value) := (List.range L.length).filterMap (fun i => (L.getD i none).map (fun v => (i, trv g v)))
/-- an end: what lies on the stack, at a return -/
def RTt (M : Md) (v : Option Vv) (pc : Nat) : Prop :=
  (v = none ∧ mR M = none ∧ decode (mC M) pc = .ok (.return_, 1)) ∨ (∃ (x : Int32) (ty : FieldType), v = some (vI x) ∧ mR M = some ty ∧ narrow ty (.int x) = .int x ∧ decode (mC M) pc = .ok (.ireturn, 1)) ∨ ∃ (a : A4) (C : String), v = some (vR a) ∧ mR M = some (.object C) ∧ decode (mC M) pc = .ok (.areturn, 1)
abbrev Pst : Type := Option Vv → Nat → RPt → HPt → Prop
/-- THE JUDGEMENT: the method M, with cu cells and su slots of its mc, ms used, n cells made, at pc, with locals L and stack st, ends with Post -/
def V (g : Gh) (M : Md) (mc ms cu su n pc : Nat) (L : List (Option Vv)) (st : List Vv) (rp : RPt) (hp : HPt) (Post : Pst) : Prop :=
  ∀ (p : Program) (l : Launch) (e : Env) (R : Room) (s : State) (m : MethodId) (args : Array Value) (below : List Frame) (meth : Method) (c : Code) (Q : State → Prop),
    CX g M mc ms p R s m args meth c →
    (∀ (v : Option Vv) (n' cu' su' : Nat) (rp' : RPt) (hp' : HPt) (H' : Heap) (locs' : List Loc) (LS' : Array Slot) (pc' : Nat), Post v n' rp' hp' → cu' ≤ mc → su' ≤ ms → HX g n' rp' hp' H' → va_S (Af g) s.heap H' locs' → RTt M v pc' →
      W p l e R s m args below meth c H' locs' cu' su' Q (F0 m pc' LS' (v.toList.map (trv g)))) →
    ∀ (H : Heap) (locs : List Loc) (LS : Array Slot), HX g n rp hp H → va_S (Af g) s.heap H locs → lv_has LS (mL M) (cvL g L) → W p l e R s m args below meth c H locs cu su Q (F0 m pc LS (st.map (trv g)))
theorem cvL_mem {g : Gh} {L : List (Option Vv)} {q : Nat × Value} : q ∈ cvL g L ↔ ∃ v, L[q.1]? = some (some v) ∧ q.2 = trv g v := by
  unfold cvL
  rw [List.mem_filterMap]
  constructor
  · rintro ⟨i, hi, h⟩
    have hi := List.mem_range.mp hi
    rw [List.getD_eq_getElem?_getD] at h
    cases hv : L[i]? with
    | none => rw [hv] at h; simp at h
    | some o =>
      cases o with
      | none => rw [hv] at h; simp at h
      | some v =>
        rw [hv] at h
        simp at h
        subst h
        exact ⟨v, hv, rfl⟩
  · rintro ⟨v, h1, h2⟩
    refine ⟨q.1, List.mem_range.mpr (List.getElem?_eq_some_iff.mp h1).1, ?_⟩
    rw [List.getD_eq_getElem?_getD, h1]
    simp
    rw [← h2]
theorem cvL_at {g : Gh} {L : List (Option Vv)} {LS : Array Slot} {nL i : Nat} {v : Vv} (h : lv_has LS nL (cvL g L)) (hv : L[i]? = some (some v)) : LS[i]? = some (.val (trv g v)) := h.2.2 (i, trv g v) (cvL_mem.mpr ⟨v, hv, rfl⟩)
/-- no long lies just below a place -/
def lnl (L : List (Option Vv)) (i : Nat) : Bool := match i with
  | 0 => true
  | k + 1 => match L[k]? with
    | some (some (.inr (.inl _))) => false
    | _ => true
theorem cvL_set {g : Gh} {L : List (Option Vv)} {LS : Array Slot} {nL i : Nat} {v : Vv} (hln : lnl L i = true) (h : lv_has LS nL ((i, trv g v) :: (cvL g L).filter (fun q => !(q.1 == i) && !(q.1 + 1 == i && q.2.category == 2)))) : lv_has LS nL (cvL g (L.set i (some v))) := by
  refine ⟨h.1, h.2.1, fun q hq => ?_⟩
  obtain ⟨w, h1, h2⟩ := cvL_mem.mp hq
  by_cases hi : q.1 = i
  · have hlt : i < L.length := by
      have := (List.getElem?_eq_some_iff.mp h1).1
      rw [List.length_set] at this
      omega
    rw [hi, List.getElem?_set_self hlt] at h1
    cases h1
    have h3 := h.2.2 (i, trv g v) List.mem_cons_self
    obtain ⟨q1, q2⟩ := q
    subst hi
    subst h2
    exact h3
  · rw [List.getElem?_set_ne (Ne.symm hi)] at h1
    refine h.2.2 q (List.mem_cons_of_mem _ (List.mem_filter.mpr ⟨cvL_mem.mpr ⟨w, h1, h2⟩, ?_⟩))
    have h4 : ¬ (q.1 + 1 = i ∧ q.2.category = 2) := by
      rintro ⟨e1, e2⟩
      rw [← e1] at hln
      dsimp only [lnl] at hln
      rw [h1] at hln
      rw [h2] at e2
      rcases w with x | x | x
      · simp [trv, Value.category] at e2
      · simp at hln
      · cases x <;> simp [trv, va_rf, Value.category] at e2
    simp only [Bool.and_eq_true, Bool.not_eq_true', beq_eq_false_iff_ne, ne_eq, Bool.and_eq_false_iff]
    refine ⟨hi, ?_⟩
    rcases Nat.decEq (q.1 + 1) i with z | z
    · exact Or.inl z
    · exact Or.inr (fun y => h4 ⟨z, y⟩)
