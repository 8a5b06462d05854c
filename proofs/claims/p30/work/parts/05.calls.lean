/-- the locals with which a method begins -/
def inL : List Vv → Nat → List (Option Vv)
  | [], k => List.replicate k none
  | v :: vs, k => match v with
    | .inr (.inl _) => some v :: none :: inL vs (k - 2)
    | _ => some v :: inL vs (k - 1)
theorem inL_mem {g : Gh} : ∀ (vs : List Vv) (k off i : Nat) (v : Vv), (inL vs k)[i]? = some (some v) → (off + i, trv g v) ∈ lv_args off (vs.map (trv g))
  | [], k, off, i, v, h => by
    unfold inL at h
    rw [List.getElem?_replicate] at h
    split at h <;> cases h
  | w :: vs, k, off, i, v, h => by
    rcases w with x | x | x
    · cases i with
      | zero => simp [inL] at h; subst h; exact List.mem_cons_self
      | succ i =>
        have h2 : (inL vs (k - 1))[i]? = some (some v) := by simpa [inL] using h
        have h3 := inL_mem (g := g) vs (k - 1) (off + 1) i v h2
        rw [show off + 1 + i = off + (i + 1) by omega] at h3
        exact List.mem_cons_of_mem _ h3
    · cases i with
      | zero => simp [inL] at h; subst h; exact List.mem_cons_self
      | succ i =>
        cases i with
        | zero => simp [inL] at h
        | succ i =>
          have h2 : (inL vs (k - 2))[i]? = some (some v) := by simpa [inL] using h
          have h3 := inL_mem (g := g) vs (k - 2) (off + 2) i v h2
          rw [show off + 2 + i = off + (i + 1 + 1) by omega] at h3
          exact List.mem_cons_of_mem _ h3
    · cases i with
      | zero => simp [inL] at h; subst h; exact List.mem_cons_self
      | succ i =>
        have h2 : (inL vs (k - 1))[i]? = some (some v) := by simpa [inL] using h
        have h3 := inL_mem (g := g) vs (k - 1) (off + 1) i v h2
        rw [show off + 1 + i = off + (i + 1) by omega] at h3
        have hc : (trv g (Sum.inr (Sum.inr x))).category = 1 := by cases x <;> rfl
        show _ ∈ _ :: lv_args (if (trv g (Sum.inr (Sum.inr x))).category = 2 then off + 2 else off + 1) _
        rw [if_neg (by rw [hc]; decide)]
        exact List.mem_cons_of_mem _ h3
/-- how many words the arguments take -/
def wdL : List Vv → Nat
  | [] => 0
  | v :: vs => (match v with
    | .inr (.inl _) => 2
    | _ => 1) + wdL vs
theorem wdL_sl {g : Gh} : ∀ vs : List Vv, (lg_sl (vs.map (trv g))).length = wdL vs
  | [] => rfl
  | v :: vs => by
    have h := wdL_sl (g := g) vs
    unfold lg_sl at h ⊢
    rw [List.map_cons, List.flatMap_cons, List.length_append, h]
    rcases v with x | x | x
    · rfl
    · rfl
    · cases x <;> rfl
abbrev MS (M : Md) : List Cond := Cond.code (mY M) (mC M) (mL M) (mR M) :: lw_good
abbrev rmM (M : Md) (mc ms : Nat) : Room := { frames := mF M, cells := mc, slots := ms, locals := mW M }
def Qx (g : Gh) (P : Pst) : Array Value → State → Outcome → State → Prop := fun _ st o t => ∃ (v : Option Vv) (n' : Nat) (rp' : RPt) (hp' : HPt), o = .returned (v.map (trv g)) ∧ P v n' rp' hp' ∧ HX g n' rp' hp' t.heap ∧ va_F (Af g) st t
abbrev Px (g : Gh) (as : List Vv) (n : Nat) (rp : RPt) (hp : HPt) : Array Value → State → Prop := va_Pc (as.map (trv g)) (fun U => HX g n rp hp U.heap ∧ SX g U)
/-- the contract out of the walk, for a method that no entry runs in its bytecode's place -/
theorem met_ofF {l : Launch} {y : MethodName} {ws ws' : List Cond} {rm : Room} {Pc : Array Value → State → Prop} {Qc : Array Value → State → Outcome → State → Prop} {mc ms : Nat} {free : Addr → Prop} {cc : ByteArray} {maxL : Nat} {ret : Option FieldType}
    (hy : plainFor y = true) (hw : ws = Cond.code y cc maxL ret :: ws')
    (body : ∀ p e s m args below meth c s₁, BodyLoose p l y (headSpec ws rm) cc maxL ret e s m args below meth c s₁ → c.maxLocals = maxL → Pc args s →
      W p l e (headSpec ws rm).room s m args below meth c s.heap [] 0 0 (MQ below Qc args s mc ms free) (entryFrame m args maxL)) : Met l y ws rm Pc Qc mc ms free := by
  refine MetFree.of_bodySF (code := cc) (maxLocals := maxL) (ret := ret) hy ?_ ?_
  · intro args s m h hn
    obtain ⟨meth, c, h1, h2, h3, h4, h5, h6, -, -⟩ := Cond.code_spec hn (atoms_spec (ws := ws) h _ (by rw [hw]; exact List.mem_cons_self))
    exact ⟨meth, c, h1, h2, h3, h4, h5, h6⟩
  · intro p e s m args below meth c s₁ B hml hP _
    have hh0 : s₁.heap = s.heap := by rw [B.state]; rfl
    obtain ⟨t, a1, o, b1, b2, b3⟩ := body p e s m args below meth c s₁ B hml hP s₁ hh0 (Stand.of_body B)
    exact ⟨t, o, a1, b1, b2, ⟨b3.1, b3.2⟩⟩
/-- a method's judgement from its entry is its contract -/
theorem met_of {g : Gh} {M : Md} {mc ms n : Nat} {as : List Vv} {rp : RPt} {hp : HPt} {P : Pst} (l : Launch) (hy : plainFor (mY M) = true) (hw : wdL as ≤ mL M) (hV : V g M mc ms 0 0 n 0 (inL as (mL M)) [] rp hp P) : Met l (mY M) (MS M) (rmM M mc ms) (Px g as n rp hp) (Qx g P) mc ms (Af g) := by
  refine met_ofF (cc := mC M) (maxL := mL M) (ret := mR M) hy rfl ?_
  intro p e s m args below meth c s₁ B hml hv
  obtain ⟨rfl, hH, hSX⟩ := hv
  have hts := atoms_spec (ws := MS M) B.pre
  have hin : meth.name = (mY M).name := (name_of_methodNamed B.named B.method).1
  have C : CX g M mc ms p (headSpec (MS M) (rmM M mc ms)).room s m (as.map (trv g)).toArray meth c := ⟨B.exec, B.bytes, B.returns, hml, findClass_of_methodNamed B.named, fun w h => hts w (List.mem_cons_of_mem _ h), B.notSynchronized, hin, hSX, ⟨Nat.le_refl _, Nat.le_refl _, Nat.le_refl _, Nat.le_refl _⟩, by rw [hH.2.1]; exact Nat.le_add_right _ _⟩
  have hl := lv_entry (as.map (trv g)) (n := mL M) (by rw [wdL_sl]; exact hw)
  rw [lg_entry_eq]
  refine hV p l e _ s m _ below meth c _ C ?_ s.heap [] _ hH va_S.rf ⟨hl.1, hl.2.1, fun q hq => ?_⟩
  · intro v n' cu' su' rp' hp' H' locs' LS' pc' hP hcu hsu hH' hS' hret
    refine W.widen hcu hsu ?_
    have hq : ∀ t : State, t.heap = H' → Qx g P (as.map (trv g)).toArray s (.returned (v.map (trv g))) t := fun t ht => ⟨v, n', rp', hp', rfl, hP, by rw [ht]; exact hH', hS'.F ht⟩
    rcases hret with ⟨rfl, hr, hd⟩ | ⟨x, ty, rfl, hr, hx, hd⟩ | ⟨a, Cn, rfl, hr, hd⟩
    · exact W.vret B.exec B.bytes (B.returns.trans hr) (fun t ht _ => hq t ht) hS'.2.2 hd B.notSynchronized
    · exact W.zret B.exec B.bytes (B.returns.trans hr) hx (fun t ht _ => hq t ht) hS'.2.2 hd B.notSynchronized
    · exact W.aret (v := .ref (al g a)) B.exec B.bytes (B.returns.trans hr) (Or.inl ⟨Cn, rfl⟩) (Or.inr ⟨_, rfl⟩) (fun t ht _ => hq t ht) hS'.2.2 hd B.notSynchronized
  · obtain ⟨v, h1, h2⟩ := cvL_mem.mp hq
    have h3 := inL_mem (g := g) as (mL M) 0 q.1 v h1
    rw [Nat.zero_add, ← h2] at h3
    exact hl.2.2 q h3
section RC
variable {g : Gh} {M J : Md} {mc ms cu su n pc mcj msj : Nat} {L : List (Option Vv)} {st : List Vv} {rp : RPt} {hp : HPt} {P PJ : Pst}
variable {p : Program} {l : Launch} {e : Env} {R : Room} {s : State} {m : MethodId} {args : Array Value} {below : List Frame} {meth : Method} {c : Code} {Q : State → Prop} {H : Heap} {locs : List Loc} {LS : Array Slot}
/-- behind a call -/
theorem w_call {rest : List Value} {st0 : List Value} {a : Array Value} {pc : Nat} (hr : va_Run p l e R s m args below meth c H locs cu su mcj msj (F0 m pc LS st0) rest (Qx g PJ a) (Af g)) (hS : va_S (Af g) s.heap H locs)
    (kk : ∀ (v : Option Vv) (n' : Nat) (rp' : RPt) (hp' : HPt) (H1 : Heap) (locs1 : List Loc), PJ v n' rp' hp' → HX g n' rp' hp' H1 → va_S (Af g) s.heap H1 locs1 → W p l e R s m args below meth c H1 locs1 (cu + mcj) (su + msj) Q (F0 m (pc + 3) LS ((v.map (trv g)).toList ++ rest))) : W p l e R s m args below meth c H locs cu su Q (F0 m pc LS st0) := by
  intro T hT X
  obtain ⟨v, st₀, t, T', L, h0, X', hL, e1, e2, ⟨w, n', rp', hp', hv, hP, hH, hz, hk⟩, st⟩ := hr T hT X
  have hv : v = w.map (trv g) := by cases hv; rfl
  subst hv
  rw [h0] at hz hk
  obtain ⟨t2, a1, b1⟩ := kk w n' rp' hp' T'.heap (locs ++ L) hP (by rw [e1]; exact hH)
    ⟨Nat.le_trans hS.1 (by rw [e1]; exact hz), fun q h1 h2 => by rw [e1, hk q (Nat.lt_of_lt_of_le h1 hS.1) h2]; exact hS.2.1 q h1 h2, fun q hq => by
      rcases List.mem_append.mp hq with h | h
      · exact hS.2.2 q h
      · exact hL q h⟩ T' rfl X'
  exact ⟨t2, st t2 a1, b1⟩
theorem c_blind {as : List Vv} : FrameBlind (Px g as n rp hp) := by
  intro a U gg mk q
  obtain ⟨q0, q1, q2⟩ := q
  exact ⟨q0, q1, q2.same rfl rfl⟩
theorem c_preS {as : List Vv} (C : CX g M mc ms p R s m args meth c) (hH : HX g n rp hp H) (hS : va_S (Af g) s.heap H locs) : PreS s H (Px g as n rp hp) (as.map (trv g)) := by
  refine ⟨c_blind, fun U hU hW => ⟨rfl, by rw [hU]; exact hH, ?_⟩⟩
  exact C.2.2.2.2.2.2.2.2.1.warm hS hU hW
theorem c_preV {as : List Vv} {b : A4} {ci : Nat} {q : vw_C} (C : CX g M mc ms p R s m args meth c) (hH : HX g n rp hp H) (hS : va_S (Af g) s.heap H locs) (hob : okd b.1 = some ci) (hc : vwCl[ci]? = some q) (hlv : lvp n b) : PreV s H q.1 (al g b) (Px g (vR b :: as) n rp hp) (as.map (trv g)) := by
  refine ⟨c_blind, ?_, fun U hU hW => ⟨rfl, by rw [hU]; exact hH, C.2.2.2.2.2.2.2.2.1.warm hS hU hW⟩⟩
  have he := wl_get (g := g) (rp := rp) (hp := hp) hH.2.2 hlv
  rw [cn_ob hob] at he
  exact va_recv C.2.2.2.2.2.2.2.2.1.1 hH.1 hc he
/-- the facts of a call's method: its words among the tables', its number of parameters, its room below the caller's -/
def CLo (M J : Md) (k : Nat) : Prop := plainFor (mY J) = true ∧ Cond.code (mY J) (mC J) (mL J) (mR J) ∈ lw_good ∧ (mK J ≠ "java/lang/invoke/MethodHandle" ∧ mK J ≠ "java/lang/invoke/VarHandle") ∧ (parseMethodDescriptor (mY J).desc).map (fun d => d.parameters.length) = some k ∧ mF J + 1 ≤ mF M ∧ 8 + (mL J + 11) + mW J ≤ mW M ∧ Cond.initialized (mK J) ∈ lw_good
theorem c_good (hc : Cond.code (mY J) (mC J) (mL J) (mR J) ∈ lw_good) : GoodIn lw_good (MS J) := by
  intro w hw
  rcases List.mem_cons.mp hw with rfl | hw
  · exact ⟨hc, gd_ok hc⟩
  · exact ⟨hw, gd_ok hw⟩
theorem c_room (C : CX g M mc ms p R s m args meth c) {k : Nat} (h : CLo M J k) : (rmM J mcj msj).frames + 1 ≤ R.frames ∧ 8 + (mL J + 11) + (rmM J mcj msj).locals ≤ R.locals := by
  have hR := C.2.2.2.2.2.2.2.2.2.1
  exact ⟨Nat.le_trans h.2.2.2.2.1 hR.1, Nat.le_trans h.2.2.2.2.2.1 hR.2.1⟩
theorem c_budget (C : CX g M mc ms p R s m args meth c) (h1 : cu + mcj ≤ mc) (h2 : su + msj ≤ ms) : cu + mcj ≤ R.cells ∧ su + msj ≤ R.slots := by
  have hR := C.2.2.2.2.2.2.2.2.2.1
  exact ⟨Nat.le_trans h1 hR.2.2.1, Nat.le_trans h2 hR.2.2.2⟩
theorem c_cat {st : List Vv} (h : (st.map fun v => (trv g v).category).sum ≤ 8) : ((st.map (trv g)).map fun v => v.category).sum ≤ 8 := by
  rw [List.map_map]
  exact h
theorem c_fin (C : CX g M mc ms p R s m args meth c) (RT : ∀ (v : Option Vv) (n' cu' su' : Nat) (rp' : RPt) (hp' : HPt) (H' : Heap) (locs' : List Loc) (LS' : Array Slot) (pc' : Nat), P v n' rp' hp' → cu' ≤ mc → su' ≤ ms → HX g n' rp' hp' H' → va_S (Af g) s.heap H' locs' → RTt M v pc' →
      W p l e R s m args below meth c H' locs' cu' su' Q (F0 m pc' LS' (v.toList.map (trv g)))) (hl : lv_has LS (mL M) (cvL g L))
    (k : ∀ v n' rp' hp', PJ v n' rp' hp' → V g M mc ms (cu + mcj) (su + msj) n' (pc + 3) L (v.toList ++ st) rp' hp' P) : ∀ (v : Option Vv) (n' : Nat) (rp' : RPt) (hp' : HPt) (H1 : Heap) (locs1 : List Loc), PJ v n' rp' hp' → HX g n' rp' hp' H1 → va_S (Af g) s.heap H1 locs1 → W p l e R s m args below meth c H1 locs1 (cu + mcj) (su + msj) Q (F0 m (pc + 3) LS ((v.map (trv g)).toList ++ st.map (trv g))) := by
  intro v n' rp' hp' H1 locs1 hP hH1 hS1
  have h := k v n' rp' hp' hP p l e R s m args below meth c Q C RT H1 locs1 LS hH1 hS1 hl
  cases v <;> exact h
theorem c_stk {as : List Vv} {b : Vv} : (as.reverse ++ b :: st).map (trv g) = (as.map (trv g)).reverse ++ trv g b :: st.map (trv g) := by
  rw [List.map_append, List.map_reverse, List.map_cons]
theorem c_stkS {as : List Vv} : (as.reverse ++ st).map (trv g) = (as.map (trv g)).reverse ++ st.map (trv g) := by
  rw [List.map_append, List.map_reverse]
/-- invokevirtual, the method linked plainly -/
theorem r_callV {as : List Vv} {b : A4} {idx ci k : Nat} {q : vw_C} {S : List Vv} (hd : decode (mC M) pc = .ok (.invokevirtual idx, 3)) (co : CLo M J k) (w1 : Cond.methodLink (mK M) idx (mY J) ∈ lw_good) (w2 : Cond.instanceMethod (mY J) ∈ lw_good) (w3 : Cond.selects (mK J) (mY J) (mY J) ∈ lw_good) (hob : okd b.1 = some ci) (hc : vwCl[ci]? = some q) (hq : q.1 = mK J) (hS0 : S = as.reverse ++ vR b :: st) (hlv : lvp n b) (hk : as.length = k) (hcat : (st.map fun v => (trv g v).category).sum ≤ 8) (hb1 : cu + mcj ≤ mc) (hb2 : su + msj ≤ ms) (hwd : wdL (vR b :: as) ≤ mL J)
    (hJ : V g J mcj msj 0 0 n 0 (inL (vR b :: as) (mL J)) [] rp hp PJ) (kk : ∀ v n' rp' hp', PJ v n' rp' hp' → V g M mc ms (cu + mcj) (su + msj) n' (pc + 3) L (v.toList ++ st) rp' hp' P) : V g M mc ms cu su n pc L S rp hp P := by
  subst hS0
  intro p l e R s m args below meth c Q C RT H locs LS hH hS hl
  rw [c_stk]
  have hp0 := c_preV (as := as) C hH hS hob hc hlv
  rw [hq] at hp0
  exact w_call (va_runV (As := as.map (trv g)) (rest := st.map (trv g)) ⟨C.1, C.2.1, C.2.2.2.1, C.2.2.2.2.1, C.2.2.2.2.2.1⟩ (met_of l co.1 hwd hJ) (cwV k C.2.2.2.2.2.1 (fun w hw => by
      rcases List.mem_append.mp hw with h | h
      · have hm : w ∈ lw_good := by
          simp only [List.mem_cons, List.not_mem_nil, or_false] at h
          rcases h with rfl | rfl | rfl | rfl
          · exact w1
          · exact w2
          · exact w3
          · exact co.2.2.2.2.2.2
        exact ⟨hm, gd_ok hm⟩
      · exact c_good co.2.1 w h) rfl rfl rfl ⟨rfl, co.2.2.1.1, co.2.2.1.2, co.2.2.2.1⟩ (c_room C co)) hp0 rfl (by rw [List.length_map]; exact hk) (by rw [← C.2.2.2.1, C.2.2.2.1]; exact hl.1) rfl (lv_room (c_cat hcat)) hd (c_budget C hb1 hb2)) hS (c_fin C RT hl kk)
/-- invokevirtual of a nest mate's private method -/
theorem r_callVN {as : List Vv} {b : A4} {idx ci k : Nat} {host : String} {q : vw_C} {S : List Vv} (hd : decode (mC M) pc = .ok (.invokevirtual idx, 3)) (co : CLo M J k) (w1 : Cond.methodLinkNest (mK M) idx (mY J) host ∈ lw_nest) (w2 : Cond.instanceMethod (mY J) ∈ lw_good) (w3 : Cond.selects (mK J) (mY J) (mY J) ∈ lw_good) (hob : okd b.1 = some ci) (hc : vwCl[ci]? = some q) (hq : q.1 = mK J) (hS0 : S = as.reverse ++ vR b :: st) (hlv : lvp n b) (hk : as.length = k) (hcat : (st.map fun v => (trv g v).category).sum ≤ 8) (hb1 : cu + mcj ≤ mc) (hb2 : su + msj ≤ ms) (hwd : wdL (vR b :: as) ≤ mL J)
    (hJ : V g J mcj msj 0 0 n 0 (inL (vR b :: as) (mL J)) [] rp hp PJ) (kk : ∀ v n' rp' hp', PJ v n' rp' hp' → V g M mc ms (cu + mcj) (su + msj) n' (pc + 3) L (v.toList ++ st) rp' hp' P) : V g M mc ms cu su n pc L S rp hp P := by
  subst hS0
  intro p l e R s m args below meth c Q C RT H locs LS hH hS hl
  rw [c_stk]
  have hp0 := c_preV (as := as) C hH hS hob hc hlv
  rw [hq] at hp0
  exact w_call (va_runVN (As := as.map (trv g)) (rest := st.map (trv g)) ⟨C.1, C.2.1, C.2.2.2.1, C.2.2.2.2.1, C.2.2.2.2.2.1⟩ (met_of l co.1 hwd hJ) ⟨va_cnB k C.2.2.2.2.2.1 (c_good co.2.1) rfl rfl rfl (C.2.2.2.2.2.2.2.2.1.2.1 _ w1) (C.2.2.2.2.2.1 _ co.2.2.2.2.2.2) ⟨co.2.2.1.1, co.2.2.1.2, co.2.2.2.1⟩ (c_room C co), C.2.2.2.2.2.1 _ w2, C.2.2.2.2.2.1 _ w3⟩ hp0 rfl (by rw [List.length_map]; exact hk) hl.1 rfl (lv_room (c_cat hcat)) hd (c_budget C hb1 hb2)) hS (c_fin C RT hl kk)
/-- invokestatic -/
theorem r_callS {as : List Vv} {idx k : Nat} {S : List Vv} (hd : decode (mC M) pc = .ok (.invokestatic idx, 3)) (co : CLo M J k) (w1 : Cond.methodLink (mK M) idx (mY J) ∈ lw_good) (w2 : Cond.static (mY J) ∈ lw_good) (hS0 : S = as.reverse ++ st) (hk : as.length = k) (hcat : (st.map fun v => (trv g v).category).sum ≤ 8) (hb1 : cu + mcj ≤ mc) (hb2 : su + msj ≤ ms) (hwd : wdL as ≤ mL J)
    (hJ : V g J mcj msj 0 0 n 0 (inL as (mL J)) [] rp hp PJ) (kk : ∀ v n' rp' hp', PJ v n' rp' hp' → V g M mc ms (cu + mcj) (su + msj) n' (pc + 3) L (v.toList ++ st) rp' hp' P) : V g M mc ms cu su n pc L S rp hp P := by
  subst hS0
  intro p l e R s m args below meth c Q C RT H locs LS hH hS hl
  rw [c_stkS]
  exact w_call (va_runS (As := as.map (trv g)) (rest := st.map (trv g)) ⟨C.1, C.2.1, C.2.2.2.1, C.2.2.2.2.1, C.2.2.2.2.2.1⟩ (met_of l co.1 hwd hJ) (va_cwS k C.2.2.2.2.2.1 (fun w hw => by
      rcases List.mem_append.mp hw with h | h
      · have hm : w ∈ lw_good := by
          simp only [List.mem_cons, List.not_mem_nil, or_false] at h
          rcases h with rfl | rfl | rfl
          · exact w1
          · exact w2
          · exact co.2.2.2.2.2.2
        exact ⟨hm, gd_ok hm⟩
      · exact c_good co.2.1 w h) rfl rfl rfl ⟨co.2.2.1.1, co.2.2.1.2, co.2.2.2.1⟩ (c_room C co)) (c_preS C hH hS) rfl (by rw [List.length_map]; exact hk) hl.1 rfl (lv_room (c_cat hcat)) hd (c_budget C hb1 hb2)) hS (c_fin C RT hl kk)
/-- invokestatic of a nest mate's private method -/
theorem r_callSN {as : List Vv} {idx k : Nat} {host : String} {S : List Vv} (hd : decode (mC M) pc = .ok (.invokestatic idx, 3)) (co : CLo M J k) (w1 : Cond.methodLinkNest (mK M) idx (mY J) host ∈ lw_nest) (w2 : Cond.static (mY J) ∈ lw_good) (hS0 : S = as.reverse ++ st) (hk : as.length = k) (hcat : (st.map fun v => (trv g v).category).sum ≤ 8) (hb1 : cu + mcj ≤ mc) (hb2 : su + msj ≤ ms) (hwd : wdL as ≤ mL J)
    (hJ : V g J mcj msj 0 0 n 0 (inL as (mL J)) [] rp hp PJ) (kk : ∀ v n' rp' hp', PJ v n' rp' hp' → V g M mc ms (cu + mcj) (su + msj) n' (pc + 3) L (v.toList ++ st) rp' hp' P) : V g M mc ms cu su n pc L S rp hp P := by
  subst hS0
  intro p l e R s m args below meth c Q C RT H locs LS hH hS hl
  rw [c_stkS]
  exact w_call (va_runSN (As := as.map (trv g)) (rest := st.map (trv g)) ⟨C.1, C.2.1, C.2.2.2.1, C.2.2.2.2.1, C.2.2.2.2.2.1⟩ (met_of l co.1 hwd hJ) ⟨va_cnB k C.2.2.2.2.2.1 (c_good co.2.1) rfl rfl rfl (C.2.2.2.2.2.2.2.2.1.2.1 _ w1) (C.2.2.2.2.2.1 _ co.2.2.2.2.2.2) ⟨co.2.2.1.1, co.2.2.1.2, co.2.2.2.1⟩ (c_room C co), C.2.2.2.2.2.1 _ w2, trivial⟩ (c_preS C hH hS) rfl (by rw [List.length_map]; exact hk) hl.1 rfl (lv_room (c_cat hcat)) hd (c_budget C hb1 hb2)) hS (c_fin C RT hl kk)
/-- a constructor, linked plainly -/
theorem r_callI {as : List Vv} {b : A4} {idx k : Nat} {S : List Vv} (hd : decode (mC M) pc = .ok (.invokespecial idx, 3)) (co : CLo M J k) (w1 : Cond.methodLink (mK M) idx (mY J) ∈ lw_good) (w2 : Cond.instanceMethod (mY J) ∈ lw_good) (hi : (mY J).name = "<init>") (hret : mR J = none) (hS0 : S = as.reverse ++ vR b :: st) (hk : as.length = k) (hcat : (st.map fun v => (trv g v).category).sum ≤ 8) (hb1 : cu + mcj ≤ mc) (hb2 : su + msj ≤ ms) (hwd : wdL (vR b :: as) ≤ mL J)
    (hJ : V g J mcj msj 0 0 n 0 (inL (vR b :: as) (mL J)) [] rp hp PJ) (kk : ∀ v n' rp' hp', PJ v n' rp' hp' → V g M mc ms (cu + mcj) (su + msj) n' (pc + 3) L (v.toList ++ st) rp' hp' P) : V g M mc ms cu su n pc L S rp hp P := by
  subst hS0
  intro p l e R s m args below meth c Q C RT H locs LS hH hS hl
  rw [c_stk]
  exact w_call (va_runI (As := as.map (trv g)) (rest := st.map (trv g)) ⟨C.1, C.2.1, C.2.2.2.1, C.2.2.2.2.1, C.2.2.2.2.2.1⟩ (met_of l co.1 hwd hJ) (cwI (bytes := mC J) (maxL := mL J) k C.2.2.2.2.2.1 (c_good co.2.1) (ws' := lw_good) (show Cond.code (mY J) (mC J) (mL J) (mR J) :: lw_good = _ by rw [hret]) rfl rfl (C.2.2.2.2.2.1 _ co.2.2.2.2.2.2) (C.2.2.2.2.2.1 _ w1) (C.2.2.2.2.2.1 _ w2) hi ⟨co.2.2.1.1, co.2.2.1.2, co.2.2.2.1⟩ (c_room C co)) (c_preS (as := vR b :: as) C hH hS) rfl (by rw [List.length_map]; exact hk) hl.1 rfl (lv_room (c_cat hcat)) hd (c_budget C hb1 hb2)) hS (c_fin C RT hl kk)
/-- a nest mate's private constructor -/
theorem r_callIN {as : List Vv} {b : A4} {idx k : Nat} {host : String} {S : List Vv} (hd : decode (mC M) pc = .ok (.invokespecial idx, 3)) (co : CLo M J k) (w1 : Cond.methodLinkNest (mK M) idx (mY J) host ∈ lw_nest) (w2 : Cond.instanceMethod (mY J) ∈ lw_good) (hi : (mY J).name = "<init>") (hret : mR J = none) (hS0 : S = as.reverse ++ vR b :: st) (hk : as.length = k) (hcat : (st.map fun v => (trv g v).category).sum ≤ 8) (hb1 : cu + mcj ≤ mc) (hb2 : su + msj ≤ ms) (hwd : wdL (vR b :: as) ≤ mL J)
    (hJ : V g J mcj msj 0 0 n 0 (inL (vR b :: as) (mL J)) [] rp hp PJ) (kk : ∀ v n' rp' hp', PJ v n' rp' hp' → V g M mc ms (cu + mcj) (su + msj) n' (pc + 3) L (v.toList ++ st) rp' hp' P) : V g M mc ms cu su n pc L S rp hp P := by
  subst hS0
  intro p l e R s m args below meth c Q C RT H locs LS hH hS hl
  rw [c_stk]
  exact w_call (va_runIN (As := as.map (trv g)) (rest := st.map (trv g)) ⟨C.1, C.2.1, C.2.2.2.1, C.2.2.2.2.1, C.2.2.2.2.2.1⟩ (met_of l co.1 hwd hJ) ⟨va_cnB (bytes := mC J) (maxL := mL J) (ret := none) k C.2.2.2.2.2.1 (c_good co.2.1) (ws' := lw_good) (show Cond.code (mY J) (mC J) (mL J) (mR J) :: lw_good = _ by rw [hret]) rfl rfl (C.2.2.2.2.2.2.2.2.1.2.1 _ w1) (C.2.2.2.2.2.1 _ co.2.2.2.2.2.2) ⟨co.2.2.1.1, co.2.2.1.2, co.2.2.2.1⟩ (c_room C co), hi, C.2.2.2.2.2.1 _ w2⟩ (c_preS (as := vR b :: as) C hH hS) rfl (by rw [List.length_map]; exact hk) hl.1 rfl (lv_room (c_cat hcat)) hd (c_budget C hb1 hb2)) hS (c_fin C RT hl kk)
end RC
