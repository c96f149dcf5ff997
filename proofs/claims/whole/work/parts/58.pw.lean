/-! PW: the machine over any room, for constructors and the law -/
def CG (own : String) (cc : ByteArray) (nL : Nat) (p : Program) (s : State) (m : MethodId) (args : Array Value) (c : Code) : Prop :=
  p.tables.exec = Jvm.exec ∧ c.code = cc ∧ c.maxLocals = nL ∧ s.vm.findClass own = some m.cls ∧ (∀ w ∈ BW, w.before args s = true)
def PW (p : Program) (l : Launch) (e : Env) (R : Room) (s : State) (m : MethodId) (args : Array Value) (below : List Frame) (meth : Method) (c : Code) (ad : Nat → Nat) (A : Nat → Prop) (Qf : State → Prop) (nL : Nat) (I : Heap → Prop) (n t pc : Nat) (L st : List pv) : Prop :=
  ∀ (H : Heap) (locs : List Loc) (ls : Array Slot), I H → va_S A s.heap H locs → LR ad nL L ls → W p l e R s m args below meth c H locs n t Qf (F0 m pc ls (st.map (toV ad)))
section PWR
variable {p : Program} {l : Launch} {e : Env} {R : Room} {s : State} {m : MethodId} {args : Array Value} {below : List Frame} {meth : Method} {c : Code} {ad : Nat → Nat} {A : Nat → Prop} {Qf : State → Prop} {nL : Nat} {I : Heap → Prop} {n t pc : Nat} {L st : List pv} {own : String} {cc : ByteArray}

theorem PW.iconst (X : CG own cc nL p s m args c) {z : Int} (hd : decode cc pc = .ok (.iconst z, 1)) (k : PW p l e R s m args below meth c ad A Qf nL I n t (pc + 1) L (vI z :: st)) : PW p l e R s m args below meth c ad A Qf nL I n t pc L st := by
  intro H locs ls hI hS hL
  obtain ⟨hx, hb, hml, hown, hts⟩ := X
  exact lv_iconst hx hb hd rfl (k H locs ls hI hS hL)

theorem PW.bipush (X : CG own cc nL p s m args c) {z : Int} (hd : decode cc pc = .ok (.bipush z, 2)) (hn : (Int8.ofInt z).toInt32 = Int32.ofInt z) (k : PW p l e R s m args below meth c ad A Qf nL I n t (pc + 2) L (vI z :: st)) : PW p l e R s m args below meth c ad A Qf nL I n t pc L st := by
  intro H locs ls hI hS hL
  obtain ⟨hx, hb, hml, hown, hts⟩ := X
  exact lv_bipush hx hb hd hn (k H locs ls hI hS hL)

theorem PW.sipush (X : CG own cc nL p s m args c) {z : Int} (hd : decode cc pc = .ok (.sipush z, 3)) (hn : (Int16.ofInt z).toInt32 = Int32.ofInt z) (k : PW p l e R s m args below meth c ad A Qf nL I n t (pc + 3) L (vI z :: st)) : PW p l e R s m args below meth c ad A Qf nL I n t pc L st := by
  intro H locs ls hI hS hL
  obtain ⟨hx, hb, hml, hown, hts⟩ := X
  exact lv_sipush hx hb hd hn (k H locs ls hI hS hL)

theorem PW.iload_n (X : CG own cc nL p s m args c) {j : Fin 4} {x : Int} (hd : decode cc pc = .ok (.iload_n j, 1)) (hl : L[j.val]? = some (vI x)) (k : PW p l e R s m args below meth c ad A Qf nL I n t (pc + 1) L (vI x :: st)) : PW p l e R s m args below meth c ad A Qf nL I n t pc L st := by
  intro H locs ls hI hS hL
  obtain ⟨hx, hb, hml, hown, hts⟩ := X
  exact lv_iload_n hx hb hd rfl (hL.at hl rfl) (k H locs ls hI hS hL)

theorem PW.aload_n (X : CG own cc nL p s m args c) {j : Fin 4} {x : Nat} (hd : decode cc pc = .ok (.aload_n j, 1)) (hl : L[j.val]? = some (vR x)) (k : PW p l e R s m args below meth c ad A Qf nL I n t (pc + 1) L (vR x :: st)) : PW p l e R s m args below meth c ad A Qf nL I n t pc L st := by
  intro H locs ls hI hS hL
  obtain ⟨hx, hb, hml, hown, hts⟩ := X
  exact lv_aload_n hx hb hd rfl (hL.at hl rfl) (k H locs ls hI hS hL)

theorem PW.istore_n (X : CG own cc nL p s m args c) {j : Fin 4} {x : Int} {L' : List pv} (hd : decode cc pc = .ok (.istore_n j, 1)) (hi : j.val < L.length) (hn : nol L j.val = true) (hl : L.set j.val (vI x) = L') (k : PW p l e R s m args below meth c ad A Qf nL I n t (pc + 1) L' st) : PW p l e R s m args below meth c ad A Qf nL I n t pc L (vI x :: st) := by
  subst hl
  intro H locs ls hI hS hL
  obtain ⟨hx, hb, hml, hown, hts⟩ := X
  obtain ⟨lv, lv', a1, a2, a3, a4⟩ := hL.store (v := vI x) rfl hi hn
  exact lv_istore_n hx hb hd rfl a1 a2 a3 (fun ls' h' => k H locs ls' hI hS (a4 ls' h'))

theorem PW.astore_n (X : CG own cc nL p s m args c) {j : Fin 4} {x : Nat} {L' : List pv} (hd : decode cc pc = .ok (.astore_n j, 1)) (hi : j.val < L.length) (hn : nol L j.val = true) (hl : L.set j.val (vR x) = L') (k : PW p l e R s m args below meth c ad A Qf nL I n t (pc + 1) L' st) : PW p l e R s m args below meth c ad A Qf nL I n t pc L (vR x :: st) := by
  subst hl
  intro H locs ls hI hS hL
  obtain ⟨hx, hb, hml, hown, hts⟩ := X
  obtain ⟨lv, lv', a1, a2, a3, a4⟩ := hL.store (v := vR x) rfl hi hn
  exact lv_astore_n hx hb hd rfl a1 a2 a3 (fun ls' h' => k H locs ls' hI hS (a4 ls' h'))

theorem PW.iinc (X : CG own cc nL p s m args c) {j : Nat} {z x : Int} {L' : List pv} (hd : decode cc pc = .ok (.iinc j z, 3)) (h0 : L[j]? = some (vI x)) (hn : nol L j = true) (hl : L.set j (vI (x + z)) = L') (k : PW p l e R s m args below meth c ad A Qf nL I n t (pc + 3) L' st) : PW p l e R s m args below meth c ad A Qf nL I n t pc L st := by
  subst hl
  intro H locs ls hI hS hL
  obtain ⟨hx, hb, hml, hown, hts⟩ := X
  obtain ⟨lv, lv', a1, a2, a3, a4⟩ := hL.store (v := vI (x + z)) rfl (List.getElem?_eq_some_iff.mp h0).1 hn
  have hg := hL.at h0 rfl
  obtain ⟨ls', e', h'⟩ := lv_store1 (v := .int (Int32.ofInt x + Int32.ofInt z)) a1 a2 rfl
  have hk2 := k H locs ls' hI hS (a4 ls' (by rw [← a3]; show lv_has ls' _ ((j, Value.int (Int32.ofInt (x + z))) :: _); rw [Int32.ofInt_add]; exact h'))
  intro T hT Y
  obtain ⟨t, b1, b2⟩ := hk2 T hT Y
  refine ⟨t, ?_, b2⟩
  have hg2 : ls[j]? = some (.val (.int (Int32.ofInt x))) := hg
  jvm_step Y.here [Y.here.top, ↓top_set Y.here.top, hx, hb, hd, hg2, e']
  exact b1

theorem PW.iadd (X : CG own cc nL p s m args c) {x y : Int} (hd : decode cc pc = .ok (.iadd, 1)) (k : PW p l e R s m args below meth c ad A Qf nL I n t (pc + 1) L (vI (x + y) :: st)) : PW p l e R s m args below meth c ad A Qf nL I n t pc L (vI y :: vI x :: st) := by
  intro H locs ls hI hS hL
  obtain ⟨hx, hb, hml, hown, hts⟩ := X
  refine lv_iadd hx hb hd ?_
  rw [← Int32.ofInt_add]
  exact (k H locs ls hI hS hL)

theorem PW.isub (X : CG own cc nL p s m args c) {x y : Int} (hd : decode cc pc = .ok (.isub, 1)) (k : PW p l e R s m args below meth c ad A Qf nL I n t (pc + 1) L (vI (x - y) :: st)) : PW p l e R s m args below meth c ad A Qf nL I n t pc L (vI y :: vI x :: st) := by
  intro H locs ls hI hS hL
  obtain ⟨hx, hb, hml, hown, hts⟩ := X
  refine lv_isub hx hb hd ?_
  rw [← Int32.ofInt_sub]
  exact (k H locs ls hI hS hL)

theorem PW.imul (X : CG own cc nL p s m args c) {x y : Int} (hd : decode cc pc = .ok (.imul, 1)) (k : PW p l e R s m args below meth c ad A Qf nL I n t (pc + 1) L (vI (x * y) :: st)) : PW p l e R s m args below meth c ad A Qf nL I n t pc L (vI y :: vI x :: st) := by
  intro H locs ls hI hS hL
  obtain ⟨hx, hb, hml, hown, hts⟩ := X
  refine lv_imul hx hb hd ?_
  rw [← Int32.ofInt_mul]
  exact (k H locs ls hI hS hL)

theorem PW.iandR (X : CG own cc nL p s m args c) {x y z : Int} (hz : Int32.ofInt x &&& Int32.ofInt y = Int32.ofInt z) (hd : decode cc pc = .ok (.iand, 1)) (k : PW p l e R s m args below meth c ad A Qf nL I n t (pc + 1) L (vI z :: st)) : PW p l e R s m args below meth c ad A Qf nL I n t pc L (vI y :: vI x :: st) := by
  intro H locs ls hI hS hL
  obtain ⟨hx, hb, hml, hown, hts⟩ := X
  exact lv_iand hx hb hd (by rw [hz]; exact (k H locs ls hI hS hL))

theorem PW.goto (X : CG own cc nL p s m args c) {off : Int} {tgt : Nat} (hd : decode cc pc = .ok (.goto off, 3)) (ht : (pc : Int) + off = (tgt : Int)) (k : PW p l e R s m args below meth c ad A Qf nL I n t tgt L st) : PW p l e R s m args below meth c ad A Qf nL I n t pc L st := by
  intro H locs ls hI hS hL
  obtain ⟨hx, hb, hml, hown, hts⟩ := X
  exact lv_goto hx hb hd ht (k H locs ls hI hS hL)

theorem PW.dup (X : CG own cc nL p s m args c) {v : pv} (hv : isl v = false) (hd : decode cc pc = .ok (.dup, 1)) (k : PW p l e R s m args below meth c ad A Qf nL I n t (pc + 1) L (v :: v :: st)) : PW p l e R s m args below meth c ad A Qf nL I n t pc L (v :: st) := by
  intro H locs ls hI hS hL
  obtain ⟨hx, hb, hml, hown, hts⟩ := X
  exact lv_dup hx hb hd (toV_cat hv) (k H locs ls hI hS hL)

theorem PW.pop (X : CG own cc nL p s m args c) {v : pv} (hv : isl v = false) (hd : decode cc pc = .ok (.pop, 1)) (k : PW p l e R s m args below meth c ad A Qf nL I n t (pc + 1) L st) : PW p l e R s m args below meth c ad A Qf nL I n t pc L (v :: st) := by
  intro H locs ls hI hS hL
  obtain ⟨hx, hb, hml, hown, hts⟩ := X
  exact lv_pop hx hb hd (toV_cat hv) (k H locs ls hI hS hL)

theorem PW.icmp_eq (X : CG own cc nL p s m args c) {x y : Int} {off : Int} {tgt : Nat} (hx0 : R32 x) (hy0 : R32 y) (hd : decode cc pc = .ok (.if_icmp .eq off, 3)) (ht : (pc : Int) + off = (tgt : Int)) (k1 : x = y → PW p l e R s m args below meth c ad A Qf nL I n t tgt L st) (k2 : ¬ x = y → PW p l e R s m args below meth c ad A Qf nL I n t (pc + 3) L st) : PW p l e R s m args below meth c ad A Qf nL I n t pc L (vI y :: vI x :: st) := by
  intro H locs ls hI hS hL
  obtain ⟨hx, hb, hml, hown, hts⟩ := X
  refine lv_icmp_eq hx hb hd ht (fun h => ?_) (fun h => ?_)
  · exact k1 ((i32eq hx0 hy0).mp h) H locs ls hI hS hL
  · exact k2 (fun q => h ((i32eq hx0 hy0).mpr q)) H locs ls hI hS hL

theorem PW.icmp_ge (X : CG own cc nL p s m args c) {x y : Int} {off : Int} {tgt : Nat} (hx0 : R32 x) (hy0 : R32 y) (hd : decode cc pc = .ok (.if_icmp .ge off, 3)) (ht : (pc : Int) + off = (tgt : Int)) (k1 : y ≤ x → PW p l e R s m args below meth c ad A Qf nL I n t tgt L st) (k2 : x < y → PW p l e R s m args below meth c ad A Qf nL I n t (pc + 3) L st) : PW p l e R s m args below meth c ad A Qf nL I n t pc L (vI y :: vI x :: st) := by
  intro H locs ls hI hS hL
  obtain ⟨hx, hb, hml, hown, hts⟩ := X
  refine lv_icmp_ge hx hb hd ht (fun h => ?_) (fun h => ?_)
  · exact k1 ((i32le hy0 hx0).mp h) H locs ls hI hS hL
  · exact k2 (by have := mt (i32le hy0 hx0).mpr h; omega) H locs ls hI hS hL

theorem PW.icmp_gt (X : CG own cc nL p s m args c) {x y : Int} {off : Int} {tgt : Nat} (hx0 : R32 x) (hy0 : R32 y) (hd : decode cc pc = .ok (.if_icmp .gt off, 3)) (ht : (pc : Int) + off = (tgt : Int)) (k1 : y < x → PW p l e R s m args below meth c ad A Qf nL I n t tgt L st) (k2 : x ≤ y → PW p l e R s m args below meth c ad A Qf nL I n t (pc + 3) L st) : PW p l e R s m args below meth c ad A Qf nL I n t pc L (vI y :: vI x :: st) := by
  intro H locs ls hI hS hL
  obtain ⟨hx, hb, hml, hown, hts⟩ := X
  refine lv_icmp_gt hx hb hd ht (fun h => ?_) (fun h => ?_)
  · exact k1 ((i32lt hy0 hx0).mp h) H locs ls hI hS hL
  · exact k2 (by have := mt (i32lt hy0 hx0).mpr h; omega) H locs ls hI hS hL

theorem PW.to {ad' : Nat → Nat} {I' : Heap → Prop} (hI' : ∀ H, I H → I' H) (hL' : L.map (toV ad) = L.map (toV ad')) (hs' : st.map (toV ad) = st.map (toV ad')) (k : PW p l e R s m args below meth c ad' A Qf nL I' n t pc L st) : PW p l e R s m args below meth c ad A Qf nL I n t pc L st := by
  intro H locs ls hI hS hL
  have hL2 : LR ad' nL L ls := by
    obtain ⟨h0, lv, h1, h2⟩ := hL
    refine ⟨h0, lv, h1, fun i v hi hv => ?_⟩
    have e1 : toV ad v = toV ad' v := by
      have a1 : (L.map (toV ad))[i]? = some (toV ad v) := by rw [List.getElem?_map, hi]; rfl
      rw [hL', List.getElem?_map, hi] at a1
      exact (Option.some.inj a1).symm
    rw [← e1]
    exact h2 i v hi hv
  rw [hs']
  exact k H locs ls (hI' H hI) hS hL2
theorem PW.objI (X : CG own cc nL p s m args c) {idx x : Nat} (hd : decode cc pc = .ok (.invokespecial idx, 3)) (hw : Cond.methodLink own idx Lib.objectInit ∈ BW) (hw2 : Cond.instanceMethod Lib.objectInit ∈ BW) (hw3 : Cond.code Lib.objectInit ⟨#[0xb1]⟩ 1 none ∈ BW) (hst : st.length ≤ 4) (hf : 1 ≤ R.frames) (hlo : 64 ≤ R.locals) (k : PW p l e R s m args below meth c ad A Qf nL I n t (pc + 3) L st) : PW p l e R s m args below meth c ad A Qf nL I n t pc L (vR x :: st) := by
  intro H locs ls hI hS hL
  obtain ⟨hx, hb, hml, hown, hts⟩ := X
  refine W.objInit hx hb hown (hts _ hw) (hts _ hw2) (hts _ hw3) rfl (by rw [hml]; exact hL.size) rfl hd hf (by show 2 * 0 + _ + 12 ≤ _; have := cat_sum ad st; omega) ?_
  exact k H locs ls hI hS hL
end PWR
/-! worlds that grow: the cells at z, z+1, .. in the order in which they are made; arrays hold zeros -/
abbrev ce : Type := (Nat × List pv) ⊕ Nat
def zd (z : Nat) : Nat → Nat := fun c => z + c
def AZ (z : Nat) : Nat → Prop := fun q => z ≤ q
def eE (z : Nat) (cA : ClassId) : ce → va_E
  | .inl (ci, fs) => .inr (ci, fs.map (toV (zd z)))
  | .inr n => .inl (cA, n, .inl fun _ => 0)
def wsE (K : List ce) (z : Nat) (cA : ClassId) : va_W := K.mapIdx fun c h => (z + c, eE z cA h)
def IE (D : va_G) (cA : ClassId) (z : Nat) (K : List ce) (H : Heap) : Prop := va_P D clsT (wsE K z cA) H ∧ H.size = z + K.length
theorem wsE_get {K : List ce} {z : Nat} {cA : ClassId} {c : Nat} {h : ce} (hc : K[c]? = some h) : (wsE K z cA)[c]? = some (z + c, eE z cA h) := by
  simp [wsE, List.getElem?_mapIdx, hc]
theorem wsE_inv {K : List ce} {z : Nat} {cA : ClassId} {c : Nat} {q : Nat × va_E} (hc : (wsE K z cA)[c]? = some q) : q.1 = z + c := by
  simp only [wsE, List.getElem?_mapIdx] at hc
  cases h : K[c]? with
  | none => rw [h] at hc; cases hc
  | some x => rw [h] at hc; cases hc; rfl
theorem wsE_D (K : List ce) (z : Nat) (cA : ClassId) : va_D (AZ z) (wsE K z cA) := by
  refine ⟨fun i j p q hp hq e => ?_, fun k q hq => ?_⟩
  · have h1 := wsE_inv hp
    have h2 := wsE_inv hq
    omega
  · have h1 := wsE_inv hq
    show z ≤ q.1
    omega
theorem wsE_push (K : List ce) (z : Nat) (cA : ClassId) (h : ce) : wsE (K ++ [h]) z cA = wsE K z cA ++ [(z + K.length, eE z cA h)] := by
  simp [wsE, List.mapIdx_append]
theorem wsE_set {K : List ce} {z : Nat} {cA : ClassId} {c : Nat} {h : ce} : (wsE K z cA).set c (z + c, eE z cA h) = wsE (K.set c h) z cA := by
  apply List.ext_getElem?
  intro i
  by_cases hi : i = c
  · subst hi
    simp only [wsE, List.getElem?_set, List.getElem?_mapIdx, List.length_mapIdx]
    by_cases hl : i < K.length
    · simp [hl]
    · simp [hl]
  · simp only [wsE, List.getElem?_set_ne (Ne.symm hi), List.getElem?_mapIdx]
