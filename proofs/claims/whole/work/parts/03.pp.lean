/-! THE PURE MACHINE: frames and judgements -/
def LR (ad : Nat → Nat) (nL : Nat) (L : List pv) (ls : Array Slot) : Prop := L.length = nL ∧ ∃ l, lv_has ls nL l ∧ ∀ i v, L[i]? = some v → isv v = true → (i, toV ad v) ∈ l
theorem LR.at {ad : Nat → Nat} {nL : Nat} {L : List pv} {ls : Array Slot} (h : LR ad nL L ls) {i : Nat} {v : pv} (hi : L[i]? = some v) (hv : isv v = true) : ls[i]? = some (.val (toV ad v)) := by
  obtain ⟨-, l, h1, h2⟩ := h
  exact h1.2.2 _ (h2 i v hi hv)
theorem LR.size {ad : Nat → Nat} {nL : Nat} {L : List pv} {ls : Array Slot} (h : LR ad nL L ls) : ls.size = nL := by
  obtain ⟨-, l, h1, -⟩ := h
  exact h1.1
/-- no long ends in the place i -/
def nol (L : List pv) : Nat → Bool
  | 0 => true
  | i + 1 => match L[i]? with
    | some v => !isl v
    | none => true
theorem toV_cat {ad : Nat → Nat} {v : pv} (h : isl v = false) : (toV ad v).category = 1 := by
  match v with
  | .inl z => rfl
  | .inr (.inl z) => cases h
  | .inr (.inr (some c)) => rfl
  | .inr (.inr none) => rfl
theorem LR.store {ad : Nat → Nat} {nL : Nat} {L : List pv} {ls : Array Slot} (h : LR ad nL L ls) {i : Nat} {v : pv} (hv : isl v = false) (hi : i < L.length) (hn : nol L i = true) :
    ∃ l l', lv_has ls nL l ∧ i < nL ∧ (i, toV ad v) :: l.filter (fun q => !(q.1 == i) && !(q.1 + 1 == i && q.2.category == 2)) = l' ∧ ∀ ls', lv_has ls' nL l' → LR ad nL (L.set i v) ls' := by
  obtain ⟨h0, l, h1, h2⟩ := h
  refine ⟨l, _, h1, by omega, rfl, fun ls' h' => ⟨by simp [h0], _, h', fun j w hj hw => ?_⟩⟩
  by_cases e : j = i
  · subst e
    rw [List.getElem?_set_self hi] at hj
    cases hj
    exact List.mem_cons_self
  · rw [List.getElem?_set_ne (Ne.symm e)] at hj
    refine List.mem_cons_of_mem _ (List.mem_filter.mpr ⟨h2 j w hj hw, ?_⟩)
    have e1 : (j == i) = false := by simp [e]
    by_cases e2 : j + 1 = i
    · subst e2
      simp only [nol, hj] at hn
      have hc : (toV ad w).category = 1 := toV_cat (by simpa using hn)
      simp [hc]
    · simp [e, e2]
theorem LR.storeL {ad : Nat → Nat} {nL : Nat} {L : List pv} {ls : Array Slot} (h : LR ad nL L ls) {i : Nat} {z : Int} (hi : i + 1 < L.length) (hn : nol L i = true) :
    ∃ l l', lv_has ls nL l ∧ i + 1 < nL ∧ (i, Value.long (Int64.ofInt z)) :: l.filter (fun q => !(q.1 == i) && (!(q.1 == i + 1) && !(q.1 + 1 == i && q.2.category == 2))) = l' ∧ ∀ ls', lv_has ls' nL l' → LR ad nL ((L.set i (vL z)).set (i + 1) vN) ls' := by
  obtain ⟨h0, l, h1, h2⟩ := h
  refine ⟨l, _, h1, by omega, rfl, fun ls' h' => ⟨by simp [h0], _, h', fun j w hj hw => ?_⟩⟩
  by_cases e3 : j = i + 1
  · subst e3
    rw [List.getElem?_set_self (by simp; exact hi)] at hj
    cases hj
    cases hw
  · rw [List.getElem?_set_ne (Ne.symm e3)] at hj
    by_cases e : j = i
    · subst e
      rw [List.getElem?_set_self (by omega)] at hj
      cases hj
      exact List.mem_cons_self
    · rw [List.getElem?_set_ne (Ne.symm e)] at hj
      refine List.mem_cons_of_mem _ (List.mem_filter.mpr ⟨h2 j w hj hw, ?_⟩)
      by_cases e2 : j + 1 = i
      · subst e2
        simp only [nol, hj] at hn
        have hc : (toV ad w).category = 1 := toV_cat (by simpa using hn)
        simp [hc, e3]
      · simp [e, e2, e3]
def ent0 : List pv → List pv
  | [] => []
  | .inr (.inl z) :: vs => vL z :: vN :: ent0 vs
  | v :: vs => v :: ent0 vs
theorem ent0_args (ad : Nat → Nat) : ∀ (vs : List pv) (k i : Nat) (v : pv), (ent0 vs)[i]? = some v → isv v = true → (k + i, toV ad v) ∈ lv_args k (vs.map (toV ad))
  | [], k, i, v, h, _ => by simp [ent0] at h
  | .inr (.inl z) :: vs, k, i, v, h, hv => by
    simp only [ent0] at h
    simp only [List.map_cons, lv_args]
    match i with
    | 0 => simp at h; subst h; simp [toV]
    | 1 => simp at h; subst h; cases hv
    | i + 2 =>
      simp only [List.getElem?_cons_succ] at h
      have := ent0_args ad vs (k + 2) i v h hv
      refine List.mem_cons_of_mem _ ?_
      rw [if_pos (by rfl)]
      rw [show k + (i + 2) = k + 2 + i by omega]
      exact this
  | .inl z :: vs, k, i, v, h, hv => by
    simp only [ent0] at h
    simp only [List.map_cons, lv_args]
    match i with
    | 0 => simp at h; subst h; simp [toV]
    | i + 1 =>
      simp only [List.getElem?_cons_succ] at h
      have := ent0_args ad vs (k + 1) i v h hv
      refine List.mem_cons_of_mem _ ?_
      rw [if_neg (by simp [toV, Value.category])]
      rw [show k + (i + 1) = k + 1 + i by omega]
      exact this
  | .inr (.inr o) :: vs, k, i, v, h, hv => by
    simp only [ent0] at h
    simp only [List.map_cons, lv_args]
    match i with
    | 0 => simp at h; subst h; simp
    | i + 1 =>
      simp only [List.getElem?_cons_succ] at h
      have := ent0_args ad vs (k + 1) i v h hv
      refine List.mem_cons_of_mem _ ?_
      rw [if_neg (by cases o <;> simp [toV, Value.category])]
      rw [show k + (i + 1) = k + 1 + i by omega]
      exact this
theorem ent0_len (ad : Nat → Nat) : ∀ (vs : List pv), (lg_sl (vs.map (toV ad))).length = (ent0 vs).length
  | [] => rfl
  | .inr (.inl z) :: vs => by
    have := ent0_len ad vs
    simp only [lg_sl, List.map_cons, List.flatMap_cons, ent0, List.length_append, List.length_cons] at this ⊢
    rw [if_pos (by rfl), this]; simp; omega
  | .inl z :: vs => by
    have := ent0_len ad vs
    simp only [lg_sl, List.map_cons, List.flatMap_cons, ent0, List.length_append, List.length_cons] at this ⊢
    rw [if_neg (by simp [toV, Value.category]), this]; simp; omega
  | .inr (.inr o) :: vs => by
    have := ent0_len ad vs
    simp only [lg_sl, List.map_cons, List.flatMap_cons, ent0, List.length_append, List.length_cons] at this ⊢
    rw [if_neg (by cases o <;> simp [toV, Value.category]), this]; simp; omega
def L0 (vs : List pv) (nL : Nat) : List pv := ent0 vs ++ List.replicate (nL - (ent0 vs).length) vN
theorem LR.entry (ad : Nat → Nat) (vs : List pv) {nL : Nat} (h : (ent0 vs).length ≤ nL) : LR ad nL (L0 vs nL) ((lg_sl (vs.map (toV ad)) ++ List.replicate (nL - (lg_sl (vs.map (toV ad))).length) Slot.unset).toArray) := by
  refine ⟨by simp [L0]; omega, lv_args 0 (vs.map (toV ad)), lv_entry _ (by rw [ent0_len]; exact h), fun i v hi hv => ?_⟩
  unfold L0 at hi
  by_cases hl : i < (ent0 vs).length
  · rw [List.getElem?_append_left hl] at hi
    have := ent0_args ad vs 0 i v hi hv
    rwa [Nat.zero_add] at this
  · rw [List.getElem?_append_right (by omega)] at hi
    have := List.eq_of_mem_replicate (List.mem_of_getElem? hi)
    subst this
    cases hv
def nwl : List Cond := [.methodLinkNest RX3 117 yX5_isBit RX5, .methodLinkNest RX3 133 yX5_isHour RX5]
def NWs (U : State) : Prop := ∀ w ∈ nwl, va_Nw w U
theorem NWs.warm {s U : State} (hW : s.WarmedH U.vm) (h : NWs s) : NWs U := by
  intro w hw
  have h1 := h w hw
  simp only [nwl, List.mem_cons, List.mem_nil_iff, or_false] at hw
  rcases hw with rfl | rfl
  · exact h1.warmM hW
  · exact h1.warmM hW
theorem NWs.same {u U : State} (e : u.vm = U.vm) (h : NWs u) : NWs U := by
  intro w hw
  have h1 := h w hw
  simp only [nwl, List.mem_cons, List.mem_nil_iff, or_false] at hw
  rcases hw with rfl | rfl
  · exact h1.same rfl e
  · exact h1.same rfl e
def clsT : List vw_C := [(RX0, TX0, 9), (RX1, TX1, 10), (RX2, TX2, 6), (RX3, TX3, 5), (RX4, TX4, 3), (RX5, TX5, 11), (RX6, TX6, 20)]
def rmd (d : Nat) : Room := { frames := d, cells := 0, slots := 0, locals := 64 * d }
def Cx (SH : List shp) (M : mth) (p : Program) (s : State) (m : MethodId) (args : Array Value) (meth : Method) (c : Code) (D : va_G) (ad : Nat → Nat) (cA : ClassId) : Prop :=
  p.tables.exec = Jvm.exec ∧ c.code = M.2.1 ∧ meth.sig.returnType = M.2.2.2 ∧ c.maxLocals = M.2.2.1 ∧ s.vm.findClass M.1.cls = some m.cls ∧ (∀ w ∈ wsw M, w.before args s = true) ∧ meth.locks = false ∧ va_K D clsT [(cA, .int)] s ∧ Inj SH ad ∧ NWs s
def QQ (SH : List shp) (D : va_G) (ad : Nat → Nat) (cA : ClassId) (Q : Option pv → Sg → Prop) : Array Value → State → Outcome → State → Prop := fun _ st o t =>
  ∃ (r : Option pv) (σ' : Sg), o = .returned (r.map (toV ad)) ∧ Q r σ' ∧ RG σ' ∧ va_P D clsT (wsO SH ad cA σ') t.heap ∧ va_K D clsT [(cA, .int)] t ∧ NWs t ∧ va_F (AS SH ad) st t
def PP (SH : List shp) (M : mth) (d pc : Nat) (L st : List pv) (σ : Sg) (Q : Option pv → Sg → Prop) : Prop :=
  ∀ (p : Program) (l : Launch) (e : Env) (s : State) (m : MethodId) (args : Array Value) (below : List Frame) (meth : Method) (c : Code) (D : va_G) (ad : Nat → Nat) (cA : ClassId) (H : Heap) (locs : List Loc) (ls : Array Slot),
    Cx SH M p s m args meth c D ad cA → va_P D clsT (wsO SH ad cA σ) H → va_S (AS SH ad) s.heap H locs → RG σ → LR ad M.2.2.1 L ls →
    W p l e (rmd d) s m args below meth c H locs 0 0 (MQ below (QQ SH D ad cA Q) args s 0 0 (AS SH ad)) (F0 m pc ls (st.map (toV ad)))
def OK (SH : List shp) (M : mth) (d : Nat) (vs : List pv) (σ : Sg) (Q : Option pv → Sg → Prop) : Prop :=
  ∀ (l : Launch) (D : va_G) (ad : Nat → Nat) (cA : ClassId), Inj SH ad → RG σ →
    Met l M.1 (wsw M) (rmd d) (va_Pc (vs.map (toV ad)) (fun U => va_P D clsT (wsO SH ad cA σ) U.heap ∧ va_K D clsT [(cA, .int)] U ∧ NWs U)) (QQ SH D ad cA Q) 0 0 (AS SH ad)
section PPR
variable {SH : List shp} {M : mth} {d pc : Nat} {L st : List pv} {σ : Sg} {Q : Option pv → Sg → Prop}
theorem PP.rg (k : RG σ → PP SH M d pc L st σ Q) : PP SH M d pc L st σ Q := by
  intro p l e s m args below meth c D ad cA H locs ls X hP hS hR hL
  exact k hR p l e s m args below meth c D ad cA H locs ls X hP hS hR hL
theorem OK.enter {vs : List pv} (hpl : plainName M.1.cls = true) (hlen : (ent0 vs).length ≤ M.2.2.1) {L' : List pv} (hL' : L0 vs M.2.2.1 = L') (k : PP SH M d 0 L' [] σ Q) : OK SH M d vs σ Q := by
  subst hL'
  intro l D ad cA hI hR
  refine Met.ofW (cc := M.2.1) (maxL := M.2.2.1) (ret := M.2.2.2) hpl rfl ?_
  intro p e s m args below meth c s₁ B hml hv
  obtain ⟨rfl, hP, hK, hN⟩ := hv
  have X : Cx SH M p s m (List.map (toV ad) vs).toArray meth c D ad cA := ⟨B.exec, B.bytes, B.returns, hml, findClass_of_methodNamed B.named, atoms_spec (ws := wsw M) B.pre, B.notSynchronized, hK, hI, hN⟩
  rw [lg_entry_eq]
  exact k p l e s m _ below meth c D ad cA s.heap [] _ X hP va_S.rf hR (LR.entry ad vs hlen)
end PPR
