/-! PW over worlds that grow -/
def nw2 : List Cond := nwl ++ [.methodLinkNest RX5 15 yX3_init RX5, .methodLinkNest RX3 11 yX0_init RX5, .methodLinkNest RX5 22 yX0_init RX5]
def NW2 (U : State) : Prop := ∀ w ∈ nw2, va_Nw w U
theorem NW2.warm {s U : State} (hW : s.WarmedH U.vm) (h : NW2 s) : NW2 U := by
  intro w hw
  have h1 := h w hw
  simp only [nw2, nwl, List.cons_append, List.nil_append, List.mem_cons, List.mem_nil_iff, or_false] at hw
  rcases hw with rfl | rfl | rfl | rfl | rfl <;> exact h1.warmM hW
theorem NW2.same {u U : State} (e : u.vm = U.vm) (h : NW2 u) : NW2 U := by
  intro w hw
  have h1 := h w hw
  simp only [nw2, nwl, List.cons_append, List.nil_append, List.mem_cons, List.mem_nil_iff, or_false] at hw
  rcases hw with rfl | rfl | rfl | rfl | rfl <;> exact h1.same rfl e
theorem NW2.nws {U : State} (h : NW2 U) : NWs U := fun w hw => h w (List.mem_append_left _ hw)
def rme (d mc ms : Nat) : Room := { frames := d, cells := mc, slots := ms, locals := 64 * d }
def FPF (own : String) (idx ci j : Nat) (ty : FieldType) : Prop := ∃ q : vw_C, clsT[ci]? = some q ∧ j < q.2.2 ∧ Cond.fieldLink own idx (q.2.1 j).1 (q.2.1 j).2.1 (q.2.1 j).2.2.1 ∈ BW ∧ (q.2.1 j).2.2.2 = true ∧ (q.2.1 j).1 = own ∧ parseFieldDescriptor (q.2.1 j).2.2.1 = some ty
def KL (own : String) (idx ci N : Nat) : Prop := ∃ q : vw_C, clsT[ci]? = some q ∧ q.2.2 = N ∧ Cond.classLink own idx q.1 ∈ BW ∧ Cond.instantiable q.1 N ∈ BW ∧ Cond.initialized q.1 ∈ BW
def dfl : Nat → List pv
  | 0 => [vI 0, vI 0, vI 0, vI 0, vN, vN, vN, vN, vN]
  | 1 => [vN, vN, vN, vI 0, vN, vI 0, vI 0, vI 0, vI 0, vI 0]
  | 2 => [vN, vN, vN, vN, vI 0, vI 0]
  | 3 => [vN, vN, vN, vI 0, vI 0]
  | 4 => [vI 0, vN, vI 0]
  | 5 => [vN, vI 0, vN, vN, vN, vN, vN, vN, vN, vI 0, vI 0]
  | _ => [vI 0, vN, vN, vN, vI 0, vN, vN, vN, vI 0, vN, vI 0, vN, vI 0, vN, vN, vN, vN, vN, vN, vI 0]

theorem dfl_ok0 (z : Nat) : ∀ j, j < 9 → defaultValue (tyT 0 j) = vp_V ((dfl 0).map (toV (zd z))) j
  | 0, _ => rfl
  | 1, _ => rfl
  | 2, _ => rfl
  | 3, _ => rfl
  | 4, _ => rfl
  | 5, _ => rfl
  | 6, _ => rfl
  | 7, _ => rfl
  | 8, _ => rfl
  | n + 9, h => absurd h (by omega)
theorem dfl_ok1 (z : Nat) : ∀ j, j < 10 → defaultValue (tyT 1 j) = vp_V ((dfl 1).map (toV (zd z))) j
  | 0, _ => rfl
  | 1, _ => rfl
  | 2, _ => rfl
  | 3, _ => rfl
  | 4, _ => rfl
  | 5, _ => rfl
  | 6, _ => rfl
  | 7, _ => rfl
  | 8, _ => rfl
  | 9, _ => rfl
  | n + 10, h => absurd h (by omega)
theorem dfl_ok2 (z : Nat) : ∀ j, j < 6 → defaultValue (tyT 2 j) = vp_V ((dfl 2).map (toV (zd z))) j
  | 0, _ => rfl
  | 1, _ => rfl
  | 2, _ => rfl
  | 3, _ => rfl
  | 4, _ => rfl
  | 5, _ => rfl
  | n + 6, h => absurd h (by omega)
theorem dfl_ok3 (z : Nat) : ∀ j, j < 5 → defaultValue (tyT 3 j) = vp_V ((dfl 3).map (toV (zd z))) j
  | 0, _ => rfl
  | 1, _ => rfl
  | 2, _ => rfl
  | 3, _ => rfl
  | 4, _ => rfl
  | n + 5, h => absurd h (by omega)
theorem dfl_ok4 (z : Nat) : ∀ j, j < 3 → defaultValue (tyT 4 j) = vp_V ((dfl 4).map (toV (zd z))) j
  | 0, _ => rfl
  | 1, _ => rfl
  | 2, _ => rfl
  | n + 3, h => absurd h (by omega)
theorem dfl_ok5 (z : Nat) : ∀ j, j < 11 → defaultValue (tyT 5 j) = vp_V ((dfl 5).map (toV (zd z))) j
  | 0, _ => rfl
  | 1, _ => rfl
  | 2, _ => rfl
  | 3, _ => rfl
  | 4, _ => rfl
  | 5, _ => rfl
  | 6, _ => rfl
  | 7, _ => rfl
  | 8, _ => rfl
  | 9, _ => rfl
  | 10, _ => rfl
  | n + 11, h => absurd h (by omega)
theorem dfl_ok6 (z : Nat) : ∀ j, j < 20 → defaultValue (tyT 6 j) = vp_V ((dfl 6).map (toV (zd z))) j
  | 0, _ => rfl
  | 1, _ => rfl
  | 2, _ => rfl
  | 3, _ => rfl
  | 4, _ => rfl
  | 5, _ => rfl
  | 6, _ => rfl
  | 7, _ => rfl
  | 8, _ => rfl
  | 9, _ => rfl
  | 10, _ => rfl
  | 11, _ => rfl
  | 12, _ => rfl
  | 13, _ => rfl
  | 14, _ => rfl
  | 15, _ => rfl
  | 16, _ => rfl
  | 17, _ => rfl
  | 18, _ => rfl
  | 19, _ => rfl
  | n + 20, h => absurd h (by omega)
theorem dfl_ok (z : Nat) : ∀ (ci : Nat) (q : vw_C), clsT[ci]? = some q → ∀ j, j < q.2.2 → defaultValue (tyT ci j) = vp_V ((dfl ci).map (toV (zd z))) j
  | 0, q, h => by cases h; exact dfl_ok0 z
  | 1, q, h => by cases h; exact dfl_ok1 z
  | 2, q, h => by cases h; exact dfl_ok2 z
  | 3, q, h => by cases h; exact dfl_ok3 z
  | 4, q, h => by cases h; exact dfl_ok4 z
  | 5, q, h => by cases h; exact dfl_ok5 z
  | 6, q, h => by cases h; exact dfl_ok6 z
  | n + 7, q, h => by simp [clsT] at h

section PWE
variable {p : Program} {l : Launch} {e : Env} {R : Room} {s : State} {m : MethodId} {args : Array Value} {below : List Frame} {meth : Method} {c : Code} {Qf : State → Prop} {nL : Nat} {n t pc : Nat} {L st : List pv} {own : String} {cc : ByteArray} {D : va_G} {cA : ClassId} {z : Nat} {K K' : List ce}
theorem PW.newarr (X : CG own cc nL p s m args c) (hK : va_K D clsT [(cA, .int)] s) {k : Nat} (hk : k < 1000) (harr : Cond.arrayClass .int ∈ BW) (hc : n + 1 ≤ R.cells) (hs : t + k ≤ R.slots) (hd : decode cc pc = .ok (.newarray .int, 2)) (hK' : K ++ [.inr k] = K') (kk : PW p l e R s m args below meth c (zd z) (AZ z) Qf nL (IE D cA z K') (n + 1) (t + k) (pc + 2) L (vR K.length :: st)) : PW p l e R s m args below meth c (zd z) (AZ z) Qf nL (IE D cA z K) n t pc L (vI k :: st) := by
  subst hK'
  intro H locs ls hI hS hL
  obtain ⟨hx, hb, hml, hown, hts⟩ := X
  have h0 : ¬ Int32.ofInt (k : Int) < 0 := by
    have := (i32lt (x := (k : Int)) (y := 0) ⟨by omega, by omega⟩ R32_0).mp
    intro h
    have := this h
    omega
  refine va_newaK hx hb (atype := .int) (hts _ harr) rfl hd (n := Int32.ofInt (k : Int)) (N := k) (rest := st.map (toV (zd z))) rfl h0 (by rw [clamp_of_int (by omega) (by omega)]; omega) (by show k * 4 ≤ _; omega) hc hs hI.2 (fun H1 cA' e1 z1 o1 hAr hNm => ?_)
  have e0 : cA' = cA := Option.some.inj (hNm.symm.trans (va_nm_int (hK.2 0 _ rfl).2))
  subst e0
  refine kk H1 locs ls ⟨?_, by rw [z1]; simp; omega⟩ ⟨by rw [z1]; have := hS.1; have := hI.2; omega, fun q h1 h2 => by rw [o1 q (by have := hS.1; have := hI.2; omega)]; exact hS.2.1 q h1 h2, hS.2.2⟩ hL
  rw [wsE_push]
  refine (hI.1.kept (fun k x hx => o1 x.1 (by have := (hI.1 k x hx).lt; have := hI.2; omega))).app (fun k' x hx => ?_)
  have hzz : k' < 1 := (List.getElem?_eq_some_iff.mp hx).1
  rw [show k' = 0 by omega] at hx
  cases hx
  exact e1
theorem PW.newobj (X : CG own cc nL p s m args c) (hK : va_K D clsT [(cA, .int)] s) {idx ci N : Nat} (hw : KL own idx ci N) (hc : n + 1 ≤ R.cells) (hs : t + N ≤ R.slots) (hd : decode cc pc = .ok (.new idx, 3)) (hK' : K ++ [.inl (ci, dfl ci)] = K') (kk : PW p l e R s m args below meth c (zd z) (AZ z) Qf nL (IE D cA z K') (n + 1) (t + N) (pc + 3) L (vR K.length :: st)) : PW p l e R s m args below meth c (zd z) (AZ z) Qf nL (IE D cA z K) n t pc L st := by
  subst hK'
  intro H locs ls hI hS hL
  obtain ⟨hx, hb, hml, hown, hts⟩ := X
  obtain ⟨q, q1, rfl, q3, q4, q5⟩ := hw
  have hKn := hK.1 ci q q1
  refine W.newcK hx hb hown (hts _ q3) (hts _ q4) (hts _ q5) rfl hd hc hs hKn.2.1 hI.2 (fun H1 kC hkC e1 z1 o1 => ?_)
  refine kk H1 locs ls ⟨?_, by rw [z1]; simp; omega⟩ ⟨by rw [z1]; have := hS.1; have := hI.2; omega, fun q h1 h2 => by rw [o1 q (by have := hS.1; have := hI.2; omega)]; exact hS.2.1 q h1 h2, hS.2.2⟩ hL
  rw [wsE_push]
  refine (hI.1.kept (fun k x hx => o1 x.1 (by have := (hI.1 k x hx).lt; have := hI.2; omega))).app (fun k' x hx => ?_)
  have hzz : k' < 1 := (List.getElem?_eq_some_iff.mp hx).1
  rw [show k' = 0 by omega] at hx
  cases hx
  exact ⟨q, q1, (u_born (tyT ci) hts (cls_all ci q q1).1 hKn hkC e1 (cls_all ci q q1).2.1).to (dfl_ok z ci q q1)⟩
theorem PW.putfn (X : CG own cc nL p s m args c) (hK : va_K D clsT [(cA, .int)] s) (hnm : meth.name = "<init>") {idx ci j x : Nat} {ty : FieldType} {fs : List pv} {v : pv} (hf : FPF own idx ci j ty) (hc : K[x]? = some (.inl (ci, fs))) (hl : j < fs.length) (hn : ∀ ad, narrow ty (toV ad v) = toV ad v) (hfit : ∀ ad, fits ty (toV ad v) = true) (hd : decode cc pc = .ok (.putfield idx, 3)) (hK' : K.set x (.inl (ci, fs.set j v)) = K') (kk : PW p l e R s m args below meth c (zd z) (AZ z) Qf nL (IE D cA z K') n t (pc + 3) L st) : PW p l e R s m args below meth c (zd z) (AZ z) Qf nL (IE D cA z K) n t pc L (v :: vR x :: st) := by
  subst hK'
  intro H locs ls hI hS hL
  obtain ⟨hx, hb, hml, hown, hts⟩ := X
  obtain ⟨q, q1, q2, q3, q4, q5, q6⟩ := hf
  have hin := (cls_all ci q q1).1
  have he : (wsE K z cA)[x]? = some (z + x, .inr (ci, fs.map (toV (zd z)))) := wsE_get hc
  have hap := va_apart (own := own) hts hin (tyT ci) (cls_all ci q q1).2.1 (cls_all ci q q1).2.2 hK q1
  obtain ⟨r, h1, cell, g1, g2, g3, g4⟩ := hI.1 x _ he
  have hr : r = q := Option.some.inj (h1.symm.trans q1)
  subst hr
  obtain ⟨hSl, hfc, kC, hkC, hkind⟩ := hK.1 ci _ q1
  obtain ⟨cf, kf, fi, f, hi, hsl⟩ := hSl j q2
  have hlay := hts _ (hin _ (u_in_lay q2))
  unfold u_lay at hlay
  rw [if_pos q4] at hlay
  have hst := (u_facts hfc hkC (u_lays hts hin q2) hi).1
  have hcf : m.cls = cf := by
    obtain ⟨_, _, c', _, _, _, -, -, hf', -, -, -, hown2, -⟩ := Cond.laysFinal_spec hlay
    have e1 : c' = cf := by have := hi.symm.trans hf'; simp at this; exact this.1.symm
    rw [q5] at hown2
    rw [← e1]; exact Option.some.inj (hown.symm.trans hown2)
  have h6 := u_fits hfc hkC hkind (Or.inr hlay) hi q6 (hn (zd z)) (hfit (zd z))
  refine W.putFinK hx hb hown (hts _ q3) hi hst hcf hnm (by rw [g2]; exact h6) g1 g3 (by rw [hsl]; exact k2_hasslot (g4 j q2)) rfl rfl hd (fun H' e1 e2 e3 => ?_)
  rw [hsl] at e1 ⊢
  have hset := hI.1.set (e := .inr (ci, (fs.map (toV (zd z))).set j (toV (zd z) v))) (wsE_D K z cA) he ⟨_, q1, t_OB.to (V := updV (vp_V (fs.map (toV (zd z)))) j (toV (zd z) v)) ⟨_, e1, g2, g3, t_set g4 hap q2 (toV (zd z) v)⟩ (fun i _ => vp_updV_set (by simp; exact hl) (toV (zd z) v) i)⟩ e3
  have hset2 : va_P D clsT (wsE (K.set x (.inl (ci, fs.set j v))) z cA) H' := by
    rw [← wsE_set]
    show va_P D clsT ((wsE K z cA).set x (z + x, .inr (ci, (fs.set j v).map (toV (zd z))))) H'
    rw [List.map_set]
    exact hset
  exact kk H' _ ls ⟨hset2, by rw [e2, hI.2]; simp⟩ (hS.put e2 e3 (show z ≤ z + x by omega)) hL
theorem PW.getfe (X : CG own cc nL p s m args c) (hK : va_K D clsT [(cA, .int)] s) {idx ci j x : Nat} {fs : List pv} {v : pv} (hf : FL own idx ci j) (hc : K[x]? = some (.inl (ci, fs))) (hj : fs[j]? = some v) (hd : decode cc pc = .ok (.getfield idx, 3)) (kk : PW p l e R s m args below meth c (zd z) (AZ z) Qf nL (IE D cA z K) n t (pc + 3) L (v :: st)) : PW p l e R s m args below meth c (zd z) (AZ z) Qf nL (IE D cA z K) n t pc L (vR x :: st) := by
  intro H locs ls hI hS hL
  obtain ⟨hx, hb, hml, hown, hts⟩ := X
  obtain ⟨q, q1, q2, q3⟩ := hf
  have he : (wsE K z cA)[x]? = some (z + x, .inr (ci, fs.map (toV (zd z)))) := wsE_get hc
  exact va_get (D := D) (cl := clsT) (ci := ci) (C := q.1) (T := q.2.1) (N := q.2.2) (v := toV (zd z) v) hx hb hts (cls_all ci q q1).1 hown hK hI.1 x he q1 j q2 (hts _ q3) (fun _ h9 => h9) (by rw [List.getElem?_map, hj]; rfl) hd (kk H locs ls hI hS hL)
end PWE
/-- a constructor's contract -/
def OKN (M : mth) (d mc ms : Nat) (vs : List pv) (K K' : List ce) : Prop :=
  ∀ (l : Launch) (D : va_G) (z : Nat) (cA : ClassId), Met l M.1 (wsw M) (rme d mc ms) (va_Pc (vs.map (toV (zd z))) (fun U => IE D cA z K U.heap ∧ va_K D clsT [(cA, .int)] U ∧ NW2 U)) (va_Qv (fun _ : Unit => True) (fun _ t => IE D cA z K' t.heap) (AZ z)) mc ms (AZ z)
def IL (own : String) (idx : Nat) (N : mth) (n : Nat) : Prop := Cond.methodLink own idx N.1 ∈ BW ∧ Cond.instanceMethod N.1 ∈ BW ∧ Cond.initialized N.1.cls ∈ BW ∧ Cond.code N.1 N.2.1 N.2.2.1 N.2.2.2 ∈ BW ∧ (N.1.cls ≠ "java/lang/invoke/MethodHandle" ∧ N.1.cls ≠ "java/lang/invoke/VarHandle" ∧ (parseMethodDescriptor N.1.desc).map (fun d => d.parameters.length) = some n) ∧ N.2.2.1 ≤ 40 ∧ N.1.name = "<init>" ∧ N.2.2.2 = none
def ILN (own : String) (idx : Nat) (N : mth) (n : Nat) : Prop := Cond.methodLinkNest own idx N.1 RX5 ∈ nw2 ∧ Cond.instanceMethod N.1 ∈ BW ∧ Cond.initialized N.1.cls ∈ BW ∧ Cond.code N.1 N.2.1 N.2.2.1 N.2.2.2 ∈ BW ∧ (N.1.cls ≠ "java/lang/invoke/MethodHandle" ∧ N.1.cls ≠ "java/lang/invoke/VarHandle" ∧ (parseMethodDescriptor N.1.desc).map (fun d => d.parameters.length) = some n) ∧ N.2.2.1 ≤ 40 ∧ N.1.name = "<init>" ∧ N.2.2.2 = none
theorem bw_good {N : mth} (h : Cond.code N.1 N.2.1 N.2.2.1 N.2.2.2 ∈ BW) : GoodIn BW (wsw N) := by
  intro w hw
  rcases List.mem_cons.mp hw with rfl | hw
  · exact ⟨h, (BW_good _ h).2⟩
  · exact ⟨hw, (BW_good _ hw).2⟩
section PWC
variable {p : Program} {l : Launch} {e : Env} {R : Room} {s : State} {m : MethodId} {args : Array Value} {below : List Frame} {meth : Method} {c : Code} {Qf : State → Prop} {nL : Nat} {n t pc : Nat} {L st st0 As : List pv} {own : String} {cc : ByteArray} {D : va_G} {cA : ClassId} {z : Nat} {K K' : List ce} {N : mth} {d' mc ms : Nat}
theorem blindN (vs : List Value) (D : va_G) (K : List ce) (z : Nat) (cA : ClassId) : FrameBlind (va_Pc vs (fun U => IE D cA z K U.heap ∧ va_K D clsT [(cA, .int)] U ∧ NW2 U)) := fun a U g mk q => by
  obtain ⟨q0, q1, q2, q3⟩ := q
  exact ⟨q0, q1, va_K.moved (u := U) (U := U.calling g mk a) (Vm.Alike.refl U.vm) q2, NW2.same (u := U) (U := U.calling g mk a) rfl q3⟩
theorem PW.callI (X : CG own cc nL p s m args c) (hK : va_K D clsT [(cA, .int)] s) (hN : NW2 s) {idx x k : Nat} (hok : OKN N d' mc ms (vR x :: As) K K') (hd : decode cc pc = .ok (.invokespecial idx, 3)) (hw : IL own idx N k) (hs : st0 = As.reverse ++ vR x :: st) (hn : As.length = k) (hst : st.length ≤ 4) (hfr : d' + 1 ≤ R.frames) (hlo : 59 + 64 * d' ≤ R.locals) (hc : n + mc ≤ R.cells) (hsl : t + ms ≤ R.slots)
    (kk : PW p l e R s m args below meth c (zd z) (AZ z) Qf nL (IE D cA z K') (n + mc) (t + ms) (pc + 3) L st) : PW p l e R s m args below meth c (zd z) (AZ z) Qf nL (IE D cA z K) n t pc L st0 := by
  subst hs
  intro H locs ls hI hS hL
  obtain ⟨hx, hb, hml, hown, hts⟩ := X
  obtain ⟨w1, w2, w3, w4, w5, w6, w7, w8⟩ := hw
  have hM := hok l D z cA
  rw [map_rev_app]
  have hcw := cwI (R := R) (rm := rme d' mc ms) (mc := mc) (ms := ms) (ws := wsw N) (own := own) (index := idx) (y := N.1) (bytes := N.2.1) (maxL := N.2.2.1) k hts (bw_good w4) (by unfold wsw; rw [w8]) rfl rfl (hts _ w3) (hts _ w1) (hts _ w2) w7 w5 ⟨by show d' + 1 ≤ _; exact hfr, by show 8 + (N.2.2.1 + 11) + 64 * d' ≤ _; omega⟩
  have hrun := va_runI (g := F0 m pc ls ((List.map (toV (zd z)) As).reverse ++ Value.ref (z + x) :: List.map (toV (zd z)) st)) (H := H) (locs := locs) (cells := n) (slots := t) (below := below) (meth := meth) (e := e) (As := List.map (toV (zd z)) As) (b := z + x) (rest := List.map (toV (zd z)) st) ⟨hx, hb, hml, hown, hts⟩ hM hcw ⟨blindN _ D K z cA, fun U hU hW => ⟨rfl, by rw [hU]; exact hI, va_K.moved hW.alike hK, hN.warm hW⟩⟩ rfl (by simpa using hn) hL.size rfl (lv_room (by have := cat_sum (zd z) st; omega)) hd ⟨hc, hsl⟩
  exact va_callv hrun hS (fun q _ h => h) (fun q h => h) (fun u t' H1 locs1 ht' _ _ hB _ _ hS1 => kk H1 locs1 ls (by rw [← ht']; exact hB) hS1 hL)
theorem PW.callIN (X : CG own cc nL p s m args c) (hK : va_K D clsT [(cA, .int)] s) (hN : NW2 s) {idx x k : Nat} (hok : OKN N d' mc ms (vR x :: As) K K') (hd : decode cc pc = .ok (.invokespecial idx, 3)) (hw : ILN own idx N k) (hs : st0 = As.reverse ++ vR x :: st) (hn : As.length = k) (hst : st.length ≤ 4) (hfr : d' + 1 ≤ R.frames) (hlo : 59 + 64 * d' ≤ R.locals) (hc : n + mc ≤ R.cells) (hsl : t + ms ≤ R.slots)
    (kk : PW p l e R s m args below meth c (zd z) (AZ z) Qf nL (IE D cA z K') (n + mc) (t + ms) (pc + 3) L st) : PW p l e R s m args below meth c (zd z) (AZ z) Qf nL (IE D cA z K) n t pc L st0 := by
  subst hs
  intro H locs ls hI hS hL
  obtain ⟨hx, hb, hml, hown, hts⟩ := X
  obtain ⟨w1, w2, w3, w4, w5, w6, w7, w8⟩ := hw
  have hM := hok l D z cA
  rw [map_rev_app]
  have hcw := va_cnB (R := R) (rm := rme d' mc ms) (mc := mc) (ms := ms) (ws := wsw N) (own := own) (index := idx) (y := N.1) (bytes := N.2.1) (maxL := N.2.2.1) (ret := none) (host := RX5) k hts (bw_good w4) (by unfold wsw; rw [w8]) rfl rfl (hN _ w1) (hts _ w3) w5 ⟨by show d' + 1 ≤ _; exact hfr, by show 8 + (N.2.2.1 + 11) + 64 * d' ≤ _; omega⟩
  have hrun := va_runIN (g := F0 m pc ls ((List.map (toV (zd z)) As).reverse ++ Value.ref (z + x) :: List.map (toV (zd z)) st)) (H := H) (locs := locs) (cells := n) (slots := t) (below := below) (meth := meth) (e := e) (As := List.map (toV (zd z)) As) (b := z + x) (rest := List.map (toV (zd z)) st) ⟨hx, hb, hml, hown, hts⟩ hM ⟨hcw, w7, hts _ w2⟩ ⟨blindN _ D K z cA, fun U hU hW => ⟨rfl, by rw [hU]; exact hI, va_K.moved hW.alike hK, hN.warm hW⟩⟩ rfl (by simpa using hn) hL.size rfl (lv_room (by have := cat_sum (zd z) st; omega)) hd ⟨hc, hsl⟩
  exact va_callv hrun hS (fun q _ h => h) (fun q h => h) (fun u t' H1 locs1 ht' _ _ hB _ _ hS1 => kk H1 locs1 ls (by rw [← ht']; exact hB) hS1 hL)
end PWC
theorem OKN.enter {M : mth} {d mc ms : Nat} {vs : List pv} {K K' : List ce} {L' : List pv} (hpl : plainName M.1.cls = true) (hlen : (ent0 vs).length ≤ M.2.2.1) (hL' : L0 vs M.2.2.1 = L') (hnm : M.1.name = "<init>")
    (k : ∀ (p : Program) (l : Launch) (e : Env) (s : State) (m : MethodId) (args : Array Value) (below : List Frame) (meth : Method) (c : Code) (D : va_G) (cA : ClassId) (z : Nat), CG M.1.cls M.2.1 M.2.2.1 p s m args c → meth.sig.returnType = M.2.2.2 → meth.locks = false → meth.name = "<init>" → va_K D clsT [(cA, .int)] s → NW2 s →
      PW p l e (rme d mc ms) s m args below meth c (zd z) (AZ z) (MQ below (va_Qv (fun _ : Unit => True) (fun _ t => IE D cA z K' t.heap) (AZ z)) args s mc ms (AZ z)) M.2.2.1 (IE D cA z K) 0 0 0 L' []) : OKN M d mc ms vs K K' := by
  subst hL'
  intro l D z cA
  refine Met.ofW (cc := M.2.1) (maxL := M.2.2.1) (ret := M.2.2.2) hpl rfl ?_
  intro p e s m args below meth c s₁ B hml hv
  obtain ⟨rfl, hI, hK, hN⟩ := hv
  have X : CG M.1.cls M.2.1 M.2.2.1 p s m (List.map (toV (zd z)) vs).toArray c := ⟨B.exec, B.bytes, hml, findClass_of_methodNamed B.named, fun w hw => atoms_spec (ws := wsw M) B.pre w (wsw_bw hw)⟩
  rw [lg_entry_eq]
  exact k p l e s m _ below meth c D cA z X B.returns B.notSynchronized ((name_of_methodNamed B.named B.method).1.trans hnm) hK hN s.heap [] _ hI va_S.rf (LR.entry (zd z) vs hlen)
theorem PW.vretN {p : Program} {l : Launch} {e : Env} {R : Room} {s : State} {m : MethodId} {args : Array Value} {below : List Frame} {meth : Method} {c : Code} {nL pc n t : Nat} {L : List pv} {own : String} {cc : ByteArray} {ad : Nat → Nat} {A : Nat → Prop} {I : Heap → Prop} {B : State → Prop} (X : CG own cc nL p s m args c) (hr : meth.sig.returnType = none) (hlk : meth.locks = false) (hB : ∀ t : State, I t.heap → B t) (hd : decode cc pc = .ok (.return_, 1)) : PW p l e R s m args below meth c ad A (MQ below (va_Qv (fun _ : Unit => True) (fun _ t => B t) A) args s n t A) nL I n t pc L [] := by
  intro H locs ls hI hS hL
  obtain ⟨hx, hb, hml, hown, hts⟩ := X
  exact W.vret hx hb hr (fun t' ht hW => ⟨⟨(), rfl, trivial, hB t' (by rw [ht]; exact hI)⟩, hS.F ht⟩) hS.2.2 hd hlk
