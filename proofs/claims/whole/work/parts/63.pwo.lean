/-! PW over an object's world, and what else holds of the heap -/
def IO (D : va_G) (cA : ClassId) (SH : List shp) (ad' : Nat → Nat) (σ : Sg) (J : Heap → Prop) (H : Heap) : Prop := RG σ ∧ va_P D clsT (wsO SH ad' cA σ) H ∧ J H
/-- J doesn't look at the cells of this object -/
def off (SH : List shp) (ad' : Nat → Nat) (J : Heap → Prop) : Prop := ∀ H H1 : Heap, J H → H.size ≤ H1.size → (∀ q : Nat, q < H.size → ¬ AS SH ad' q → H1[q]? = H[q]?) → J H1
theorem off_true {SH : List shp} {ad' : Nat → Nat} : off SH ad' (fun _ => True) := fun _ _ _ _ _ => trivial
theorem stb_IO {D : va_G} {cA : ClassId} {SH : List shp} {ad' : Nat → Nat} {σ : Sg} : stb (IO D cA SH ad' σ (fun _ => True)) := fun H H1 h _ hq => ⟨h.1, h.2.1.kept (fun k x hx => hq x.1 (h.2.1 k x hx).lt), trivial⟩
theorem wsO_size {D : va_G} {cA : ClassId} {SH : List shp} {ad' : Nat → Nat} {σ : Sg} {H : Heap} (h : va_P D clsT (wsO SH ad' cA σ) H) {c : Nat} (hc : c < SH.length) : ad' c < H.size := by
  have h1 : (wsO SH ad' cA σ)[c]? = some (ad' c, ent ad' cA σ c SH[c]) := wsO_get (List.getElem?_eq_getElem hc)
  exact (h c _ h1).lt
section PWO
variable {p : Program} {l : Launch} {e : Env} {R : Room} {s : State} {m : MethodId} {args : Array Value} {below : List Frame} {meth : Method} {c : Code} {ad ad' : Nat → Nat} {A : Nat → Prop} {Qf : State → Prop} {nL : Nat} {n t pc : Nat} {L st st0 As : List pv} {own : String} {cc : ByteArray} {D : va_G} {cA : ClassId} {SH : List shp} {σ : Sg} {J : Heap → Prop} {N : mth} {d' : Nat} {Qc : Option pv → Sg → Prop}
theorem PW.callOK (X : CG own cc nL p s m args c) (hK : va_K D clsT [(cA, .int)] s) (hN : NWs s) (hIj : Inj SH ad') (hA : ∀ q, AS SH ad' q → A q) (hJ : off SH ad' J) {idx x y k ci : Nat} {fs : List (Option Nat)} {q : vw_C} {vs : List pv} (hok : OK SH N d' (vR x :: vs) σ Qc) (hd : decode cc pc = .ok (.invokevirtual idx, 3)) (hw : VL own idx N k) (hc : SH[x]? = some (.inl (ci, fs))) (hq : clsT[ci]? = some q) (hq1 : q.1 = N.1.cls) (hvs : (vR x :: vs).map (toV ad') = (vR y :: As).map (toV ad)) (hrt : ∀ r σ', Qc r σ' → r.map (toV ad') = r.map (toV ad)) (hs : st0 = As.reverse ++ vR y :: st) (hn : As.length = k) (hst : st.length ≤ 4) (hfr : d' + 1 ≤ R.frames) (hlo : 59 + 64 * d' ≤ R.locals) (hcl : n ≤ R.cells) (hsl : t ≤ R.slots)
    (kk : ∀ r σ', Qc r σ' → PW p l e R s m args below meth c ad A Qf nL (IO D cA SH ad' σ' J) n t (pc + 3) L (r.toList ++ st)) : PW p l e R s m args below meth c ad A Qf nL (IO D cA SH ad' σ J) n t pc L st0 := by
  subst hs
  intro H locs ls hI hS hL
  obtain ⟨hx, hb, hml, hown, hts⟩ := X
  obtain ⟨hR, hP, hJH⟩ := hI
  obtain ⟨w1, w2, w3, w4, w5, w6, w7⟩ := hw
  have hM := hok l D ad' cA hIj hR
  rw [hvs] at hM
  have hxy : ad' x = ad y := by
    have := (List.cons.inj hvs).1
    exact Value.ref.inj this
  rw [map_rev_app]
  have hG : GoodIn BW (wsV own idx N.1.cls N.1 (wsw N)) := by
    intro w hw
    unfold wsV at hw
    rcases List.mem_append.mp hw with h | h
    · simp only [List.mem_cons, List.mem_nil_iff, or_false] at h
      rcases h with rfl | rfl | rfl | rfl
      · exact ⟨w1, (BW_good _ w1).2⟩
      · exact ⟨w2, (BW_good _ w2).2⟩
      · exact ⟨w3, (BW_good _ w3).2⟩
      · exact ⟨w4, (BW_good _ w4).2⟩
    · exact bw_good w5 w h
  have hcw : CallW R s args own N.1.cls idx N.1 N.2.1 N.2.2.1 N.2.2.2 (wsw N) (rmd d') 0 0 k := cwV k hts hG rfl rfl rfl ⟨rfl, w6⟩ ⟨by show d' + 1 ≤ _; exact hfr, by show 8 + (N.2.2.1 + 11) + 64 * d' ≤ _; omega⟩
  have hrun := va_runV (g := F0 m pc ls ((List.map (toV ad) As).reverse ++ Value.ref (ad y) :: List.map (toV ad) st)) (H := H) (locs := locs) (cells := n) (slots := t) (below := below) (meth := meth) (e := e) (As := List.map (toV ad) As) (b := ad y) (rest := List.map (toV ad) st) ⟨hx, hb, hml, hown, hts⟩ hM hcw ⟨blind _ D _ cA, by rw [← hq1, ← hxy]; exact va_recv hK hP hq (wsO_get hc), fun U hU hW => ⟨rfl, by rw [hU]; exact hP, va_K.moved hW.alike hK, hN.warm hW⟩⟩ rfl (by simpa using hn) hL.size rfl (lv_room (by have := cat_sum ad st; omega)) hd ⟨hcl, hsl⟩
  intro T hT X
  obtain ⟨v, st₀, t', T', L', h0, X', hL', e1, e2, ⟨r, σ', hv, hq', hR', hP', hK', hN', hz, hk⟩, stp⟩ := hrun T hT X
  have hv' : v = r.map (toV ad) := by rw [← hrt r σ' hq']; cases hv; rfl
  subst hv'
  rw [h0] at hz hk
  obtain ⟨t2, a1, b1⟩ := kk r σ' hq' T'.heap (locs ++ L') ls ⟨hR', by rw [e1]; exact hP', hJ H T'.heap hJH (by rw [e1]; exact hz) (fun q h1 h2 => by rw [e1]; exact hk q h1 h2)⟩
    ⟨Nat.le_trans hS.1 (by rw [e1]; exact hz), fun q h1 h2 => by rw [e1, hk q (Nat.lt_of_lt_of_le h1 hS.1) (fun z => h2 (hA q z))]; exact hS.2.1 q h1 h2, fun q hq => by
      rcases List.mem_append.mp hq with h | h
      · exact hS.2.2 q h
      · exact hA _ (hL' q h)⟩ hL T' rfl X'
  have e3 : (Option.map (toV ad) r).toList ++ List.map (toV ad) st = List.map (toV ad) (r.toList ++ st) := by cases r <;> rfl
  refine ⟨t2, stp t2 ?_, b1⟩
  show Steps p.tables e below (T'.setTop { F0 m pc ls _ with pc := _, stack := (Option.map (toV ad) r).toList ++ List.map (toV ad) st }) t2
  rw [e3]
  exact a1
theorem PW.getfo (X : CG own cc nL p s m args c) (hK : va_K D clsT [(cA, .int)] s) {idx ci x j c' : Nat} {fs : List (Option Nat)} (hd : decode cc pc = .ok (.getfield idx, 3)) (hf : FL own idx ci j) (hc : SH[x]? = some (.inl (ci, fs))) (hj : fs[j]? = some (some c')) (k : PW p l e R s m args below meth c ad A Qf nL (IO D cA SH ad σ J) n t (pc + 3) L (vR c' :: st)) : PW p l e R s m args below meth c ad A Qf nL (IO D cA SH ad σ J) n t pc L (vR x :: st) := by
  intro H locs ls hI hS hL
  have kk := k H locs ls hI hS hL
  obtain ⟨hx, hb, hml, hown, hts⟩ := X
  obtain ⟨q, q1, q2, q3⟩ := hf
  refine va_get (D := D) (cl := clsT) (ci := ci) (C := q.1) (T := q.2.1) (N := q.2.2) (v := .ref (ad c')) hx hb hts (cls_all ci q q1).1 hown hK hI.2.1 x (wsO_get hc) q1 j q2 (hts _ q3) (fun _ h9 => h9) ?_ hd kk
  rw [List.getElem?_mapIdx, hj]
  rfl
theorem PW.iasto (X : CG own cc nL p s m args c) (hK : va_K D clsT [(cA, .int)] s) (hIj : Inj SH ad) (hA : ∀ q, AS SH ad q → A q) (hJ : off SH ad J) {x k i : Nat} {z : Int} (hc : SH[x]? = some (.inr k)) (hk : k < 2147483648) (h1 : i < k) (hz : R32 z) (hd : decode cc pc = .ok (.iastore, 1)) (kk : PW p l e R s m args below meth c ad A Qf nL (IO D cA SH ad (up σ x i z) J) n t (pc + 1) L st) : PW p l e R s m args below meth c ad A Qf nL (IO D cA SH ad σ J) n t pc L (vI z :: vI (i : Int) :: vR x :: st) := by
  intro H locs ls hI hS hL
  obtain ⟨hx, hb, hml, hown, hts⟩ := X
  obtain ⟨hR, hP, hJH⟩ := hI
  have hD := wsO_D hIj cA σ
  have hD2 : va_D A (wsO SH ad cA σ) := hD.weaken (fun _ q _ h => hA q.1 h)
  have hi0 : (0 : Int) ≤ (i : Int) := by omega
  have hi1 : (i : Int) < (k : Int) := by omega
  refine W.iast hx hb (hP x _ (wsO_get hc)) ((hK.2 0 _ rfl).1 k (fun j => .int (Int32.ofInt (σ x j)))) (fun q => by cases q) (by show ¬ (_ < 0 ∨ (arrV _ _ _).slots.size ≤ _); rw [arrV_size]; exact vp_in_of_int hi0 hi1 hk) rfl rfl hd (fun H1 e1 e2 e3 => ?_)
  rw [clamp_of_int hi0 (by omega), Int.toNat_natCast] at e1 ⊢
  have hset : va_P D clsT ((wsO SH ad cA σ).set x (ad x, .inl (cA, k, .inl (upd (fun j => Int32.ofInt (σ x j)) i (Int32.ofInt z))))) H1 := by
    refine hP.set hD (wsO_get hc) ?_ e3
    show H1[ad x]? = some (vp_cell _ _)
    rw [e1, vp_cell_i, vp_cell_i, arrV_store]
    congr 2
    funext q
    by_cases hq : q = i
    · subst hq; simp [updV, upd]
    · simp [updV, upd, hq]
  rw [wsO_arr hc] at hset
  have hxl : x < SH.length := (List.getElem?_eq_some_iff.mp hc).1
  exact kk H1 _ ls ⟨RG_up hR hz, hset, hJ H H1 hJH (by rw [e2]; exact Nat.le_refl _) (fun q _ h2 => e3 q (fun h => h2 ⟨x, hxl, h⟩))⟩ (hS.put e2 e3 (hA _ ⟨x, hxl, rfl⟩)) hL
theorem PW.eqv {I : Heap → Prop} {x y : Int} (h : x = y) (k : PW p l e R s m args below meth c ad A Qf nL I n t pc L (vI y :: st)) : PW p l e R s m args below meth c ad A Qf nL I n t pc L (vI x :: st) := by subst h; exact k
theorem PW.mmin (X : CG own cc nL p s m args c) {I : Heap → Prop} {x y z : Int} {idx : Nat} (hd : decode cc pc = .ok (.invokestatic idx, 3)) (hw : Cond.methodLink own idx Lib.Math.min.name ∈ BW) (hw2 : Cond.static Lib.Math.min.name ∈ BW) (hw3 : Cond.code Lib.Math.min.name Lib.Math.min.code 2 (some .int) ∈ BW) (hz : (if Int32.ofInt y < Int32.ofInt x then Int32.ofInt y else Int32.ofInt x) = Int32.ofInt z) (hst : st.length ≤ 4) (hf : 1 ≤ R.frames) (hlo : 64 ≤ R.locals) (hc : n ≤ R.cells) (hs : t ≤ R.slots) (k : PW p l e R s m args below meth c ad A Qf nL I n t (pc + 3) L (vI z :: st)) : PW p l e R s m args below meth c ad A Qf nL I n t pc L (vI y :: vI x :: st) := by
  intro H locs ls hI hS hL
  obtain ⟨hx, hb, hml, hown, hts⟩ := X
  refine va_mmin hx hb (by rw [hml]; exact hL.size.symm) hown (hts _ hw) (hts _ hw2) (hts _ bw64) (hts _ hw3) hf (by have := cat_sum ad st; omega) hc hs hd ?_
  rw [hz]
  exact k H locs ls hI hS hL
end PWO

