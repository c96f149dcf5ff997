def VL (own : String) (idx : Nat) (N : mth) (n : Nat) : Prop := Cond.methodLink own idx N.1 ∈ BW ∧ Cond.instanceMethod N.1 ∈ BW ∧ Cond.selects N.1.cls N.1 N.1 ∈ BW ∧ Cond.initialized N.1.cls ∈ BW ∧ Cond.code N.1 N.2.1 N.2.2.1 N.2.2.2 ∈ BW ∧ (N.1.cls ≠ "java/lang/invoke/MethodHandle" ∧ N.1.cls ≠ "java/lang/invoke/VarHandle" ∧ (parseMethodDescriptor N.1.desc).map (fun d => d.parameters.length) = some n) ∧ N.2.2.1 ≤ 40
def SL (own : String) (idx : Nat) (N : mth) (n : Nat) : Prop := Cond.methodLink own idx N.1 ∈ BW ∧ Cond.static N.1 ∈ BW ∧ Cond.initialized N.1.cls ∈ BW ∧ Cond.code N.1 N.2.1 N.2.2.1 N.2.2.2 ∈ BW ∧ (N.1.cls ≠ "java/lang/invoke/MethodHandle" ∧ N.1.cls ≠ "java/lang/invoke/VarHandle" ∧ (parseMethodDescriptor N.1.desc).map (fun d => d.parameters.length) = some n) ∧ N.2.2.1 ≤ 40
def NL (own : String) (idx : Nat) (N : mth) (n : Nat) : Prop := Cond.methodLinkNest own idx N.1 RX5 ∈ nwl ∧ Cond.static N.1 ∈ BW ∧ Cond.initialized N.1.cls ∈ BW ∧ Cond.code N.1 N.2.1 N.2.2.1 N.2.2.2 ∈ BW ∧ (N.1.cls ≠ "java/lang/invoke/MethodHandle" ∧ N.1.cls ≠ "java/lang/invoke/VarHandle" ∧ (parseMethodDescriptor N.1.desc).map (fun d => d.parameters.length) = some n) ∧ N.2.2.1 ≤ 40
theorem cat_sum (ad : Nat → Nat) : ∀ st : List pv, (List.map (fun v => v.category) (List.map (toV ad) st)).sum ≤ 2 * st.length := by
  intro st
  induction st with
  | nil => simp
  | cons v st ih =>
    simp only [List.map_cons, List.sum_cons, List.length_cons]
    rcases lv_cat (toV ad v) with h | h <;> omega
section CLL
variable {p : Program} {l : Launch} {e : Env} {R : Room} {s : State} {m : MethodId} {args : Array Value} {below : List Frame} {meth : Method} {c : Code} {H : Heap} {locs : List Loc} {Qf : State → Prop}
theorem callQ {SH : List shp} {D : va_G} {ad : Nat → Nat} {cA : ClassId} {Qc : Option pv → Sg → Prop} {pc : Nat} {ls : Array Slot} {st0 rest : List Value} {a : Array Value} (hr : va_Run p l e R s m args below meth c H locs 0 0 0 0 (F0 m pc ls st0) rest (QQ SH D ad cA Qc a) (AS SH ad)) (hS : va_S (AS SH ad) s.heap H locs)
    (kk : ∀ (r : Option pv) (σ' : Sg) (H1 : Heap) (locs1 : List Loc), Qc r σ' → RG σ' → va_P D clsT (wsO SH ad cA σ') H1 → va_S (AS SH ad) s.heap H1 locs1 → W p l e R s m args below meth c H1 locs1 0 0 Qf (F0 m (pc + 3) ls (r.toList.map (toV ad) ++ rest))) : W p l e R s m args below meth c H locs 0 0 Qf (F0 m pc ls st0) := by
  intro T hT X
  obtain ⟨v, st₀, t, T', L, h0, X', hL, e1, e2, ⟨r, σ', hv, hq, hR, hP, hK, hN, hz, hk⟩, st⟩ := hr T hT X
  have hv' : v = r.map (toV ad) := by cases hv; rfl
  subst hv'
  rw [h0] at hz hk
  obtain ⟨t2, a1, b1⟩ := kk r σ' T'.heap (locs ++ L) hq hR (by rw [e1]; exact hP)
    ⟨Nat.le_trans hS.1 (by rw [e1]; exact hz), fun q h1 h2 => by rw [e1, hk q (Nat.lt_of_lt_of_le h1 hS.1) h2]; exact hS.2.1 q h1 h2, fun q hq => by
      rcases List.mem_append.mp hq with h | h
      · exact hS.2.2 q h
      · exact hL q h⟩ T' rfl X'
  have e3 : (Option.map (toV ad) r).toList = r.toList.map (toV ad) := by cases r <;> rfl
  refine ⟨t2, st t2 ?_, b1⟩
  show Steps p.tables e below (T'.setTop { F0 m pc ls st0 with pc := _, stack := (Option.map (toV ad) r).toList ++ rest }) t2
  rw [e3]
  exact a1
end CLL
theorem map_rev_app (ad : Nat → Nat) (As st : List pv) : List.map (toV ad) (As.reverse ++ st) = (List.map (toV ad) As).reverse ++ List.map (toV ad) st := by
  rw [List.map_append, List.map_reverse]
section CAL
variable {SH : List shp} {M N : mth} {d d' pc idx n : Nat} {L st st0 As : List pv} {σ : Sg} {Q Qc : Option pv → Sg → Prop}
theorem blind (vs : List Value) (D : va_G) (w : va_W) (cA : ClassId) : FrameBlind (va_Pc vs (fun U => va_P D clsT w U.heap ∧ va_K D clsT [(cA, .int)] U ∧ NWs U)) := fun a U g mk q => by
  obtain ⟨q0, q1, q2, q3⟩ := q
  exact ⟨q0, q1, va_K.moved (u := U) (U := U.calling g mk a) (Vm.Alike.refl U.vm) q2, NWs.same (u := U) (U := U.calling g mk a) rfl q3⟩
theorem PP.callV {c ci : Nat} {fs : List (Option Nat)} {q : vw_C} (hok : OK SH N d' (vR c :: As) σ Qc) (hd : decode M.2.1 pc = .ok (.invokevirtual idx, 3)) (hw : VL M.1.cls idx N n) (hc : SH[c]? = some (.inl (ci, fs))) (hq : clsT[ci]? = some q) (hq1 : q.1 = N.1.cls) (hs : st0 = As.reverse ++ vR c :: st) (hn : As.length = n) (hst : st.length ≤ 4) (hdd : d' + 1 ≤ d)
    (k : ∀ r σ', Qc r σ' → PP SH M d (pc + 3) L (r.toList ++ st) σ' Q) : PP SH M d pc L st0 σ Q := by
  subst hs
  intro p l e s m args below meth cd D ad cA H locs ls X hP hS hR hL
  obtain ⟨hx, hb, hr, hml, hown, hts, hlk, hK, hI, hN⟩ := id X
  obtain ⟨w1, w2, w3, w4, w5, w6, w7⟩ := hw
  have hM := hok l D ad cA hI hR
  rw [map_rev_app]
  have hG : GoodIn (wsw M) (wsV M.1.cls idx N.1.cls N.1 (wsw N)) := by
    intro w hw
    unfold wsV at hw
    rcases List.mem_append.mp hw with h | h
    · simp only [List.mem_cons, List.mem_nil_iff, or_false] at h
      rcases h with rfl | rfl | rfl | rfl
      · exact ⟨wsw_bw w1, (BW_good _ w1).2⟩
      · exact ⟨wsw_bw w2, (BW_good _ w2).2⟩
      · exact ⟨wsw_bw w3, (BW_good _ w3).2⟩
      · exact ⟨wsw_bw w4, (BW_good _ w4).2⟩
    · exact wsw_good w5 w h
  have hcw : CallW (rmd d) s args M.1.cls N.1.cls idx N.1 N.2.1 N.2.2.1 N.2.2.2 (wsw N) (rmd d') 0 0 n := cwV n hts hG rfl rfl rfl ⟨rfl, w6⟩ ⟨by show d' + 1 ≤ d; exact hdd, by show 8 + (N.2.2.1 + 11) + 64 * d' ≤ 64 * d; omega⟩
  have hrun := va_runV (g := F0 m pc ls ((List.map (toV ad) As).reverse ++ Value.ref (ad c) :: List.map (toV ad) st)) (H := H) (locs := locs) (cells := 0) (slots := 0) (below := below) (meth := meth) (e := e) (As := List.map (toV ad) As) (b := ad c) (rest := List.map (toV ad) st) ⟨hx, hb, hml, hown, hts⟩ hM hcw ⟨blind _ D _ cA, by rw [← hq1]; exact va_recv hK hP hq (wsO_get hc), fun U hU hW => ⟨rfl, by rw [hU]; exact hP, va_K.moved hW.alike hK, hN.warm hW⟩⟩ rfl (by simpa using hn) hL.size rfl (lv_room (by have := cat_sum ad st; omega)) hd ⟨Nat.zero_le _, Nat.zero_le _⟩
  exact callQ hrun hS (fun r σ' H1 locs1 g1 g2 g3 g4 => by
    have := k r σ' g1 p l e s m args below meth cd D ad cA H1 locs1 ls X g3 g4 g2 hL
    rw [List.map_append] at this
    exact this)
theorem PP.callS (hok : OK SH N d' As σ Qc) (hd : decode M.2.1 pc = .ok (.invokestatic idx, 3)) (hw : SL M.1.cls idx N n) (hs : st0 = As.reverse ++ st) (hn : As.length = n) (hst : st.length ≤ 4) (hdd : d' + 1 ≤ d)
    (k : ∀ r σ', Qc r σ' → PP SH M d (pc + 3) L (r.toList ++ st) σ' Q) : PP SH M d pc L st0 σ Q := by
  subst hs
  intro p l e s m args below meth cd D ad cA H locs ls X hP hS hR hL
  obtain ⟨hx, hb, hr, hml, hown, hts, hlk, hK, hI, hN⟩ := id X
  obtain ⟨w1, w2, w4, w5, w6, w7⟩ := hw
  have hM := hok l D ad cA hI hR
  rw [map_rev_app]
  have hG : GoodIn (wsw M) (va_wsS M.1.cls idx N.1 (wsw N)) := by
    intro w hw
    unfold va_wsS at hw
    rcases List.mem_append.mp hw with h | h
    · simp only [List.mem_cons, List.mem_nil_iff, or_false] at h
      rcases h with rfl | rfl | rfl
      · exact ⟨wsw_bw w1, (BW_good _ w1).2⟩
      · exact ⟨wsw_bw w2, (BW_good _ w2).2⟩
      · exact ⟨wsw_bw w4, (BW_good _ w4).2⟩
    · exact wsw_good w5 w h
  have hcw := va_cwS (R := rmd d) (rm := rmd d') (mc := 0) (ms := 0) n hts hG rfl rfl rfl w6 ⟨by show d' + 1 ≤ d; exact hdd, by show 8 + (N.2.2.1 + 11) + 64 * d' ≤ 64 * d; omega⟩
  have hrun := va_runS (g := F0 m pc ls ((List.map (toV ad) As).reverse ++ List.map (toV ad) st)) (H := H) (locs := locs) (cells := 0) (slots := 0) (below := below) (meth := meth) (e := e) (As := List.map (toV ad) As) (rest := List.map (toV ad) st) ⟨hx, hb, hml, hown, hts⟩ hM hcw ⟨blind _ D _ cA, fun U hU hW => ⟨rfl, by rw [hU]; exact hP, va_K.moved hW.alike hK, hN.warm hW⟩⟩ rfl (by simpa using hn) hL.size rfl (lv_room (by have := cat_sum ad st; omega)) hd ⟨Nat.zero_le _, Nat.zero_le _⟩
  exact callQ hrun hS (fun r σ' H1 locs1 g1 g2 g3 g4 => by
    have := k r σ' g1 p l e s m args below meth cd D ad cA H1 locs1 ls X g3 g4 g2 hL
    rw [List.map_append] at this
    exact this)
theorem PP.callN (hok : OK SH N d' As σ Qc) (hd : decode M.2.1 pc = .ok (.invokestatic idx, 3)) (hw : NL M.1.cls idx N n) (hs : st0 = As.reverse ++ st) (hn : As.length = n) (hst : st.length ≤ 4) (hdd : d' + 1 ≤ d)
    (k : ∀ r σ', Qc r σ' → PP SH M d (pc + 3) L (r.toList ++ st) σ' Q) : PP SH M d pc L st0 σ Q := by
  subst hs
  intro p l e s m args below meth cd D ad cA H locs ls X hP hS hR hL
  obtain ⟨hx, hb, hr, hml, hown, hts, hlk, hK, hI, hN⟩ := id X
  obtain ⟨w1, w2, w4, w5, w6, w7⟩ := hw
  have hM := hok l D ad cA hI hR
  rw [map_rev_app]
  have hcw := va_cnB (R := rmd d) (rm := rmd d') (mc := 0) (ms := 0) n hts (wsw_good w5) rfl rfl rfl (hN _ w1) (hts _ (wsw_bw w4)) w6 ⟨by show d' + 1 ≤ d; exact hdd, by show 8 + (N.2.2.1 + 11) + 64 * d' ≤ 64 * d; omega⟩
  have hrun := va_runSN (g := F0 m pc ls ((List.map (toV ad) As).reverse ++ List.map (toV ad) st)) (H := H) (locs := locs) (cells := 0) (slots := 0) (below := below) (meth := meth) (e := e) (As := List.map (toV ad) As) (rest := List.map (toV ad) st) ⟨hx, hb, hml, hown, hts⟩ hM ⟨hcw, hts _ (wsw_bw w2), trivial⟩ ⟨blind _ D _ cA, fun U hU hW => ⟨rfl, by rw [hU]; exact hP, va_K.moved hW.alike hK, hN.warm hW⟩⟩ rfl (by simpa using hn) hL.size rfl (lv_room (by have := cat_sum ad st; omega)) hd ⟨Nat.zero_le _, Nat.zero_le _⟩
  exact callQ hrun hS (fun r σ' H1 locs1 g1 g2 g3 g4 => by
    have := k r σ' g1 p l e s m args below meth cd D ad cA H1 locs1 ls X g3 g4 g2 hL
    rw [List.map_append] at this
    exact this)
end CAL
theorem OK.mono {SH : List shp} {M : mth} {d : Nat} {vs : List pv} {σ : Sg} {Q Q' : Option pv → Sg → Prop} (h : OK SH M d vs σ Q) (hq : ∀ r σ', Q r σ' → Q' r σ') : OK SH M d vs σ Q' := by
  intro l D ad cA hI hR p e ha hc hk s m args below hf hz hP hT
  obtain ⟨k, o, h1, h2, h3, ⟨⟨r, σ', e1, e2, e3⟩, h5⟩⟩ := h l D ad cA hI hR p e ha hc hk s m args below hf hz hP hT
  exact ⟨k, o, h1, h2, h3, ⟨⟨r, σ', e1, hq r σ' e2, e3⟩, h5⟩⟩
