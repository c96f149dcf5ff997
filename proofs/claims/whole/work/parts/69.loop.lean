theorem bx73 : Cond.classLink RL 7 RX5 ∈ BW := BW_mem 73 (by decide +kernel) rfl
theorem bx74 : Cond.instantiable RX5 11 ∈ BW := BW_mem 74 (by decide +kernel) rfl
theorem kl_L_7 : KL RL 7 5 11 := ⟨_, rfl, rfl, bx73, bx74, bw58⟩
theorem bx752 : Cond.classLink RL 10 RX6 ∈ BW := BW_mem 752 (by decide +kernel) rfl
theorem bx753 : Cond.instantiable RX6 20 ∈ BW := BW_mem 753 (by decide +kernel) rfl
theorem kl_L_10 : KL RL 10 6 20 := ⟨_, rfl, rfl, bx752, bx753, bw71⟩
theorem bx76 : Cond.instanceMethod yX5_init ∈ BW := BW_mem 76 (by decide +kernel) rfl
theorem bx77 : Cond.code yX5_init cX5_init 3 none ∈ BW := BW_mem 77 (by decide +kernel) rfl
theorem bx75 : Cond.methodLink RL 9 yX5_init ∈ BW := BW_mem 75 (by decide +kernel) rfl
theorem il_L_9 : IL RL 9 mX5_init 0 := ⟨bx75, bx76, bw58, bx77, by decide +kernel, by decide, rfl, rfl⟩
theorem bx755 : Cond.instanceMethod yX6_init ∈ BW := BW_mem 755 (by decide +kernel) rfl
theorem bx756 : Cond.code yX6_init cX6_init 1 none ∈ BW := BW_mem 756 (by decide +kernel) rfl
theorem bx754 : Cond.methodLink RL 12 yX6_init ∈ BW := BW_mem 754 (by decide +kernel) rfl
theorem il_L_12 : IL RL 12 mX6_init 0 := ⟨bx754, bx755, bw71, bx756, by decide +kernel, by decide, rfl, rfl⟩
/-! the law: loop, entry -/
section ENT
variable {p : Program} {l : Launch} {e : Env} {s : State} {m : MethodId} {args : Array Value} {below : List Frame} {meth : Method} {c : Code} {D : va_G} {cA : ClassId} {z y b len : Nat} {xs : Nat → Int32} {Qf : State → Prop} {R : Room} {ad : Nat → Nat} {A : Nat → Prop} {nL n t pc : Nat} {L st st0 : List pv} {own : String} {cc : ByteArray} {I I0 I' : Heap → Prop}
theorem PW.size (k : ∀ y, PW p l e R s m args below meth c ad A Qf nL (fun H => I H ∧ H.size = y) n t pc L st) : PW p l e R s m args below meth c ad A Qf nL I n t pc L st := by
  intro H locs ls hI hS hL
  exact k H.size H locs ls ⟨hI, rfl⟩ hS hL
theorem PW.exs {J : Sg → Heap → Prop} (k : ∀ σ, PW p l e R s m args below meth c ad A Qf nL (J σ) n t pc L st) : PW p l e R s m args below meth c ad A Qf nL (fun H => ∃ σ, J σ H) n t pc L st := by
  intro H locs ls hI hS hL
  obtain ⟨σ, h⟩ := hI
  exact k σ H locs ls h hS hL
theorem PW.fact {P : Prop} (k : P → PW p l e R s m args below meth c ad A Qf nL I n t pc L st) : PW p l e R s m args below meth c ad A Qf nL (fun H => P ∧ I H) n t pc L st := by
  intro H locs ls hI hS hL
  exact k hI.1 H locs ls hI.2 hS hL
theorem PW.have {P : Prop} (h : ∀ H, I H → P) (k : P → PW p l e R s m args below meth c ad A Qf nL I n t pc L st) : PW p l e R s m args below meth c ad A Qf nL I n t pc L st := by
  intro H locs ls hI hS hL
  exact k (h H hI) H locs ls hI hS hL
theorem PW.atS (k : s.heap.size ≤ y → PW p l e R s m args below meth c ad A Qf nL (fun H => I H ∧ H.size = y) n t pc L st) : PW p l e R s m args below meth c ad A Qf nL (fun H => I H ∧ H.size = y) n t pc L st := by
  intro H locs ls hI hS hL
  exact k (by rw [← hI.2]; exact hS.1) H locs ls hI hS hL
theorem PW.newL (X : CG own cc nL p s m args c) (hK : va_K D clsT [(cA, .int)] s) {idx ci N x : Nat} (hw : KL own idx ci N) (hc : n + 1 ≤ R.cells) (hs : t + N ≤ R.slots) (hd : decode cc pc = .ok (.new idx, 3)) (hx : ad x = y) (hstb : stb I0) (kk : PW p l e R s m args below meth c ad A Qf nL (fun H => I0 H ∧ IE D cA y [.inl (ci, dfl ci)] H) (n + 1) (t + N) (pc + 3) L (vR x :: st)) : PW p l e R s m args below meth c ad A Qf nL (fun H => I0 H ∧ H.size = y) n t pc L st := by
  intro H locs ls hI hS hL
  obtain ⟨hx9, hb, hml, hown, hts⟩ := X
  obtain ⟨q, q1, rfl, q3, q4, q5⟩ := hw
  have hKn := hK.1 ci q q1
  have hsz := hI.2
  refine W.newcK hx9 hb hown (hts _ q3) (hts _ q4) (hts _ q5) rfl hd hc hs hKn.2.1 hsz (fun H1 kC hkC e1 z1 o1 => ?_)
  have kk2 := kk H1 locs ls ⟨hstb H H1 hI.1 (by omega) (fun q hq => o1 q (by omega)), ?_, by rw [z1]; rfl⟩ ⟨by rw [z1]; have := hS.1; omega, fun q h1 h2 => by rw [o1 q (by have := hS.1; omega)]; exact hS.2.1 q h1 h2, hS.2.2⟩ hL
  · have e9 : toV ad (vR x) = Value.ref y := by show Value.ref (ad x) = _; rw [hx]
    rw [List.map_cons, e9] at kk2
    exact kk2
  · intro k' x' hx'
    have hzz : k' < 1 := (List.getElem?_eq_some_iff.mp hx').1
    rw [show k' = 0 by omega] at hx'
    cases hx'
    exact ⟨q, q1, (u_born (tyT ci) hts (cls_all ci q q1).1 hKn hkC e1 (cls_all ci q q1).2.1).to (dfl_ok y ci q q1)⟩
theorem PW.callC (X : CG own cc nL p s m args c) {N : mth} {P B : State → Prop} {d' mc ms idx x : Nat} (hM : Met l N.1 (wsw N) (rme d' mc ms) (va_Pc [.ref y] P) (va_Qv (fun _ : Unit => True) (fun _ t => B t) (AZ y)) mc ms (AZ y)) (hbl : FrameBlind (va_Pc [.ref y] P)) (hpre : ∀ (H : Heap) (locs : List Loc) (U : State), I H → va_S A s.heap H locs → U.heap = H → s.WarmedH U.vm → P U) (hd : decode cc pc = .ok (.invokespecial idx, 3)) (hw : IL own idx N 0) (hx : ad x = y) (hst : st.length ≤ 4) (hfr : d' + 1 ≤ R.frames) (hlo : 59 + 64 * d' ≤ R.locals) (hc : n + mc ≤ R.cells) (hsl : t + ms ≤ R.slots) (hA : ∀ q, AZ y q → A q)
    (hI' : ∀ (H H1 : Heap) (t' : State), I H → t'.heap = H1 → B t' → H.size ≤ H1.size → (∀ q : Nat, q < H.size → ¬ AZ y q → H1[q]? = H[q]?) → I' H1)
    (kk : PW p l e R s m args below meth c ad A Qf nL I' (n + mc) (t + ms) (pc + 3) L st) : PW p l e R s m args below meth c ad A Qf nL I n t pc L (vR x :: st) := by
  intro H locs ls hI hS hL
  obtain ⟨hx9, hb, hml, hown, hts⟩ := X
  obtain ⟨w1, w2, w3, w4, w5, w6, w7, w8⟩ := hw
  have e9 : toV ad (vR x) = Value.ref y := by show Value.ref (ad x) = _; rw [hx]
  rw [List.map_cons, e9]
  have hcw := cwI (R := R) (rm := rme d' mc ms) (mc := mc) (ms := ms) (ws := wsw N) (own := own) (index := idx) (y := N.1) (bytes := N.2.1) (maxL := N.2.2.1) 0 hts (bw_good w4) (by unfold wsw; rw [w8]) rfl rfl (hts _ w3) (hts _ w1) (hts _ w2) w7 w5 ⟨by show d' + 1 ≤ _; exact hfr, by show 8 + (N.2.2.1 + 11) + 64 * d' ≤ _; omega⟩
  have hrun := va_runI (g := F0 m pc ls (Value.ref y :: List.map (toV ad) st)) (H := H) (locs := locs) (cells := n) (slots := t) (below := below) (meth := meth) (e := e) (As := []) (b := y) (rest := List.map (toV ad) st) ⟨hx9, hb, hml, hown, hts⟩ hM hcw ⟨hbl, fun U hU hW => ⟨rfl, hpre H locs U hI hS hU hW⟩⟩ rfl rfl hL.size rfl (lv_room (by have := cat_sum ad st; omega)) hd ⟨hc, hsl⟩
  exact va_callv hrun hS (fun q _ h => hA q h) hA (fun u t' H1 locs1 ht' _ _ hB h1 h2 hS1 => kk H1 locs1 ls (hI' H H1 t' hI ht' hB h1 h2) hS1 hL)
end ENT
theorem lw_loop {p : Program} {l : Launch} {e : Env} {s : State} {m : MethodId} {below : List Frame} {meth : Method} {c : Code} {D : va_G} {cA : ClassId} {z y b len : Nat} {xs : Nat → Int32} (C : LC p s m #[Value.ref b] c D cA z y b len xs) (hr : meth.sig.returnType = ret) (hlk : meth.locks = false) : ∀ (f i : Nat) (σ τ : Sg) (A : ST), i ≤ 384 → len ≤ i + f → RepC σ A → RepM τ A → WF A → LW p l e s m #[Value.ref b] below meth c D cA z y b (lw_Z below #[Value.ref b] s) i 18 σ τ [] := by
  have hz : s.heap.size = z := C.2.2.2.2.2.1
  have hlen : len ≤ 384 := C.2.2.2.2.2.2.2.2
  have fin : ∀ (i : Nat) (σ τ : Sg), LW p l e s m #[Value.ref b] below meth c D cA z y b (lw_Z below #[Value.ref b] s) i 931 σ τ [] := by
    intro i σ τ
    refine PW.iconst C.1 dL_law_931 ?_
    intro H locs ls hI hS hL
    refine va_forget (fun q hq => by have h9 : z ≤ q.base := hS.2.2 q hq; omega) ?_
    refine W.widen (k := 600000) (n := 7302250) (by decide) (by decide) ?_
    exact lw_ret C.1.1 C.1.2.1 hr hlk dL_law_932
  intro f
  induction f with
  | zero =>
    intro i σ τ A hi hf h1 h2 hW
    refine PW.iload_n C.1 dL_law_18 rfl ?_
    refine PW.aload_n C.1 dL_law_19 rfl ?_
    refine LW.slen C dL_law_20 ?_
    refine PW.bipush C.1 dL_law_21 rfl ?_
    refine PW.isub C.1 dL_law_23 ?_
    exact PW.icmp_gt C.1 ⟨by omega, by omega⟩ ⟨by omega, by omega⟩ dL_law_24 (tgt := 931) rfl (fun _ => fin i σ τ) (fun h => absurd h (by omega))
  | succ f ih =>
    intro i σ τ A hi hf h1 h2 hW
    refine PW.iload_n C.1 dL_law_18 rfl ?_
    refine PW.aload_n C.1 dL_law_19 rfl ?_
    refine LW.slen C dL_law_20 ?_
    refine PW.bipush C.1 dL_law_21 rfl ?_
    refine PW.isub C.1 dL_law_23 ?_
    refine PW.icmp_gt C.1 ⟨by omega, by omega⟩ ⟨by omega, by omega⟩ dL_law_24 (tgt := 931) rfl (fun _ => fin i σ τ) (fun h => ?_)
    refine lw_sw C (by omega) h1 h2 hW (fun σ1 τ1 A1 g1 g2 g3 => ?_)
    refine PW.iinc C.1 (L' := [vR 2, vR 0, vR 1, vI ((i + 6 : Nat) : Int)]) dL_law_925 rfl rfl rfl ?_
    refine PW.goto C.1 dL_law_928 (tgt := 18) rfl ?_
    exact ih (i + 6) σ1 τ1 A1 (by omega) (by omega) g1 g2 g3
theorem blind5 (D : va_G) (cA : ClassId) (z q qv f : Nat) : FrameBlind (va_Pc [.ref z] (P5 D cA z q qv f)) := fun a U g mk h => by
  obtain ⟨h0, h1, h2, h3, h4, h5⟩ := h
  exact ⟨h0, h1, va_K.moved (u := U) (U := U.calling g mk a) (Vm.Alike.refl U.vm) h2, NW2.same (u := U) (U := U.calling g mk a) rfl h3, SF.moved (u := U) (U := U.calling g mk a) (Vm.Alike.refl U.vm) h4, vk_R.same (u := U) (U := U.calling g mk a) rfl h5⟩
theorem blind6 (D : va_G) (cA : ClassId) (z : Nat) : FrameBlind (va_Pc [.ref z] (P6 D cA z)) := fun a U g mk h => by
  obtain ⟨h0, h1, h2, h3⟩ := h
  exact ⟨h0, h1, va_K.moved (u := U) (U := U.calling g mk a) (Vm.Alike.refl U.vm) h2, NW2.same (u := U) (U := U.calling g mk a) rfl h3⟩
theorem stb_C {D : va_G} {cA : ClassId} {z : Nat} {σ : Sg} : stb (WC D cA z σ) := fun H H1 h _ hq => ⟨h.1, h.2.kept (fun k x hx => hq x.1 (h.2 k x hx).lt)⟩
theorem lw_enter {p : Program} {l : Launch} {e : Env} {s : State} {m : MethodId} {below : List Frame} {meth : Method} {c : Code} {D : va_G} {cA : ClassId} {b len : Nat} {xs : Nat → Int32} {q qv f : Nat} (X : CG RL code 4 p s m #[Value.ref b] c) (hK : va_K D clsT [(cA, .int)] s) (hN : NW2 s) (hX : va_X b len xs s s.heap) (hbl : b < s.heap.size) (hlen : len ≤ 384) (hF : SF q qv f (AZ s.heap.size) s s.heap) (hZ : vk_R RX5 58 FTs q s) (hr : meth.sig.returnType = ret) (hlk : meth.locks = false) : W p l e room_1 s m #[Value.ref b] below meth c s.heap [] 0 0 (lw_Z below #[Value.ref b] s) (entryFrame m ([Value.ref b] : List Value).toArray 4) := by
  rw [lg_entry_eq]
  suffices hh : PW p l e room_1 s m #[Value.ref b] below meth c (fun x => if x = 0 then s.heap.size else b) (AZ s.heap.size) (lw_Z below #[Value.ref b] s) 4 (fun H => True ∧ H.size = s.heap.size) 0 0 0 [vR 2, vN, vN, vN] [] from hh s.heap [] _ ⟨trivial, rfl⟩ va_S.rf (LR.entry (fun x => if x = 0 then s.heap.size else b) [vR 2] (nL := 4) (Nat.le_of_ble_eq_true rfl))
  refine PW.newL X hK kl_L_7 (Nat.le_of_ble_eq_true rfl) (Nat.le_of_ble_eq_true rfl) dL_law_0 (x := 0) rfl (fun _ _ _ _ _ => trivial) ?_
  refine PW.dup X rfl dL_law_3 ?_
  refine PW.callC (x := 0) (y := s.heap.size) (I' := fun H => ∃ σ, (RepC σ FA ∧ wfS fy18) ∧ WC D cA s.heap.size σ H) X (k_X5 l D cA s.heap.size q qv f) (blind5 D cA s.heap.size q qv f) (fun H locs U hI hS hU hW => ⟨by rw [hU]; exact hI.2, va_K.moved hW.alike hK, hN.warm hW, by rw [hU]; exact (hF.kept hS.2.1).moved hW.alike, hZ.warm hW⟩) dL_law_4 il_L_9 rfl (Nat.le_of_ble_eq_true rfl) (Nat.le_of_ble_eq_true rfl) (Nat.le_of_ble_eq_true rfl) (Nat.le_of_ble_eq_true rfl) (Nat.le_of_ble_eq_true rfl) (fun q h => h) (fun H H1 t' _ e1 hB _ _ => by obtain ⟨σ, b1, b2, b3, b4⟩ := hB; rw [e1] at b4; exact ⟨σ, ⟨b1, b2⟩, b3, b4⟩) ?_
  refine PW.exs (fun σ => ?_)
  refine PW.fact (fun hσ => ?_)
  refine PW.astore_n X (L' := [vR 2, vR 0, vN, vN]) dL_law_7 (Nat.le_of_ble_eq_true rfl) rfl rfl ?_
  refine PW.size (fun y => ?_)
  refine PW.have (P := ∀ k, k < 39 → adc s.heap.size k < y) (fun H h k hk => by rw [← h.2]; exact wsO_size h.1.2 hk) (fun hdis => ?_)
  refine PW.atS (fun hzy => ?_)
  refine PW.to (ad' := adL s.heap.size y b) (I' := fun H => WC D cA s.heap.size σ H ∧ H.size = y) (fun H h => h) rfl rfl ?_
  refine PW.newL X hK kl_L_10 (Nat.le_of_ble_eq_true rfl) (Nat.le_of_ble_eq_true rfl) dL_law_8 (x := 1) rfl stb_C ?_
  refine PW.dup X rfl dL_law_11 ?_
  refine PW.callC (x := 1) (y := y) (I' := fun H => ∃ τ, RepM τ FA ∧ I2 D cA s.heap.size y σ τ H) X (k_X6 l D cA y) (blind6 D cA y) (fun H locs U hI hS hU hW => ⟨by rw [hU]; exact hI.2, va_K.moved hW.alike hK, hN.warm hW⟩) dL_law_12 il_L_12 rfl (Nat.le_of_ble_eq_true rfl) (Nat.le_of_ble_eq_true rfl) (Nat.le_of_ble_eq_true rfl) (Nat.le_of_ble_eq_true rfl) (Nat.le_of_ble_eq_true rfl) (fun q h => by have h1 : y ≤ q := h; show s.heap.size ≤ q; omega) (fun H H1 t' hI e1 hB _ hq => by
    obtain ⟨τ, b1, b2, b3⟩ := hB
    rw [e1] at b3
    refine ⟨τ, b1, ⟨hI.1.1, hI.1.2.kept (fun k x hx => hq x.1 (hI.1.2 k x hx).lt ?_)⟩, b2, b3⟩
    intro hle
    obtain ⟨h0, h2⟩ := wsO_inv hx
    have h1 := hdis k h0
    have h3 : y ≤ x.1 := hle
    omega) ?_
  refine PW.exs (fun τ => ?_)
  refine PW.fact (fun hτ => ?_)
  refine PW.astore_n X (L' := [vR 2, vR 0, vR 1, vN]) dL_law_15 (Nat.le_of_ble_eq_true rfl) rfl rfl ?_
  refine PW.iconst X dL_law_16 ?_
  refine PW.istore_n X (L' := [vR 2, vR 0, vR 1, vI 0]) dL_law_17 (Nat.le_of_ble_eq_true rfl) rfl rfl ?_
  exact lw_loop (z := s.heap.size) (y := y) (D := D) (cA := cA) (len := len) (xs := xs) ⟨X, hK, hN.nws, hX, hbl, rfl, hzy, hdis, hlen⟩ hr hlk 384 0 σ τ FA (by decide) (by omega) hσ.1 hτ (WF_FA hσ.2)

