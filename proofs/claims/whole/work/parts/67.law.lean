/-! the law's loop: two objects side by side -/
def adL (z y b : Nat) : Nat → Nat := fun c => if c = 0 then z else if c = 1 then y else b
def xv (xs : Nat → Int32) (j : Nat) : Int := (xs j).toInt
theorem xv_of (xs : Nat → Int32) (j : Nat) : Int32.ofInt (xv xs j) = xs j := Int32.ofInt_toInt (xs j)
theorem xv_r (xs : Nat → Int32) (j : Nat) : R32 (xv xs j) := by
  have h1 := Int32.le_toInt (xs j)
  have h2 := Int32.toInt_lt (xs j)
  unfold xv R32
  omega
def LC (p : Program) (s : State) (m : MethodId) (args : Array Value) (c : Code) (D : va_G) (cA : ClassId) (z y b len : Nat) (xs : Nat → Int32) : Prop :=
  CG RL code 4 p s m args c ∧ va_K D clsT [(cA, .int)] s ∧ NWs s ∧ va_X b len xs s s.heap ∧ b < s.heap.size ∧ s.heap.size = z ∧ z ≤ y ∧ (∀ k, k < 39 → adc z k < y) ∧ len ≤ 384
def WC (D : va_G) (cA : ClassId) (z : Nat) (σ : Sg) (H : Heap) : Prop := RG σ ∧ va_P D clsT (wsO SHc (adc z) cA σ) H
def WM (D : va_G) (cA : ClassId) (y : Nat) (τ : Sg) (H : Heap) : Prop := RG τ ∧ va_P D clsT (wsO SHm (zd y) cA τ) H
def I2 (D : va_G) (cA : ClassId) (z y : Nat) (σ τ : Sg) (H : Heap) : Prop := WC D cA z σ H ∧ WM D cA y τ H
abbrev LW (p : Program) (l : Launch) (e : Env) (s : State) (m : MethodId) (args : Array Value) (below : List Frame) (meth : Method) (c : Code) (D : va_G) (cA : ClassId) (z y b : Nat) (Qf : State → Prop) (i pc : Nat) (σ τ : Sg) (st : List pv) : Prop :=
  PW p l e room_1 s m args below meth c (adL z y b) (AZ z) Qf 4 (I2 D cA z y σ τ) 54 1210 pc [vR 2, vR 0, vR 1, vI (i : Int)] st
theorem off_M {D : va_G} {cA : ClassId} {z y : Nat} {τ : Sg} (h : ∀ k, k < 39 → adc z k < y) : off SHc (adc z) (WM D cA y τ) := by
  intro H H1 hJ _ hq
  refine ⟨hJ.1, hJ.2.kept (fun k x hx => hq x.1 (hJ.2 k x hx).lt ?_)⟩
  rintro ⟨c', hc', e⟩
  have h1 := h c' hc'
  have h2 : x.1 = y + k := (wsO_inv hx).2
  omega
theorem off_C {D : va_G} {cA : ClassId} {z y : Nat} {σ : Sg} (h : ∀ k, k < 39 → adc z k < y) : off SHm (zd y) (WC D cA z σ) := by
  intro H H1 hJ _ hq
  refine ⟨hJ.1, hJ.2.kept (fun k x hx => hq x.1 (hJ.2 k x hx).lt ?_)⟩
  rintro ⟨c', hc', e⟩
  obtain ⟨h0, h2⟩ := wsO_inv hx
  have h1 := h k h0
  have e2 : x.1 = y + c' := e
  omega
section LAWR
variable {p : Program} {l : Launch} {e : Env} {s : State} {m : MethodId} {args : Array Value} {below : List Frame} {meth : Method} {c : Code} {D : va_G} {cA : ClassId} {z y b len : Nat} {xs : Nat → Int32} {Qf : State → Prop} {i pc : Nat} {σ τ : Sg} {st st0 : List pv}
theorem PW.icmp_same {R : Room} {ad : Nat → Nat} {A : Nat → Prop} {nL : Nat} {I : Heap → Prop} {n t : Nat} {L : List pv} {own : String} {cc : ByteArray} (X : CG own cc nL p s m args c) {x : Int} {off : Int} {tgt : Nat} (hd : decode cc pc = .ok (.if_icmp .eq off, 3)) (ht : (pc : Int) + off = (tgt : Int)) (k : PW p l e R s m args below meth c ad A Qf nL I n t tgt L st) : PW p l e R s m args below meth c ad A Qf nL I n t pc L (vI x :: vI x :: st) := by
  intro H locs ls hI hS hL
  obtain ⟨hx, hb, hml, hown, hts⟩ := X
  exact lv_icmp_eq hx hb hd ht (fun _ => k H locs ls hI hS hL) (fun h => absurd rfl h)
theorem PW.tabI {R : Room} {ad : Nat → Nat} {A : Nat → Prop} {nL : Nat} {I : Heap → Prop} {n t : Nat} {L : List pv} {own : String} {cc : ByteArray} (X : CG own cc nL p s m args c) {dflt lo hi : Int} {offs : Array Int} {ln j : Nat} {x off : Int} {tgt : Nat} (h1 : x = lo + (j : Int)) (h2 : x ≤ hi) (ho : offs[j]? = some off) (hx0 : R32 x) (hd : decode cc pc = .ok (.tableswitch dflt lo hi offs, ln)) (ht : (pc : Int) + off = (tgt : Int)) (k : PW p l e R s m args below meth c ad A Qf nL I n t tgt L st) : PW p l e R s m args below meth c ad A Qf nL I n t pc L (vI x :: st) := by
  intro H locs ls hI hS hL
  obtain ⟨hx, hb, hml, hown, hts⟩ := X
  exact lv_tableIn hx hb hd (by rw [t32 hx0]; omega) (by rw [t32 hx0]; omega) (by rw [t32 hx0]; rw [show (x - lo).toNat = j by omega]; exact ho) ht (k H locs ls hI hS hL)
theorem PW.tabO {R : Room} {ad : Nat → Nat} {A : Nat → Prop} {nL : Nat} {I : Heap → Prop} {n t : Nat} {L : List pv} {own : String} {cc : ByteArray} (X : CG own cc nL p s m args c) {dflt lo hi : Int} {offs : Array Int} {ln : Nat} {x : Int} {tgt : Nat} (h : x < lo ∨ hi < x) (hx0 : R32 x) (hd : decode cc pc = .ok (.tableswitch dflt lo hi offs, ln)) (ht : (pc : Int) + dflt = (tgt : Int)) (k : PW p l e R s m args below meth c ad A Qf nL I n t tgt L st) : PW p l e R s m args below meth c ad A Qf nL I n t pc L (vI x :: st) := by
  intro H locs ls hI hS hL
  obtain ⟨hx, hb, hml, hown, hts⟩ := X
  exact lv_tableOut hx hb hd (by rw [t32 hx0]; exact h) ht (k H locs ls hI hS hL)
theorem LW.sld (C : LC p s m args c D cA z y b len xs) {j : Nat} (hj : j < len) (hd : decode code pc = .ok (.iaload, 1)) (k : LW p l e s m args below meth c D cA z y b Qf i (pc + 1) σ τ (vI (xv xs j) :: st)) : LW p l e s m args below meth c D cA z y b Qf i pc σ τ (vI (j : Int) :: vR 2 :: st) := by
  intro H locs ls hI hS hL
  obtain ⟨⟨hx, hb, hml, hown, hts⟩, hK, hN, hX, hbl, hz, hzy, hdis, hlen⟩ := C
  have kk := k H locs ls hI hS hL
  have hA : ¬ AZ z b := fun h => by have : z ≤ b := h; omega
  have h0 : (0 : Int) ≤ (j : Int) := by omega
  have h1 : (j : Int) < (len : Int) := by omega
  refine va_sld hx hb hX hbl hA hS (i := Int32.ofInt (j : Int)) (vp_in_of_int h0 h1 (by omega)) hd ?_
  rw [clamp_of_int h0 (by omega), Int.toNat_natCast, ← xv_of xs j]
  exact kk
theorem LW.slen (C : LC p s m args c D cA z y b len xs) (hd : decode code pc = .ok (.arraylength, 1)) (k : LW p l e s m args below meth c D cA z y b Qf i (pc + 1) σ τ (vI (len : Int) :: st)) : LW p l e s m args below meth c D cA z y b Qf i pc σ τ (vR 2 :: st) := by
  intro H locs ls hI hS hL
  obtain ⟨⟨hx, hb, hml, hown, hts⟩, hK, hN, hX, hbl, hz, hzy, hdis, hlen⟩ := C
  have kk := k H locs ls hI hS hL
  have hA : ¬ AZ z b := fun h => by have : z ≤ b := h; omega
  refine va_slen hx hb hX hbl hA hS hd ?_
  rw [← Int32.ofInt_eq_ofNat]
  exact kk
theorem LW.arg (C : LC p s m args c D cA z y b len xs) (hi : i + 5 < len) {j : Nat} {kz : Int} (hj : j ≤ 5) (hkz : kz = (j : Int)) (d0 : decode code pc = .ok (.aload_n 0, 1)) (d1 : decode code (pc + 1) = .ok (.iload_n 3, 1)) (d2 : decode code (pc + 2) = .ok (.iconst kz, 1)) (d3 : decode code (pc + 3) = .ok (.iadd, 1)) (d4 : decode code (pc + 4) = .ok (.iaload, 1)) (k : LW p l e s m args below meth c D cA z y b Qf i (pc + 5) σ τ (vI (xv xs (i + j)) :: st)) : LW p l e s m args below meth c D cA z y b Qf i pc σ τ st := by
  subst hkz
  refine PW.aload_n C.1 d0 rfl ?_
  refine PW.iload_n C.1 d1 rfl ?_
  refine PW.iconst C.1 d2 ?_
  refine PW.iadd C.1 d3 ?_
  refine PW.eqv (y := ((i + j : Nat) : Int)) (by omega) ?_
  exact LW.sld C (by omega) d4 k
theorem LW.callX (C : LC p s m args c D cA z y b len xs) {N : mth} {k idx : Nat} {vs : List pv} {Φ : Int → Sg → Prop} (hok : OK SHc N 20 (vR 0 :: vs) σ (RP Φ)) (hd : decode code pc = .ok (.invokevirtual idx, 3)) (hw : VL RL idx N k) (hcl : RX5 = N.1.cls) (hvs : vs.map (toV (adc z)) = vs.map (toV (adL z y b))) (hs : st0 = vs.reverse ++ vR 0 :: st) (hn : vs.length = k) (hst : st.length ≤ 4) (kk : ∀ v σ', Φ v σ' → LW p l e s m args below meth c D cA z y b Qf i (pc + 3) σ' τ (vI v :: st)) : LW p l e s m args below meth c D cA z y b Qf i pc σ τ st0 := by
  obtain ⟨X, hK, hN, hX, hbl, hz, hzy, hdis, hlen⟩ := C
  refine PW.to (ad' := adL z y b) (I' := IO D cA SHc (adc z) σ (WM D cA y τ)) (fun H h => ⟨h.1.1, h.1.2, h.2⟩) rfl rfl ?_
  refine PW.callOK X hK hN (injc z) (asC z) (off_M hdis) (y := 0) (As := vs) hok hd hw sc0 rfl hcl ?_ (fun r σ' h => by obtain ⟨v, rfl, -⟩ := h; rfl) hs hn hst (Nat.le_of_ble_eq_true rfl) (Nat.le_of_ble_eq_true rfl) (Nat.le_of_ble_eq_true rfl) (Nat.le_of_ble_eq_true rfl) (fun r σ' h => ?_)
  · rw [List.map_cons, List.map_cons, hvs]
    rfl
  · obtain ⟨v, rfl, hv⟩ := h
    exact PW.to (fun H h => ⟨⟨h.1, h.2.1⟩, h.2.2⟩) rfl rfl (kk v σ' hv)
theorem LW.callM (C : LC p s m args c D cA z y b len xs) {N : mth} {k idx : Nat} {vs : List pv} {Φ : Int → Sg → Prop} (hok : OK SHm N 20 (vR 0 :: vs) τ (RP Φ)) (hd : decode code pc = .ok (.invokevirtual idx, 3)) (hw : VL RL idx N k) (hcl : RX6 = N.1.cls) (hvs : vs.map (toV (zd y)) = vs.map (toV (adL z y b))) (hs : st0 = vs.reverse ++ vR 1 :: st) (hn : vs.length = k) (hst : st.length ≤ 4) (kk : ∀ v τ', Φ v τ' → LW p l e s m args below meth c D cA z y b Qf i (pc + 3) σ τ' (vI v :: st)) : LW p l e s m args below meth c D cA z y b Qf i pc σ τ st0 := by
  obtain ⟨X, hK, hN, hX, hbl, hz, hzy, hdis, hlen⟩ := C
  refine PW.to (ad' := adL z y b) (I' := IO D cA SHm (zd y) τ (WC D cA z σ)) (fun H h => ⟨h.2.1, h.2.2, h.1⟩) rfl rfl ?_
  refine PW.callOK X hK hN (injm y) (fun q h => by have h1 : y ≤ q := asm y q h; show z ≤ q; omega) (off_C hdis) (y := 1) (As := vs) hok hd hw sm0 rfl hcl ?_ (fun r σ' h => by obtain ⟨v, rfl, -⟩ := h; rfl) hs hn hst (Nat.le_of_ble_eq_true rfl) (Nat.le_of_ble_eq_true rfl) (Nat.le_of_ble_eq_true rfl) (Nat.le_of_ble_eq_true rfl) (fun r σ' h => ?_)
  · rw [List.map_cons, List.map_cons, hvs]
    rfl
  · obtain ⟨v, rfl, hv⟩ := h
    exact PW.to (fun H h => ⟨h.2.2, h.1, h.2.1⟩) rfl rfl (kk v σ' hv)
end LAWR

