/-! fields, arrays, calls -/
theorem cw_0 : ∀ w ∈ u_ws RX0 TX0 9, w ∈ lw_tbl := by decide +kernel
theorem cw_1 : ∀ w ∈ u_ws RX1 TX1 10, w ∈ lw_tbl := by decide +kernel
theorem cw_2 : ∀ w ∈ u_ws RX2 TX2 6, w ∈ lw_tbl := by decide +kernel
theorem cw_3 : ∀ w ∈ u_ws RX3 TX3 5, w ∈ lw_tbl := by decide +kernel
theorem cw_4 : ∀ w ∈ u_ws RX4 TX4 3, w ∈ lw_tbl := by decide +kernel
theorem cw_5 : ∀ w ∈ u_ws RX5 TX5 11, w ∈ lw_tbl := by decide +kernel
theorem cw_6 : ∀ w ∈ u_ws RX6 TX6 20, w ∈ lw_tbl := by decide +kernel
theorem u_ws_good (C : String) (T : u_T) (N : Nat) : ∀ w ∈ u_ws C T N, goodWord w = true := by
  intro w hw
  obtain ⟨k, -, rfl⟩ := List.mem_map.mp hw
  unfold u_lay
  split <;> rfl
theorem cw_bw {C : String} {T : u_T} {N : Nat} (h : ∀ w ∈ u_ws C T N, w ∈ lw_tbl) : ∀ w ∈ u_ws C T N, w ∈ BW := fun w hw => List.mem_filter.mpr ⟨h w hw, u_ws_good C T N w hw⟩
def tyT : Nat → Nat → FieldType
  | 0 => tyX0
  | 1 => tyX1
  | 2 => tyX2
  | 3 => tyX3
  | 4 => tyX4
  | 5 => tyX5
  | _ => tyX6
theorem cls_all : ∀ (ci : Nat) (q : vw_C), clsT[ci]? = some q → (∀ w ∈ u_ws q.1 q.2.1 q.2.2, w ∈ BW) ∧ (∀ k, k < q.2.2 → parseFieldDescriptor (q.2.1 k).2.2.1 = some (tyT ci k)) ∧ (∀ a, a < q.2.2 → ∀ b, b < q.2.2 → a ≠ b → (q.2.1 a).2.1 ≠ (q.2.1 b).2.1)
  | 0, q, h => by cases h; exact ⟨cw_bw cw_0, tyX0_ok, nmX0⟩
  | 1, q, h => by cases h; exact ⟨cw_bw cw_1, tyX1_ok, nmX1⟩
  | 2, q, h => by cases h; exact ⟨cw_bw cw_2, tyX2_ok, nmX2⟩
  | 3, q, h => by cases h; exact ⟨cw_bw cw_3, tyX3_ok, nmX3⟩
  | 4, q, h => by cases h; exact ⟨cw_bw cw_4, tyX4_ok, nmX4⟩
  | 5, q, h => by cases h; exact ⟨cw_bw cw_5, tyX5_ok, nmX5⟩
  | 6, q, h => by cases h; exact ⟨cw_bw cw_6, tyX6_ok, nmX6⟩
  | n + 7, q, h => by simp [clsT] at h
def FL (own : String) (idx ci j : Nat) : Prop := ∃ q : vw_C, clsT[ci]? = some q ∧ j < q.2.2 ∧ Cond.fieldLink own idx (q.2.1 j).1 (q.2.1 j).2.1 (q.2.1 j).2.2.1 ∈ BW
def FP (own : String) (idx ci j : Nat) (ty : FieldType) : Prop := ∃ q : vw_C, clsT[ci]? = some q ∧ j < q.2.2 ∧ Cond.fieldLink own idx (q.2.1 j).1 (q.2.1 j).2.1 (q.2.1 j).2.2.1 ∈ BW ∧ (q.2.1 j).2.2.2 = false ∧ parseFieldDescriptor (q.2.1 j).2.2.1 = some ty
section HEA
variable {SH : List shp} {M : mth} {d pc : Nat} {L st : List pv} {σ : Sg} {Q : Option pv → Sg → Prop}
theorem PP.getfV {idx ci c j : Nat} {fs : List (Option Nat)} {o : Option Nat} {v : pv} (hd : decode M.2.1 pc = .ok (.getfield idx, 3)) (hf : FL M.1.cls idx ci j) (hc : SH[c]? = some (.inl (ci, fs))) (hj : fs[j]? = some o) (hv : ∀ ad, toV ad v = fval ad σ c j o) (k : PP SH M d (pc + 3) L (v :: st) σ Q) : PP SH M d pc L (vR c :: st) σ Q := by
  intro p l e s m args below meth cd D ad cA H locs ls X hP hS hR hL
  have kk := k p l e s m args below meth cd D ad cA H locs ls X hP hS hR hL
  obtain ⟨hx, hb, hr, hml, hown, hts, hlk, hK, hI, hN⟩ := id X
  obtain ⟨q, q1, q2, q3⟩ := hf
  refine va_get (D := D) (cl := clsT) (ci := ci) (C := q.1) (T := q.2.1) (N := q.2.2) (v := toV ad v) hx hb hts (fun w hw => wsw_bw ((cls_all ci q q1).1 w hw)) hown hK hP c (wsO_get hc) q1 j q2 (hts _ (wsw_bw q3)) (fun _ h9 => h9) ?_ hd kk
  rw [List.getElem?_mapIdx, hj, hv]
  rfl
theorem PP.getfI {idx ci c j : Nat} {fs : List (Option Nat)} (hd : decode M.2.1 pc = .ok (.getfield idx, 3)) (hf : FL M.1.cls idx ci j) (hc : SH[c]? = some (.inl (ci, fs))) (hj : fs[j]? = some none) (k : PP SH M d (pc + 3) L (vI (σ c j) :: st) σ Q) : PP SH M d pc L (vR c :: st) σ Q :=
  PP.getfV hd hf hc hj (fun _ => rfl) k
theorem PP.getfR {idx ci c j c' : Nat} {fs : List (Option Nat)} (hd : decode M.2.1 pc = .ok (.getfield idx, 3)) (hf : FL M.1.cls idx ci j) (hc : SH[c]? = some (.inl (ci, fs))) (hj : fs[j]? = some (some c')) (k : PP SH M d (pc + 3) L (vR c' :: st) σ Q) : PP SH M d pc L (vR c :: st) σ Q :=
  PP.getfV hd hf hc hj (fun _ => rfl) k
theorem PP.putV {idx ci c j : Nat} {fs : List (Option Nat)} {ty : FieldType} {z : Int} (hd : decode M.2.1 pc = .ok (.putfield idx, 3)) (hf : FP M.1.cls idx ci j ty) (hc : SH[c]? = some (.inl (ci, fs))) (hj : fs[j]? = some none) (hz : R32 z) (hnar : narrow ty (.int (Int32.ofInt z)) = .int (Int32.ofInt z)) (hfit : fits ty (.int (Int32.ofInt z)) = true) (k : PP SH M d (pc + 3) L st (up σ c j z) Q) : PP SH M d pc L (vI z :: vR c :: st) σ Q := by
  intro p l e s m args below meth cd D ad cA H locs ls X hP hS hR hL
  obtain ⟨hx, hb, hr, hml, hown, hts, hlk, hK, hI, hN⟩ := id X
  obtain ⟨q, q1, q2, q3, q4, q5⟩ := hf
  refine va_put (D := D) (cl := clsT) (ci := ci) (C := q.1) (T := q.2.1) (N := q.2.2) (v := .int (Int32.ofInt z)) (ty := ty) hx hb hts (fun w hw => wsw_bw ((cls_all ci q q1).1 w hw)) (tyT ci) (cls_all ci q q1).2.1 (cls_all ci q q1).2.2 hown hK hP (wsO_D hI cA σ) hS c (wsO_get hc) q1 j q2 (hts _ (wsw_bw q3)) (fun _ h9 => h9) q4 q5 hnar hfit (by simp; exact (List.getElem?_eq_some_iff.mp hj).1) hd (fun H1 locs1 hP1 hD1 hS1 => ?_)
  rw [wsO_putf (ad := ad) (cA := cA) (σ := σ) (z := z) hc hj] at hP1
  exact k p l e s m args below meth cd D ad cA H1 locs1 ls X hP1 hS1 (RG_up hR hz) hL
theorem PP.putI {idx ci c j : Nat} {fs : List (Option Nat)} {z : Int} (hd : decode M.2.1 pc = .ok (.putfield idx, 3)) (hf : FP M.1.cls idx ci j .int) (hc : SH[c]? = some (.inl (ci, fs))) (hj : fs[j]? = some none) (hz : R32 z) (k : PP SH M d (pc + 3) L st (up σ c j z) Q) : PP SH M d pc L (vI z :: vR c :: st) σ Q :=
  PP.putV hd hf hc hj hz rfl rfl k
theorem PP.putZ {idx ci c j : Nat} {fs : List (Option Nat)} {z : Int} (hd : decode M.2.1 pc = .ok (.putfield idx, 3)) (hf : FP M.1.cls idx ci j .boolean) (hc : SH[c]? = some (.inl (ci, fs))) (hj : fs[j]? = some none) (hz : z = 0 ∨ z = 1) (k : PP SH M d (pc + 3) L st (up σ c j z) Q) : PP SH M d pc L (vI z :: vR c :: st) σ Q :=
  PP.putV hd hf hc hj (by rcases hz with rfl | rfl <;> exact ⟨by decide, by decide⟩) (by rcases hz with rfl | rfl <;> rfl) (by rcases hz with rfl | rfl <;> rfl) k
theorem PP.iaload {c n : Nat} {i : Int} (hc : SH[c]? = some (.inr n)) (hn : n < 2147483648) (h0 : 0 ≤ i) (h1 : i < n) (hd : decode M.2.1 pc = .ok (.iaload, 1)) (k : PP SH M d (pc + 1) L (vI (σ c i.toNat) :: st) σ Q) : PP SH M d pc L (vI i :: vR c :: st) σ Q := by
  intro p l e s m args below meth cd D ad cA H locs ls X hP hS hR hL
  have kk := k p l e s m args below meth cd D ad cA H locs ls X hP hS hR hL
  obtain ⟨hx, hb, hr, hml, hown, hts, hlk, hK, hI, hN⟩ := id X
  refine va_iald (D := D) (cl := clsT) hx hb hK hP c 0 (wsO_get hc) rfl (vp_in_of_int h0 h1 hn) hd ?_
  rw [clamp_of_int h0 (by omega)]
  exact kk
theorem PP.iastore {c n : Nat} {i z : Int} (hc : SH[c]? = some (.inr n)) (hn : n < 2147483648) (h0 : 0 ≤ i) (h1 : i < n) (hz : R32 z) (hd : decode M.2.1 pc = .ok (.iastore, 1)) (k : PP SH M d (pc + 1) L st (up σ c i.toNat z) Q) : PP SH M d pc L (vI z :: vI i :: vR c :: st) σ Q := by
  intro p l e s m args below meth cd D ad cA H locs ls X hP hS hR hL
  obtain ⟨hx, hb, hr, hml, hown, hts, hlk, hK, hI, hN⟩ := id X
  refine va_iast (D := D) (cl := clsT) hx hb hK hP (wsO_D hI cA σ) hS c 0 (wsO_get hc) rfl (vp_in_of_int h0 h1 hn) hd (fun H1 locs1 hP1 hD1 hS1 => ?_)
  rw [clamp_of_int h0 (by omega), wsO_arr hc] at hP1
  exact k p l e s m args below meth cd D ad cA H1 locs1 ls X hP1 hS1 (RG_up hR hz) hL
theorem PP.alen {c n : Nat} (hc : SH[c]? = some (.inr n)) (hd : decode M.2.1 pc = .ok (.arraylength, 1)) (k : PP SH M d (pc + 1) L (vI (n : Int) :: st) σ Q) : PP SH M d pc L (vR c :: st) σ Q := by
  intro p l e s m args below meth cd D ad cA H locs ls X hP hS hR hL
  have kk := k p l e s m args below meth cd D ad cA H locs ls X hP hS hR hL
  obtain ⟨hx, hb, hr, hml, hown, hts, hlk, hK, hI, hN⟩ := id X
  exact va_alen (D := D) (cl := clsT) hx hb hK hP c 0 (wsO_get hc) rfl (v := Int32.ofInt (n : Int)) (Int32.ofInt_eq_ofNat).symm hd kk
def SC (own : String) (idx : Nat) : Prop := Cond.methodLink own idx arraycopyName ∈ BW ∧ Cond.native arraycopyName ∈ BW ∧ Cond.static arraycopyName ∈ BW ∧ Cond.initialized "java/lang/System" ∈ BW
theorem PP.acopy {idx c0 c1 n0 n1 : Nat} {sp dp n : Int} (hd : decode M.2.1 pc = .ok (.invokestatic idx, 3)) (hw : SC M.1.cls idx) (hc0 : SH[c0]? = some (.inr n0)) (hc1 : SH[c1]? = some (.inr n1)) (hn0 : n0 < 2147483648) (hn1 : n1 < 2147483648) (h1 : 0 ≤ sp) (h2 : 0 ≤ dp) (h3 : 0 ≤ n) (h4 : sp + n ≤ n0) (h5 : dp + n ≤ n1) (hst : st.length ≤ 4) (hdd : 1 ≤ d) (k : PP SH M d (pc + 3) L st (cpy σ c0 c1 sp.toNat dp.toNat n.toNat) Q) : PP SH M d pc L (vI n :: vI dp :: vR c1 :: vI sp :: vR c0 :: st) σ Q := by
  intro p l e s m args below meth cd D ad cA H locs ls X hP hS hR hL
  obtain ⟨hx, hb, hr, hml, hown, hts, hlk, hK, hI, hN⟩ := id X
  obtain ⟨w1, w2, w3, w4⟩ := hw
  have hcat : (List.map (fun v => v.category) (List.map (toV ad) st)).sum ≤ 8 := by
    have : ∀ st : List pv, (List.map (fun v => v.category) (List.map (toV ad) st)).sum ≤ 2 * st.length := by
      intro st
      induction st with
      | nil => simp
      | cons v st ih =>
        simp only [List.map_cons, List.sum_cons, List.length_cons]
        rcases lv_cat (toV ad v) with h | h <;> omega
    have := this st
    omega
  have nl : ∀ z : Int, 0 ≤ z → z < 2147483648 → ¬ Int32.ofInt z < 0 := fun z g1 g2 q => by
    rw [← of0] at q
    have := (i32lt (x := z) (y := 0) ⟨by omega, by omega⟩ R32_0).mp q
    omega
  have hfr : 1 ≤ (rmd d).frames := hdd
  have hlo : (List.map (fun v => v.category) (List.map (toV ad) st)).sum + (nativeFrameWords "java/lang/System" "arraycopy" 5 + 11) ≤ (rmd d).locals := by
    have h7 : nativeFrameWords "java/lang/System" "arraycopy" 5 = 7 := by decide
    show _ ≤ 64 * d
    omega
  refine va_copyi (D := D) (cl := clsT) (ws := wsO SH ad cA σ) (a := ad c1) (a0 := ad c0) (sp := Int32.ofInt sp) (dp := Int32.ofInt dp) (n := Int32.ofInt n) hx hb (by rw [hml, hL.size]) hown (hts _ (wsw_bw w1)) (hts _ (wsw_bw w2)) (hts _ (wsw_bw w3)) (hts _ (wsw_bw w4)) hK hP (wsO_D hI cA σ) hS c0 c1 0 0 (wsO_get hc0) (wsO_get hc1) rfl rfl rfl (nl sp h1 (by omega)) (nl dp h2 (by omega)) (nl n h3 (by omega)) (by rw [clamp_of_int h1 (by omega), clamp_of_int h3 (by omega)]; omega) (by rw [clamp_of_int h2 (by omega), clamp_of_int h3 (by omega)]; omega) (fun _ _ => rfl) hfr hlo hd (fun H1 locs1 hP1 hD1 hS1 => ?_)
  rw [clamp_of_int h1 (by omega), clamp_of_int h2 (by omega), clamp_of_int h3 (by omega), wsO_cpy hc1] at hP1
  exact k p l e s m args below meth cd D ad cA H1 locs1 ls X hP1 hS1 (RG_cpy hR) hL
end HEA
