theorem fb_bmodx {z : Int} (h1 : -2147483648 ≤ z) (h2 : z < 2147483648) : z.bmod (2 ^ 32) = z := by
  apply Int.bmod_eq_of_le <;> omega
theorem fb_bmody {z : Int} (h1 : -9223372036854775808 ≤ z) (h2 : z < 9223372036854775808) : z.bmod (2 ^ 64) = z := by
  apply Int.bmod_eq_of_le <;> omega
theorem l2i_of (x : Int) : (Int64.ofInt x).toInt32 = Int32.ofInt x := by
  rw [← Int32.toInt_inj, Int64.toInt_toInt32, Int64.toInt_ofInt, Int32.toInt_ofInt]
  rw [Int.bmod_bmod_of_dvd]
  decide
theorem idiv_of {x y : Int} (h0 : 0 ≤ x) (h1 : x < 2147483648) (h2 : 0 < y) (h3 : y < 2147483648) : Int32.ofInt x / Int32.ofInt y = Int32.ofInt (x / y) := by
  have e1 : Int32.ofInt x = nI x.toNat := by show _ = Int32.ofNat _; rw [← Int32.ofInt_eq_ofNat]; congr 1; omega
  have e2 : Int32.ofInt y = nI y.toNat := by show _ = Int32.ofNat _; rw [← Int32.ofInt_eq_ofNat]; congr 1; omega
  rw [e1, e2, pk_div (by omega) (by omega) (by omega)]
  show Int32.ofNat _ = _
  rw [← Int32.ofInt_eq_ofNat]
  congr 1
  rw [Int.natCast_ediv]
  congr 1 <;> omega
theorem ldiv_of {x y : Int} (h0 : 0 ≤ x) (h1 : x < 9223372036854775808) (h2 : 0 < y) (h3 : y < 9223372036854775808) : Int64.ofInt x / Int64.ofInt y = Int64.ofInt (x / y) := by
  have e1 : Int64.ofInt x = lN x.toNat := by show _ = Int64.ofNat _; rw [← Int64.ofInt_eq_ofNat]; congr 1; omega
  have e2 : Int64.ofInt y = lN y.toNat := by show _ = Int64.ofNat _; rw [← Int64.ofInt_eq_ofNat]; congr 1; omega
  rw [e1, e2, pk_lDiv (by omega) (by omega) (by omega)]
  show Int64.ofNat _ = _
  rw [← Int64.ofInt_eq_ofNat]
  congr 1
  rw [Int.natCast_ediv]
  congr 1 <;> omega
theorem t32 {z : Int} (h : R32 z) : (Int32.ofInt z).toInt = z := by
  rw [Int32.toInt_ofInt]; exact fb_bmodx h.1 h.2
theorem t64 {z : Int} (h : -9223372036854775808 ≤ z ∧ z < 9223372036854775808) : (Int64.ofInt z).toInt = z := by
  rw [Int64.toInt_ofInt]; exact fb_bmody h.1 h.2
theorem i32lt {x y : Int} (hx : R32 x) (hy : R32 y) : Int32.ofInt x < Int32.ofInt y ↔ x < y := by rw [Int32.lt_iff_toInt_lt, t32 hx, t32 hy]
theorem i32le {x y : Int} (hx : R32 x) (hy : R32 y) : Int32.ofInt x ≤ Int32.ofInt y ↔ x ≤ y := by rw [Int32.le_iff_toInt_le, t32 hx, t32 hy]
theorem i32eq {x y : Int} (hx : R32 x) (hy : R32 y) : Int32.ofInt x = Int32.ofInt y ↔ x = y := by rw [← Int32.toInt_inj, t32 hx, t32 hy]
theorem R32_0 : R32 0 := ⟨by decide, by decide⟩
theorem of0 : Int32.ofInt 0 = 0 := rfl
theorem vp_in_of_int {z : Int} {n : Nat} (h0 : 0 ≤ z) (h1 : z < n) (hn : n < 2147483648) : vp_in (Int32.ofInt z) n := by
  rw [vp_in_iff, t32 ⟨by omega, by omega⟩]; exact ⟨h0, h1⟩
theorem clamp_of_int {z : Int} (h0 : 0 ≤ z) (h1 : z < 2147483648) : (Int32.ofInt z).toNatClampNeg = z.toNat := by
  show (Int32.ofInt z).toInt.toNat = _
  rw [t32 ⟨by omega, by omega⟩]
section RUL
variable {SH : List shp} {M : mth} {d pc : Nat} {L st : List pv} {σ : Sg} {Q : Option pv → Sg → Prop}
theorem PP.iconst {n : Int} (hd : decode M.2.1 pc = .ok (.iconst n, 1)) (k : PP SH M d (pc + 1) L (vI n :: st) σ Q) : PP SH M d pc L (st) σ Q := by
  intro p l e s m args below meth c D ad cA H locs ls X hP hS hR hL
  have kk := k p l e s m args below meth c D ad cA H locs ls X hP hS hR hL
  obtain ⟨hx, hb, hr, hml, hown, hts, hlk, hK, hI, hN⟩ := id X
  exact lv_iconst hx hb hd rfl kk
theorem PP.bipush {n : Int} (hd : decode M.2.1 pc = .ok (.bipush n, 2)) (hn : (Int8.ofInt n).toInt32 = Int32.ofInt n) (k : PP SH M d (pc + 2) L (vI n :: st) σ Q) : PP SH M d pc L st σ Q := by
  intro p l e s m args below meth c D ad cA H locs ls X hP hS hR hL
  have kk := k p l e s m args below meth c D ad cA H locs ls X hP hS hR hL
  obtain ⟨hx, hb, hr, hml, hown, hts, hlk, hK, hI, hN⟩ := id X
  exact lv_bipush hx hb hd hn kk
theorem PP.sipush {n : Int} (hd : decode M.2.1 pc = .ok (.sipush n, 3)) (hn : (Int16.ofInt n).toInt32 = Int32.ofInt n) (k : PP SH M d (pc + 3) L (vI n :: st) σ Q) : PP SH M d pc L st σ Q := by
  intro p l e s m args below meth c D ad cA H locs ls X hP hS hR hL
  have kk := k p l e s m args below meth c D ad cA H locs ls X hP hS hR hL
  obtain ⟨hx, hb, hr, hml, hown, hts, hlk, hK, hI, hN⟩ := id X
  exact lv_sipush hx hb hd hn kk
theorem PP.lconst {n : Fin 2} {z : Int} (hd : decode M.2.1 pc = .ok (.lconst n, 1)) (hn : Int64.ofNat (n : Nat) = Int64.ofInt z) (k : PP SH M d (pc + 1) L (vL z :: st) σ Q) : PP SH M d pc L st σ Q := by
  intro p l e s m args below meth c D ad cA H locs ls X hP hS hR hL
  have kk := k p l e s m args below meth c D ad cA H locs ls X hP hS hR hL
  obtain ⟨hx, hb, hr, hml, hown, hts, hlk, hK, hI, hN⟩ := id X
  exact lv_lconst hx hb hd hn kk
theorem PP.ldc2 {idx : Nat} {z : Int} (hd : decode M.2.1 pc = .ok (.ldc2_w idx, 3)) (hw : Cond.constantLong M.1.cls idx (Int64.ofInt z) ∈ BW) (k : PP SH M d (pc + 3) L (vL z :: st) σ Q) : PP SH M d pc L st σ Q := by
  intro p l e s m args below meth c D ad cA H locs ls X hP hS hR hL
  have kk := k p l e s m args below meth c D ad cA H locs ls X hP hS hR hL
  obtain ⟨hx, hb, hr, hml, hown, hts, hlk, hK, hI, hN⟩ := id X
  exact lv_ldc2 hx hb hown (hts _ (wsw_bw hw)) hd kk
theorem PP.ldcw {idx : Nat} {z : Int} (hd : decode M.2.1 pc = .ok (.ldc_w idx, 3)) (hw : Cond.constant M.1.cls idx (Int32.ofInt z) ∈ BW) (k : PP SH M d (pc + 3) L (vI z :: st) σ Q) : PP SH M d pc L st σ Q := by
  intro p l e s m args below meth c D ad cA H locs ls X hP hS hR hL
  have kk := k p l e s m args below meth c D ad cA H locs ls X hP hS hR hL
  obtain ⟨hx, hb, hr, hml, hown, hts, hlk, hK, hI, hN⟩ := id X
  exact lv_ldcw hx hb hown (hts _ (wsw_bw hw)) hd kk
theorem PP.iload_n {j : Fin 4} {x : Int} (hd : decode M.2.1 pc = .ok (.iload_n j, 1)) (hl : L[j.val]? = some (vI x)) (k : PP SH M d (pc + 1) L (vI x :: st) σ Q) : PP SH M d pc L st σ Q := by
  intro p l e s m args below meth c D ad cA H locs ls X hP hS hR hL
  have kk := k p l e s m args below meth c D ad cA H locs ls X hP hS hR hL
  obtain ⟨hx, hb, hr, hml, hown, hts, hlk, hK, hI, hN⟩ := id X
  exact lv_iload_n hx hb hd rfl (hL.at hl rfl) kk
theorem PP.iload {j : Nat} {x : Int} (hd : decode M.2.1 pc = .ok (.iload j, 2)) (hl : L[j]? = some (vI x)) (k : PP SH M d (pc + 2) L (vI x :: st) σ Q) : PP SH M d pc L st σ Q := by
  intro p l e s m args below meth c D ad cA H locs ls X hP hS hR hL
  have kk := k p l e s m args below meth c D ad cA H locs ls X hP hS hR hL
  obtain ⟨hx, hb, hr, hml, hown, hts, hlk, hK, hI, hN⟩ := id X
  exact lv_iload hx hb hd (hL.at hl rfl) kk
theorem PP.lload_n {j : Fin 4} {x : Int} (hd : decode M.2.1 pc = .ok (.lload_n j, 1)) (hl : L[j.val]? = some (vL x)) (k : PP SH M d (pc + 1) L (vL x :: st) σ Q) : PP SH M d pc L st σ Q := by
  intro p l e s m args below meth c D ad cA H locs ls X hP hS hR hL
  have kk := k p l e s m args below meth c D ad cA H locs ls X hP hS hR hL
  obtain ⟨hx, hb, hr, hml, hown, hts, hlk, hK, hI, hN⟩ := id X
  exact lv_lload_n hx hb hd rfl (hL.at hl rfl) kk
theorem PP.lload {j : Nat} {x : Int} (hd : decode M.2.1 pc = .ok (.lload j, 2)) (hl : L[j]? = some (vL x)) (k : PP SH M d (pc + 2) L (vL x :: st) σ Q) : PP SH M d pc L st σ Q := by
  intro p l e s m args below meth c D ad cA H locs ls X hP hS hR hL
  have kk := k p l e s m args below meth c D ad cA H locs ls X hP hS hR hL
  obtain ⟨hx, hb, hr, hml, hown, hts, hlk, hK, hI, hN⟩ := id X
  exact lv_lload hx hb hd (hL.at hl rfl) kk
theorem PP.aload_n {j : Fin 4} {x : Nat} (hd : decode M.2.1 pc = .ok (.aload_n j, 1)) (hl : L[j.val]? = some (vR x)) (k : PP SH M d (pc + 1) L (vR x :: st) σ Q) : PP SH M d pc L st σ Q := by
  intro p l e s m args below meth c D ad cA H locs ls X hP hS hR hL
  have kk := k p l e s m args below meth c D ad cA H locs ls X hP hS hR hL
  obtain ⟨hx, hb, hr, hml, hown, hts, hlk, hK, hI, hN⟩ := id X
  exact lv_aload_n hx hb hd rfl (hL.at hl rfl) kk
theorem PP.aload {j : Nat} {x : Nat} (hd : decode M.2.1 pc = .ok (.aload j, 2)) (hl : L[j]? = some (vR x)) (k : PP SH M d (pc + 2) L (vR x :: st) σ Q) : PP SH M d pc L st σ Q := by
  intro p l e s m args below meth c D ad cA H locs ls X hP hS hR hL
  have kk := k p l e s m args below meth c D ad cA H locs ls X hP hS hR hL
  obtain ⟨hx, hb, hr, hml, hown, hts, hlk, hK, hI, hN⟩ := id X
  exact lv_aload hx hb hd (hL.at hl rfl) kk
theorem PP.istore_n {j : Fin 4} {x : Int} {L' : List pv} (hd : decode M.2.1 pc = .ok (.istore_n j, 1)) (hi : j.val < L.length) (hn : nol L j.val = true) (hl : L.set j.val (vI x) = L') (k : PP SH M d (pc + 1) L' st σ Q) : PP SH M d pc L (vI x :: st) σ Q := by
  subst hl
  intro p l e s m args below meth c D ad cA H locs ls X hP hS hR hL
  have kk := fun ls' hL' => k p l e s m args below meth c D ad cA H locs ls' X hP hS hR hL'
  obtain ⟨hx, hb, hr, hml, hown, hts, hlk, hK, hI, hN⟩ := id X
  obtain ⟨lv, lv', a1, a2, a3, a4⟩ := hL.store (v := vI x) rfl hi hn
  exact lv_istore_n hx hb hd rfl a1 a2 a3 (fun ls' h' => kk ls' (a4 ls' h'))
theorem PP.istore {j : Nat} {x : Int} {L' : List pv} (hd : decode M.2.1 pc = .ok (.istore j, 2)) (hi : j < L.length) (hn : nol L j = true) (hl : L.set j (vI x) = L') (k : PP SH M d (pc + 2) L' st σ Q) : PP SH M d pc L (vI x :: st) σ Q := by
  subst hl
  intro p l e s m args below meth c D ad cA H locs ls X hP hS hR hL
  have kk := fun ls' hL' => k p l e s m args below meth c D ad cA H locs ls' X hP hS hR hL'
  obtain ⟨hx, hb, hr, hml, hown, hts, hlk, hK, hI, hN⟩ := id X
  obtain ⟨lv, lv', a1, a2, a3, a4⟩ := hL.store (v := vI x) rfl hi hn
  exact lv_istore hx hb hd a1 a2 a3 (fun ls' h' => kk ls' (a4 ls' h'))
theorem PP.astore_n {j : Fin 4} {x : Nat} {L' : List pv} (hd : decode M.2.1 pc = .ok (.astore_n j, 1)) (hi : j.val < L.length) (hn : nol L j.val = true) (hl : L.set j.val (vR x) = L') (k : PP SH M d (pc + 1) L' st σ Q) : PP SH M d pc L (vR x :: st) σ Q := by
  subst hl
  intro p l e s m args below meth c D ad cA H locs ls X hP hS hR hL
  have kk := fun ls' hL' => k p l e s m args below meth c D ad cA H locs ls' X hP hS hR hL'
  obtain ⟨hx, hb, hr, hml, hown, hts, hlk, hK, hI, hN⟩ := id X
  obtain ⟨lv, lv', a1, a2, a3, a4⟩ := hL.store (v := vR x) rfl hi hn
  exact lv_astore_n hx hb hd rfl a1 a2 a3 (fun ls' h' => kk ls' (a4 ls' h'))
theorem PP.astore {j : Nat} {x : Nat} {L' : List pv} (hd : decode M.2.1 pc = .ok (.astore j, 2)) (hi : j < L.length) (hn : nol L j = true) (hl : L.set j (vR x) = L') (k : PP SH M d (pc + 2) L' st σ Q) : PP SH M d pc L (vR x :: st) σ Q := by
  subst hl
  intro p l e s m args below meth c D ad cA H locs ls X hP hS hR hL
  have kk := fun ls' hL' => k p l e s m args below meth c D ad cA H locs ls' X hP hS hR hL'
  obtain ⟨hx, hb, hr, hml, hown, hts, hlk, hK, hI, hN⟩ := id X
  obtain ⟨lv, lv', a1, a2, a3, a4⟩ := hL.store (v := vR x) rfl hi hn
  exact lv_astore hx hb hd a1 a2 a3 (fun ls' h' => kk ls' (a4 ls' h'))
theorem PP.lstore_n {j : Fin 4} {x : Int} {L' : List pv} (hd : decode M.2.1 pc = .ok (.lstore_n j, 1)) (hi : j.val + 1 < L.length) (hn : nol L j.val = true) (hl : (L.set j.val (vL x)).set (j.val + 1) vN = L') (k : PP SH M d (pc + 1) L' st σ Q) : PP SH M d pc L (vL x :: st) σ Q := by
  subst hl
  intro p l e s m args below meth c D ad cA H locs ls X hP hS hR hL
  have kk := fun ls' hL' => k p l e s m args below meth c D ad cA H locs ls' X hP hS hR hL'
  obtain ⟨hx, hb, hr, hml, hown, hts, hlk, hK, hI, hN⟩ := id X
  obtain ⟨lv, lv', a1, a2, a3, a4⟩ := hL.storeL (z := x) hi hn
  exact lv_lstore_n hx hb hd rfl a1 a2 a3 (fun ls' h' => kk ls' (a4 ls' h'))
theorem PP.lstore {j : Nat} {x : Int} {L' : List pv} (hd : decode M.2.1 pc = .ok (.lstore j, 2)) (hi : j + 1 < L.length) (hn : nol L j = true) (hl : (L.set j (vL x)).set (j + 1) vN = L') (k : PP SH M d (pc + 2) L' st σ Q) : PP SH M d pc L (vL x :: st) σ Q := by
  subst hl
  intro p l e s m args below meth c D ad cA H locs ls X hP hS hR hL
  have kk := fun ls' hL' => k p l e s m args below meth c D ad cA H locs ls' X hP hS hR hL'
  obtain ⟨hx, hb, hr, hml, hown, hts, hlk, hK, hI, hN⟩ := id X
  obtain ⟨lv, lv', a1, a2, a3, a4⟩ := hL.storeL (z := x) hi hn
  exact lv_lstore hx hb hd a1 a2 a3 (fun ls' h' => kk ls' (a4 ls' h'))
theorem PP.iinc {j : Nat} {n x : Int} {L' : List pv} (hd : decode M.2.1 pc = .ok (.iinc j n, 3)) (h0 : L[j]? = some (vI x)) (hn : nol L j = true) (hl : L.set j (vI (x + n)) = L') (k : PP SH M d (pc + 3) L' st σ Q) : PP SH M d pc L st σ Q := by
  subst hl
  intro p l e s m args below meth c D ad cA H locs ls X hP hS hR hL
  have kk := fun ls' hL' => k p l e s m args below meth c D ad cA H locs ls' X hP hS hR hL'
  obtain ⟨hx, hb, hr, hml, hown, hts, hlk, hK, hI, hN⟩ := id X
  obtain ⟨lv, lv', a1, a2, a3, a4⟩ := hL.store (v := vI (x + n)) rfl (List.getElem?_eq_some_iff.mp h0).1 hn
  have hg := hL.at h0 rfl
  obtain ⟨ls', e', h'⟩ := lv_store1 (v := .int (Int32.ofInt x + Int32.ofInt n)) a1 a2 rfl
  have hk2 := kk ls' (a4 ls' (by rw [← a3]; show lv_has ls' _ ((j, Value.int (Int32.ofInt (x + n))) :: _); rw [Int32.ofInt_add]; exact h'))
  intro T hT Y
  obtain ⟨t, b1, b2⟩ := hk2 T hT Y
  refine ⟨t, ?_, b2⟩
  have hg2 : ls[j]? = some (.val (.int (Int32.ofInt x))) := hg
  jvm_step Y.here [Y.here.top, ↓top_set Y.here.top, hx, hb, hd, hg2, e']
  exact b1
theorem PP.iadd {x y : Int} (hd : decode M.2.1 pc = .ok (.iadd, 1)) (k : PP SH M d (pc + 1) L (vI (x + y) :: st) σ Q) : PP SH M d pc L (vI y :: vI x :: st) σ Q := by
  intro p l e s m args below meth c D ad cA H locs ls X hP hS hR hL
  have kk := k p l e s m args below meth c D ad cA H locs ls X hP hS hR hL
  obtain ⟨hx, hb, hr, hml, hown, hts, hlk, hK, hI, hN⟩ := id X
  refine lv_iadd hx hb hd ?_
  rw [← Int32.ofInt_add]
  exact kk
theorem PP.isub {x y : Int} (hd : decode M.2.1 pc = .ok (.isub, 1)) (k : PP SH M d (pc + 1) L (vI (x - y) :: st) σ Q) : PP SH M d pc L (vI y :: vI x :: st) σ Q := by
  intro p l e s m args below meth c D ad cA H locs ls X hP hS hR hL
  have kk := k p l e s m args below meth c D ad cA H locs ls X hP hS hR hL
  obtain ⟨hx, hb, hr, hml, hown, hts, hlk, hK, hI, hN⟩ := id X
  refine lv_isub hx hb hd ?_
  rw [← Int32.ofInt_sub]
  exact kk
theorem PP.imul {x y : Int} (hd : decode M.2.1 pc = .ok (.imul, 1)) (k : PP SH M d (pc + 1) L (vI (x * y) :: st) σ Q) : PP SH M d pc L (vI y :: vI x :: st) σ Q := by
  intro p l e s m args below meth c D ad cA H locs ls X hP hS hR hL
  have kk := k p l e s m args below meth c D ad cA H locs ls X hP hS hR hL
  obtain ⟨hx, hb, hr, hml, hown, hts, hlk, hK, hI, hN⟩ := id X
  refine lv_imul hx hb hd ?_
  rw [← Int32.ofInt_mul]
  exact kk
theorem PP.ladd {x y : Int} (hd : decode M.2.1 pc = .ok (.ladd, 1)) (k : PP SH M d (pc + 1) L (vL (x + y) :: st) σ Q) : PP SH M d pc L (vL y :: vL x :: st) σ Q := by
  intro p l e s m args below meth c D ad cA H locs ls X hP hS hR hL
  have kk := k p l e s m args below meth c D ad cA H locs ls X hP hS hR hL
  obtain ⟨hx, hb, hr, hml, hown, hts, hlk, hK, hI, hN⟩ := id X
  refine lv_ladd hx hb hd ?_
  rw [← Int64.ofInt_add]
  exact kk
theorem PP.lmul {x y : Int} (hd : decode M.2.1 pc = .ok (.lmul, 1)) (k : PP SH M d (pc + 1) L (vL (x * y) :: st) σ Q) : PP SH M d pc L (vL y :: vL x :: st) σ Q := by
  intro p l e s m args below meth c D ad cA H locs ls X hP hS hR hL
  have kk := k p l e s m args below meth c D ad cA H locs ls X hP hS hR hL
  obtain ⟨hx, hb, hr, hml, hown, hts, hlk, hK, hI, hN⟩ := id X
  refine lv_lmul hx hb hd ?_
  rw [← Int64.ofInt_mul]
  exact kk
theorem PP.ineg {x : Int} (hd : decode M.2.1 pc = .ok (.ineg, 1)) (k : PP SH M d (pc + 1) L (vI (-x) :: st) σ Q) : PP SH M d pc L (vI x :: st) σ Q := by
  intro p l e s m args below meth c D ad cA H locs ls X hP hS hR hL
  have kk := k p l e s m args below meth c D ad cA H locs ls X hP hS hR hL
  obtain ⟨hx, hb, hr, hml, hown, hts, hlk, hK, hI, hN⟩ := id X
  refine lv_ineg hx hb hd ?_
  rw [← Int32.ofInt_neg]
  exact kk
theorem PP.i2l {x : Int} (hx0 : R32 x) (hd : decode M.2.1 pc = .ok (.i2l, 1)) (k : PP SH M d (pc + 1) L (vL x :: st) σ Q) : PP SH M d pc L (vI x :: st) σ Q := by
  intro p l e s m args below meth c D ad cA H locs ls X hP hS hR hL
  have kk := k p l e s m args below meth c D ad cA H locs ls X hP hS hR hL
  obtain ⟨hx, hb, hr, hml, hown, hts, hlk, hK, hI, hN⟩ := id X
  refine lv_i2l hx hb hd ?_ kk
  rw [← Int64.toInt_inj, Int32.toInt_toInt64, t32 hx0, t64 ⟨by have := hx0.1; omega, by have := hx0.2; omega⟩]
theorem PP.l2i {x : Int} (hd : decode M.2.1 pc = .ok (.l2i, 1)) (k : PP SH M d (pc + 1) L (vI x :: st) σ Q) : PP SH M d pc L (vL x :: st) σ Q := by
  intro p l e s m args below meth c D ad cA H locs ls X hP hS hR hL
  have kk := k p l e s m args below meth c D ad cA H locs ls X hP hS hR hL
  obtain ⟨hx, hb, hr, hml, hown, hts, hlk, hK, hI, hN⟩ := id X
  refine lv_l2i hx hb hd ?_ kk
  exact l2i_of x
theorem PP.icmp_eq {x y : Int} {off : Int} {tgt : Nat} (hx0 : R32 x) (hy0 : R32 y) (hd : decode M.2.1 pc = .ok (.if_icmp .eq off, 3)) (ht : (pc : Int) + off = (tgt : Int)) (k1 : x = y → PP SH M d tgt L st σ Q) (k2 : ¬ x = y → PP SH M d (pc + 3) L st σ Q) : PP SH M d pc L (vI y :: vI x :: st) σ Q := by
  intro p l e s m args below meth c D ad cA H locs ls X hP hS hR hL
  obtain ⟨hx, hb, hr, hml, hown, hts, hlk, hK, hI, hN⟩ := id X
  refine lv_icmp_eq hx hb hd ht (fun h => ?_) (fun h => ?_)
  · exact k1 ((i32eq hx0 hy0).mp h) p l e s m args below meth c D ad cA H locs ls X hP hS hR hL
  · exact k2 (fun q => h ((i32eq hx0 hy0).mpr q)) p l e s m args below meth c D ad cA H locs ls X hP hS hR hL
theorem PP.if_eq {x : Int} {off : Int} {tgt : Nat} (hx0 : R32 x) (hd : decode M.2.1 pc = .ok (.ifCond .eq off, 3)) (ht : (pc : Int) + off = (tgt : Int)) (k1 : x = 0 → PP SH M d tgt L st σ Q) (k2 : ¬ x = 0 → PP SH M d (pc + 3) L st σ Q) : PP SH M d pc L (vI x :: st) σ Q := by
  intro p l e s m args below meth c D ad cA H locs ls X hP hS hR hL
  obtain ⟨hx, hb, hr, hml, hown, hts, hlk, hK, hI, hN⟩ := id X
  have hy0 := R32_0
  refine lv_if_eq hx hb hd ht (fun h => ?_) (fun h => ?_)
  · rw [← of0] at h
    exact k1 ((i32eq hx0 hy0).mp h) p l e s m args below meth c D ad cA H locs ls X hP hS hR hL
  · rw [← of0] at h
    exact k2 (fun q => h ((i32eq hx0 hy0).mpr q)) p l e s m args below meth c D ad cA H locs ls X hP hS hR hL
theorem PP.icmp_ne {x y : Int} {off : Int} {tgt : Nat} (hx0 : R32 x) (hy0 : R32 y) (hd : decode M.2.1 pc = .ok (.if_icmp .ne off, 3)) (ht : (pc : Int) + off = (tgt : Int)) (k1 : ¬ x = y → PP SH M d tgt L st σ Q) (k2 : x = y → PP SH M d (pc + 3) L st σ Q) : PP SH M d pc L (vI y :: vI x :: st) σ Q := by
  intro p l e s m args below meth c D ad cA H locs ls X hP hS hR hL
  obtain ⟨hx, hb, hr, hml, hown, hts, hlk, hK, hI, hN⟩ := id X
  refine lv_icmp_ne hx hb hd ht (fun h => ?_) (fun h => ?_)
  · exact k1 (fun q => h ((i32eq hx0 hy0).mpr q)) p l e s m args below meth c D ad cA H locs ls X hP hS hR hL
  · exact k2 ((i32eq hx0 hy0).mp h) p l e s m args below meth c D ad cA H locs ls X hP hS hR hL
theorem PP.if_ne {x : Int} {off : Int} {tgt : Nat} (hx0 : R32 x) (hd : decode M.2.1 pc = .ok (.ifCond .ne off, 3)) (ht : (pc : Int) + off = (tgt : Int)) (k1 : ¬ x = 0 → PP SH M d tgt L st σ Q) (k2 : x = 0 → PP SH M d (pc + 3) L st σ Q) : PP SH M d pc L (vI x :: st) σ Q := by
  intro p l e s m args below meth c D ad cA H locs ls X hP hS hR hL
  obtain ⟨hx, hb, hr, hml, hown, hts, hlk, hK, hI, hN⟩ := id X
  have hy0 := R32_0
  refine lv_if_ne hx hb hd ht (fun h => ?_) (fun h => ?_)
  · rw [← of0] at h
    exact k1 (fun q => h ((i32eq hx0 hy0).mpr q)) p l e s m args below meth c D ad cA H locs ls X hP hS hR hL
  · rw [← of0] at h
    exact k2 ((i32eq hx0 hy0).mp h) p l e s m args below meth c D ad cA H locs ls X hP hS hR hL
theorem PP.icmp_lt {x y : Int} {off : Int} {tgt : Nat} (hx0 : R32 x) (hy0 : R32 y) (hd : decode M.2.1 pc = .ok (.if_icmp .lt off, 3)) (ht : (pc : Int) + off = (tgt : Int)) (k1 : x < y → PP SH M d tgt L st σ Q) (k2 : y ≤ x → PP SH M d (pc + 3) L st σ Q) : PP SH M d pc L (vI y :: vI x :: st) σ Q := by
  intro p l e s m args below meth c D ad cA H locs ls X hP hS hR hL
  obtain ⟨hx, hb, hr, hml, hown, hts, hlk, hK, hI, hN⟩ := id X
  refine lv_icmp_lt hx hb hd ht (fun h => ?_) (fun h => ?_)
  · exact k1 ((i32lt hx0 hy0).mp h) p l e s m args below meth c D ad cA H locs ls X hP hS hR hL
  · exact k2 (by have := mt (i32lt hx0 hy0).mpr h; omega) p l e s m args below meth c D ad cA H locs ls X hP hS hR hL
theorem PP.if_lt {x : Int} {off : Int} {tgt : Nat} (hx0 : R32 x) (hd : decode M.2.1 pc = .ok (.ifCond .lt off, 3)) (ht : (pc : Int) + off = (tgt : Int)) (k1 : x < 0 → PP SH M d tgt L st σ Q) (k2 : 0 ≤ x → PP SH M d (pc + 3) L st σ Q) : PP SH M d pc L (vI x :: st) σ Q := by
  intro p l e s m args below meth c D ad cA H locs ls X hP hS hR hL
  obtain ⟨hx, hb, hr, hml, hown, hts, hlk, hK, hI, hN⟩ := id X
  have hy0 := R32_0
  refine lv_if_lt hx hb hd ht (fun h => ?_) (fun h => ?_)
  · rw [← of0] at h
    exact k1 ((i32lt hx0 hy0).mp h) p l e s m args below meth c D ad cA H locs ls X hP hS hR hL
  · rw [← of0] at h
    exact k2 (by have := mt (i32lt hx0 hy0).mpr h; omega) p l e s m args below meth c D ad cA H locs ls X hP hS hR hL
theorem PP.icmp_ge {x y : Int} {off : Int} {tgt : Nat} (hx0 : R32 x) (hy0 : R32 y) (hd : decode M.2.1 pc = .ok (.if_icmp .ge off, 3)) (ht : (pc : Int) + off = (tgt : Int)) (k1 : y ≤ x → PP SH M d tgt L st σ Q) (k2 : x < y → PP SH M d (pc + 3) L st σ Q) : PP SH M d pc L (vI y :: vI x :: st) σ Q := by
  intro p l e s m args below meth c D ad cA H locs ls X hP hS hR hL
  obtain ⟨hx, hb, hr, hml, hown, hts, hlk, hK, hI, hN⟩ := id X
  refine lv_icmp_ge hx hb hd ht (fun h => ?_) (fun h => ?_)
  · exact k1 ((i32le hy0 hx0).mp h) p l e s m args below meth c D ad cA H locs ls X hP hS hR hL
  · exact k2 (by have := mt (i32le hy0 hx0).mpr h; omega) p l e s m args below meth c D ad cA H locs ls X hP hS hR hL
theorem PP.if_ge {x : Int} {off : Int} {tgt : Nat} (hx0 : R32 x) (hd : decode M.2.1 pc = .ok (.ifCond .ge off, 3)) (ht : (pc : Int) + off = (tgt : Int)) (k1 : 0 ≤ x → PP SH M d tgt L st σ Q) (k2 : x < 0 → PP SH M d (pc + 3) L st σ Q) : PP SH M d pc L (vI x :: st) σ Q := by
  intro p l e s m args below meth c D ad cA H locs ls X hP hS hR hL
  obtain ⟨hx, hb, hr, hml, hown, hts, hlk, hK, hI, hN⟩ := id X
  have hy0 := R32_0
  refine lv_if_ge hx hb hd ht (fun h => ?_) (fun h => ?_)
  · rw [← of0] at h
    exact k1 ((i32le hy0 hx0).mp h) p l e s m args below meth c D ad cA H locs ls X hP hS hR hL
  · rw [← of0] at h
    exact k2 (by have := mt (i32le hy0 hx0).mpr h; omega) p l e s m args below meth c D ad cA H locs ls X hP hS hR hL
theorem PP.icmp_gt {x y : Int} {off : Int} {tgt : Nat} (hx0 : R32 x) (hy0 : R32 y) (hd : decode M.2.1 pc = .ok (.if_icmp .gt off, 3)) (ht : (pc : Int) + off = (tgt : Int)) (k1 : y < x → PP SH M d tgt L st σ Q) (k2 : x ≤ y → PP SH M d (pc + 3) L st σ Q) : PP SH M d pc L (vI y :: vI x :: st) σ Q := by
  intro p l e s m args below meth c D ad cA H locs ls X hP hS hR hL
  obtain ⟨hx, hb, hr, hml, hown, hts, hlk, hK, hI, hN⟩ := id X
  refine lv_icmp_gt hx hb hd ht (fun h => ?_) (fun h => ?_)
  · exact k1 ((i32lt hy0 hx0).mp h) p l e s m args below meth c D ad cA H locs ls X hP hS hR hL
  · exact k2 (by have := mt (i32lt hy0 hx0).mpr h; omega) p l e s m args below meth c D ad cA H locs ls X hP hS hR hL
theorem PP.if_gt {x : Int} {off : Int} {tgt : Nat} (hx0 : R32 x) (hd : decode M.2.1 pc = .ok (.ifCond .gt off, 3)) (ht : (pc : Int) + off = (tgt : Int)) (k1 : 0 < x → PP SH M d tgt L st σ Q) (k2 : x ≤ 0 → PP SH M d (pc + 3) L st σ Q) : PP SH M d pc L (vI x :: st) σ Q := by
  intro p l e s m args below meth c D ad cA H locs ls X hP hS hR hL
  obtain ⟨hx, hb, hr, hml, hown, hts, hlk, hK, hI, hN⟩ := id X
  have hy0 := R32_0
  refine lv_if_gt hx hb hd ht (fun h => ?_) (fun h => ?_)
  · rw [← of0] at h
    exact k1 ((i32lt hy0 hx0).mp h) p l e s m args below meth c D ad cA H locs ls X hP hS hR hL
  · rw [← of0] at h
    exact k2 (by have := mt (i32lt hy0 hx0).mpr h; omega) p l e s m args below meth c D ad cA H locs ls X hP hS hR hL
theorem PP.icmp_le {x y : Int} {off : Int} {tgt : Nat} (hx0 : R32 x) (hy0 : R32 y) (hd : decode M.2.1 pc = .ok (.if_icmp .le off, 3)) (ht : (pc : Int) + off = (tgt : Int)) (k1 : x ≤ y → PP SH M d tgt L st σ Q) (k2 : y < x → PP SH M d (pc + 3) L st σ Q) : PP SH M d pc L (vI y :: vI x :: st) σ Q := by
  intro p l e s m args below meth c D ad cA H locs ls X hP hS hR hL
  obtain ⟨hx, hb, hr, hml, hown, hts, hlk, hK, hI, hN⟩ := id X
  refine lv_icmp_le hx hb hd ht (fun h => ?_) (fun h => ?_)
  · exact k1 ((i32le hx0 hy0).mp h) p l e s m args below meth c D ad cA H locs ls X hP hS hR hL
  · exact k2 (by have := mt (i32le hx0 hy0).mpr h; omega) p l e s m args below meth c D ad cA H locs ls X hP hS hR hL
theorem PP.if_le {x : Int} {off : Int} {tgt : Nat} (hx0 : R32 x) (hd : decode M.2.1 pc = .ok (.ifCond .le off, 3)) (ht : (pc : Int) + off = (tgt : Int)) (k1 : x ≤ 0 → PP SH M d tgt L st σ Q) (k2 : 0 < x → PP SH M d (pc + 3) L st σ Q) : PP SH M d pc L (vI x :: st) σ Q := by
  intro p l e s m args below meth c D ad cA H locs ls X hP hS hR hL
  obtain ⟨hx, hb, hr, hml, hown, hts, hlk, hK, hI, hN⟩ := id X
  have hy0 := R32_0
  refine lv_if_le hx hb hd ht (fun h => ?_) (fun h => ?_)
  · rw [← of0] at h
    exact k1 ((i32le hx0 hy0).mp h) p l e s m args below meth c D ad cA H locs ls X hP hS hR hL
  · rw [← of0] at h
    exact k2 (by have := mt (i32le hx0 hy0).mpr h; omega) p l e s m args below meth c D ad cA H locs ls X hP hS hR hL
theorem PP.goto {off : Int} {tgt : Nat} (hd : decode M.2.1 pc = .ok (.goto off, 3)) (ht : (pc : Int) + off = (tgt : Int)) (k : PP SH M d tgt L st σ Q) : PP SH M d pc L st σ Q := by
  intro p l e s m args below meth c D ad cA H locs ls X hP hS hR hL
  have kk := k p l e s m args below meth c D ad cA H locs ls X hP hS hR hL
  obtain ⟨hx, hb, hr, hml, hown, hts, hlk, hK, hI, hN⟩ := id X
  exact lv_goto hx hb hd ht kk
theorem PP.dup {v : pv} (hv : isl v = false) (hd : decode M.2.1 pc = .ok (.dup, 1)) (k : PP SH M d (pc + 1) L (v :: v :: st) σ Q) : PP SH M d pc L (v :: st) σ Q := by
  intro p l e s m args below meth c D ad cA H locs ls X hP hS hR hL
  have kk := k p l e s m args below meth c D ad cA H locs ls X hP hS hR hL
  obtain ⟨hx, hb, hr, hml, hown, hts, hlk, hK, hI, hN⟩ := id X
  exact lv_dup hx hb hd (toV_cat hv) kk
theorem PP.pop {v : pv} (hv : isl v = false) (hd : decode M.2.1 pc = .ok (.pop, 1)) (k : PP SH M d (pc + 1) L st σ Q) : PP SH M d pc L (v :: st) σ Q := by
  intro p l e s m args below meth c D ad cA H locs ls X hP hS hR hL
  have kk := k p l e s m args below meth c D ad cA H locs ls X hP hS hR hL
  obtain ⟨hx, hb, hr, hml, hown, hts, hlk, hK, hI, hN⟩ := id X
  exact lv_pop hx hb hd (toV_cat hv) kk
theorem PP.dup2 {v w : pv} (hv : isl v = false) (hw : isl w = false) (hd : decode M.2.1 pc = .ok (.dup2, 1)) (k : PP SH M d (pc + 1) L (v :: w :: v :: w :: st) σ Q) : PP SH M d pc L (v :: w :: st) σ Q := by
  intro p l e s m args below meth c D ad cA H locs ls X hP hS hR hL
  have kk := k p l e s m args below meth c D ad cA H locs ls X hP hS hR hL
  obtain ⟨hx, hb, hr, hml, hown, hts, hlk, hK, hI, hN⟩ := id X
  exact lv_dup2_11 hx hb hd (toV_cat hv) (toV_cat hw) kk
theorem PP.lcmp {x y : Int} (h0 : -9223372036854775808 ≤ x ∧ x < 9223372036854775808) (h1 : -9223372036854775808 ≤ y ∧ y < 9223372036854775808) (hd : decode M.2.1 pc = .ok (.lcmp, 1)) (k : PP SH M d (pc + 1) L (vI (if y < x then 1 else if x = y then 0 else -1) :: st) σ Q) : PP SH M d pc L (vL y :: vL x :: st) σ Q := by
  intro p l e s m args below meth c D ad cA H locs ls X hP hS hR hL
  have kk := k p l e s m args below meth c D ad cA H locs ls X hP hS hR hL
  obtain ⟨hx, hb, hr, hml, hown, hts, hlk, hK, hI, hN⟩ := id X
  refine W.lcmp hx hb hd ?_
  have e : lg_cmp (Int64.ofInt x) (Int64.ofInt y) = Int32.ofInt (if y < x then 1 else if x = y then 0 else -1) := by
    have e1 : (Int64.ofInt x > Int64.ofInt y) ↔ y < x := by show Int64.ofInt y < Int64.ofInt x ↔ _; rw [Int64.lt_iff_toInt_lt, t64 h0, t64 h1]
    have e2 : (Int64.ofInt x = Int64.ofInt y) ↔ x = y := by rw [← Int64.toInt_inj, t64 h0, t64 h1]
    unfold lg_cmp
    by_cases q1 : y < x
    · rw [if_pos (e1.mpr q1), if_pos q1]; rfl
    · rw [if_neg (fun q => q1 (e1.mp q)), if_neg q1]
      by_cases q2 : x = y
      · rw [if_pos (e2.mpr q2), if_pos q2]; rfl
      · rw [if_neg (fun q => q2 (e2.mp q)), if_neg q2]; rfl
  rw [e]
  exact kk
theorem PP.iret {x : Int} (hd : decode M.2.1 pc = .ok (.ireturn, 1)) (hr0 : M.2.2.2 = some .int) (h : Q (some (vI x)) σ) : PP SH M d pc L [vI x] σ Q := by
  intro p l e s m args below meth c D ad cA H locs ls X hP hS hR hL
  obtain ⟨hx, hb, hr, hml, hown, hts, hlk, hK, hI, hN⟩ := id X
  exact W.iret hx hb (hr.trans hr0) (fun t ht hW => ⟨some (vI x), σ, rfl, h, hR, by rw [ht]; exact hP, va_K.moved hW.alike hK, hN.warm hW, hS.F ht⟩) hS.2.2 hd hlk
theorem PP.zret {x : Int} (hd : decode M.2.1 pc = .ok (.ireturn, 1)) (hr0 : M.2.2.2 = some .boolean) (hz : x = 0 ∨ x = 1) (h : Q (some (vI x)) σ) : PP SH M d pc L [vI x] σ Q := by
  intro p l e s m args below meth c D ad cA H locs ls X hP hS hR hL
  obtain ⟨hx, hb, hr, hml, hown, hts, hlk, hK, hI, hN⟩ := id X
  exact W.zret hx hb (hr.trans hr0) (by rcases hz with rfl | rfl <;> rfl) (fun t ht hW => ⟨some (vI x), σ, rfl, h, hR, by rw [ht]; exact hP, va_K.moved hW.alike hK, hN.warm hW, hS.F ht⟩) hS.2.2 hd hlk
theorem PP.vret (hd : decode M.2.1 pc = .ok (.return_, 1)) (hr0 : M.2.2.2 = none) (h : Q none σ) : PP SH M d pc L [] σ Q := by
  intro p l e s m args below meth c D ad cA H locs ls X hP hS hR hL
  obtain ⟨hx, hb, hr, hml, hown, hts, hlk, hK, hI, hN⟩ := id X
  exact W.vret hx hb (hr.trans hr0) (fun t ht hW => ⟨none, σ, rfl, h, hR, by rw [ht]; exact hP, va_K.moved hW.alike hK, hN.warm hW, hS.F ht⟩) hS.2.2 hd hlk
theorem PP.tab {dflt lo hi : Int} {offs : Array Int} {len : Nat} {x : Int} (hx0 : R32 x) (hd : decode M.2.1 pc = .ok (.tableswitch dflt lo hi offs, len)) (k1 : ∀ (off : Int) (tgt : Nat), lo ≤ x → x ≤ hi → offs[(x - lo).toNat]? = some off → (pc : Int) + off = (tgt : Int) → PP SH M d tgt L st σ Q) (hin : ∀ i : Nat, lo ≤ x → x ≤ hi → i = (x - lo).toNat → ∃ (off : Int) (tgt : Nat), offs[i]? = some off ∧ (pc : Int) + off = (tgt : Int)) {tgt : Nat} (ht : (pc : Int) + dflt = (tgt : Int)) (k2 : x < lo ∨ hi < x → PP SH M d tgt L st σ Q) : PP SH M d pc L (vI x :: st) σ Q := by
  intro p l e s m args below meth c D ad cA H locs ls X hP hS hR hL
  obtain ⟨hx, hb, hr, hml, hown, hts, hlk, hK, hI, hN⟩ := id X
  by_cases h : x < lo ∨ hi < x
  · exact lv_tableOut hx hb hd (by rw [t32 hx0]; exact h) ht (k2 h p l e s m args below meth c D ad cA H locs ls X hP hS hR hL)
  · have h1 : lo ≤ x := by omega
    have h2 : x ≤ hi := by omega
    obtain ⟨off, tg, e1, e2⟩ := hin _ h1 h2 rfl
    exact lv_tableIn hx hb hd (by rw [t32 hx0]; omega) (by rw [t32 hx0]; omega) (by rw [t32 hx0]; exact e1) e2 (k1 off tg h1 h2 e1 e2 p l e s m args below meth c D ad cA H locs ls X hP hS hR hL)
theorem PP.look {dflt : Int} {ps : Array (Int × Int)} {len : Nat} {x : Int} {off : Int} {tgt : Nat} (hx0 : R32 x) (hd : decode M.2.1 pc = .ok (.lookupswitch dflt ps, len)) (hp : (ps.toList.zip (ps.toList.drop 1)).all (fun (a, next) => a.1 < next.1) = true) (ho : Op.lookupswitch.offset ps.toList dflt x = off) (ht : (pc : Int) + off = (tgt : Int)) (k : PP SH M d tgt L st σ Q) : PP SH M d pc L (vI x :: st) σ Q := by
  intro p l e s m args below meth c D ad cA H locs ls X hP hS hR hL
  have kk := k p l e s m args below meth c D ad cA H locs ls X hP hS hR hL
  obtain ⟨hx, hb, hr, hml, hown, hts, hlk, hK, hI, hN⟩ := id X
  exact lv_lookup hx hb hd hp (by rw [t32 hx0]; exact ho) ht kk
theorem PP.idiv {x y : Int} (h0 : 0 ≤ x) (h1 : x < 2147483648) (h2 : 0 < y) (h3 : y < 2147483648) (hd : decode M.2.1 pc = .ok (.idiv, 1)) (k : PP SH M d (pc + 1) L (vI (x / y) :: st) σ Q) : PP SH M d pc L (vI y :: vI x :: st) σ Q := by
  intro p l e s m args below meth c D ad cA H locs ls X hP hS hR hL
  have kk := k p l e s m args below meth c D ad cA H locs ls X hP hS hR hL
  obtain ⟨hx, hb, hr, hml, hown, hts, hlk, hK, hI, hN⟩ := id X
  refine lv_idiv hx hb hd (fun q => ?_) ?_
  · rw [← of0] at q; have := (i32eq (x := y) (y := 0) ⟨by omega, by omega⟩ R32_0).mp q; omega
  · rw [idiv_of h0 h1 h2 h3]; exact kk
theorem PP.irem {x y : Int} (h0 : 0 ≤ x) (h1 : x < 2147483648) (h2 : 0 < y) (h3 : y < 2147483648) (hd : decode M.2.1 pc = .ok (.irem, 1)) (k : PP SH M d (pc + 1) L (vI (x % y) :: st) σ Q) : PP SH M d pc L (vI y :: vI x :: st) σ Q := by
  intro p l e s m args below meth c D ad cA H locs ls X hP hS hR hL
  have kk := k p l e s m args below meth c D ad cA H locs ls X hP hS hR hL
  obtain ⟨hx, hb, hr, hml, hown, hts, hlk, hK, hI, hN⟩ := id X
  refine lv_irem hx hb hd (fun q => ?_) ?_
  · rw [← of0] at q; have := (i32eq (x := y) (y := 0) ⟨by omega, by omega⟩ R32_0).mp q; omega
  · rw [idiv_of h0 h1 h2 h3, ← Int32.ofInt_mul, ← Int32.ofInt_sub, show x - x / y * y = x % y by rw [Int.emod_def, Int.mul_comm]]; exact kk
theorem PP.ldiv {x y : Int} (h0 : 0 ≤ x) (h1 : x < 9223372036854775808) (h2 : 0 < y) (h3 : y < 9223372036854775808) (hd : decode M.2.1 pc = .ok (.ldiv, 1)) (k : PP SH M d (pc + 1) L (vL (x / y) :: st) σ Q) : PP SH M d pc L (vL y :: vL x :: st) σ Q := by
  intro p l e s m args below meth c D ad cA H locs ls X hP hS hR hL
  have kk := k p l e s m args below meth c D ad cA H locs ls X hP hS hR hL
  obtain ⟨hx, hb, hr, hml, hown, hts, hlk, hK, hI, hN⟩ := id X
  refine lv_ldiv hx hb hd (fun q => ?_) ?_
  · have q2 := congrArg Int64.toInt q
    rw [t64 ⟨by omega, by omega⟩] at q2
    have : (0 : Int64).toInt = 0 := rfl
    omega
  · rw [ldiv_of h0 h1 h2 h3]; exact kk
theorem PP.lrem {x y : Int} (h0 : 0 ≤ x) (h1 : x < 9223372036854775808) (h2 : 0 < y) (h3 : y < 9223372036854775808) (hd : decode M.2.1 pc = .ok (.lrem, 1)) (k : PP SH M d (pc + 1) L (vL (x % y) :: st) σ Q) : PP SH M d pc L (vL y :: vL x :: st) σ Q := by
  intro p l e s m args below meth c D ad cA H locs ls X hP hS hR hL
  have kk := k p l e s m args below meth c D ad cA H locs ls X hP hS hR hL
  obtain ⟨hx, hb, hr, hml, hown, hts, hlk, hK, hI, hN⟩ := id X
  refine lv_lrem hx hb hd (fun q => ?_) ?_
  · have q2 := congrArg Int64.toInt q
    rw [t64 ⟨by omega, by omega⟩] at q2
    have : (0 : Int64).toInt = 0 := rfl
    omega
  · rw [ldiv_of h0 h1 h2 h3, ← Int64.ofInt_mul, ← Int64.ofInt_sub, show x - x / y * y = x % y by rw [Int.emod_def, Int.mul_comm]]; exact kk
theorem PP.iandR {x y z : Int} (hz : Int32.ofInt x &&& Int32.ofInt y = Int32.ofInt z) (hd : decode M.2.1 pc = .ok (.iand, 1)) (k : PP SH M d (pc + 1) L (vI z :: st) σ Q) : PP SH M d pc L (vI y :: vI x :: st) σ Q := by
  intro p l e s m args below meth c D ad cA H locs ls X hP hS hR hL
  have kk := k p l e s m args below meth c D ad cA H locs ls X hP hS hR hL
  obtain ⟨hx, hb, hr, hml, hown, hts, hlk, hK, hI, hN⟩ := id X
  exact lv_iand hx hb hd (by rw [hz]; exact kk)
theorem PP.iorR {x y z : Int} (hz : Int32.ofInt x ||| Int32.ofInt y = Int32.ofInt z) (hd : decode M.2.1 pc = .ok (.ior, 1)) (k : PP SH M d (pc + 1) L (vI z :: st) σ Q) : PP SH M d pc L (vI y :: vI x :: st) σ Q := by
  intro p l e s m args below meth c D ad cA H locs ls X hP hS hR hL
  have kk := k p l e s m args below meth c D ad cA H locs ls X hP hS hR hL
  obtain ⟨hx, hb, hr, hml, hown, hts, hlk, hK, hI, hN⟩ := id X
  exact lv_ior hx hb hd (by rw [hz]; exact kk)
theorem PP.ixorR {x y z : Int} (hz : Int32.ofInt x ^^^ Int32.ofInt y = Int32.ofInt z) (hd : decode M.2.1 pc = .ok (.ixor, 1)) (k : PP SH M d (pc + 1) L (vI z :: st) σ Q) : PP SH M d pc L (vI y :: vI x :: st) σ Q := by
  intro p l e s m args below meth c D ad cA H locs ls X hP hS hR hL
  have kk := k p l e s m args below meth c D ad cA H locs ls X hP hS hR hL
  obtain ⟨hx, hb, hr, hml, hown, hts, hlk, hK, hI, hN⟩ := id X
  exact lv_ixor hx hb hd (by rw [hz]; exact kk)
theorem PP.ishlR {x y z : Int} (hz : Int32.ofInt x <<< (Int32.ofInt y &&& 31) = Int32.ofInt z) (hd : decode M.2.1 pc = .ok (.ishl, 1)) (k : PP SH M d (pc + 1) L (vI z :: st) σ Q) : PP SH M d pc L (vI y :: vI x :: st) σ Q := by
  intro p l e s m args below meth c D ad cA H locs ls X hP hS hR hL
  have kk := k p l e s m args below meth c D ad cA H locs ls X hP hS hR hL
  obtain ⟨hx, hb, hr, hml, hown, hts, hlk, hK, hI, hN⟩ := id X
  exact lv_ishl hx hb hd (by rw [hz]; exact kk)
theorem PP.ishrR {x y z : Int} (hz : Int32.ofInt x >>> (Int32.ofInt y &&& 31) = Int32.ofInt z) (hd : decode M.2.1 pc = .ok (.ishr, 1)) (k : PP SH M d (pc + 1) L (vI z :: st) σ Q) : PP SH M d pc L (vI y :: vI x :: st) σ Q := by
  intro p l e s m args below meth c D ad cA H locs ls X hP hS hR hL
  have kk := k p l e s m args below meth c D ad cA H locs ls X hP hS hR hL
  obtain ⟨hx, hb, hr, hml, hown, hts, hlk, hK, hI, hN⟩ := id X
  exact lv_ishr hx hb hd (by rw [hz]; exact kk)
theorem PP.iushrR {x y z : Int} (hz : ((Int32.ofInt x).toUInt32 >>> ((Int32.ofInt y).toUInt32 &&& Int32.toUInt32 31)).toInt32 = Int32.ofInt z) (hd : decode M.2.1 pc = .ok (.iushr, 1)) (k : PP SH M d (pc + 1) L (vI z :: st) σ Q) : PP SH M d pc L (vI y :: vI x :: st) σ Q := by
  intro p l e s m args below meth c D ad cA H locs ls X hP hS hR hL
  have kk := k p l e s m args below meth c D ad cA H locs ls X hP hS hR hL
  obtain ⟨hx, hb, hr, hml, hown, hts, hlk, hK, hI, hN⟩ := id X
  exact lv_iushr hx hb hd hz kk
end RUL
