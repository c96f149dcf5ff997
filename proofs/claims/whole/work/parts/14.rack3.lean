/-! the rack of the component: bits -/
theorem bc_1 : ∀ a : Fin 128, ((Int32.ofInt ((a.val : Nat) : Int)).toUInt32 >>> ((Int32.ofInt 1).toUInt32 &&& Int32.toUInt32 31)).toInt32 = Int32.ofInt ((a.val / 2 : Nat) : Int) := by decide +kernel
theorem bc_2 : ∀ a : Fin 128, Int32.ofInt ((a.val / 2 : Nat) : Int) &&& Int32.ofInt 1431655765 = Int32.ofInt ((a.val / 2 &&& 1431655765 : Nat) : Int) := by decide +kernel
theorem bc_3 : ∀ a : Fin 128, a.val / 2 &&& 1431655765 ≤ a.val := by decide +kernel
def bx1 (a : Nat) : Nat := a - (a / 2 &&& 1431655765)
theorem bc_4 : ∀ a : Fin 128, Int32.ofInt ((bx1 a.val : Nat) : Int) &&& Int32.ofInt 858993459 = Int32.ofInt ((bx1 a.val &&& 858993459 : Nat) : Int) := by decide +kernel
theorem bc_5 : ∀ a : Fin 128, ((Int32.ofInt ((bx1 a.val : Nat) : Int)).toUInt32 >>> ((Int32.ofInt 2).toUInt32 &&& Int32.toUInt32 31)).toInt32 = Int32.ofInt ((bx1 a.val / 4 : Nat) : Int) := by decide +kernel
theorem bc_6 : ∀ a : Fin 128, Int32.ofInt ((bx1 a.val / 4 : Nat) : Int) &&& Int32.ofInt 858993459 = Int32.ofInt ((bx1 a.val / 4 &&& 858993459 : Nat) : Int) := by decide +kernel
def bx2 (a : Nat) : Nat := (bx1 a &&& 858993459) + (bx1 a / 4 &&& 858993459)
theorem bc_7 : ∀ a : Fin 128, ((Int32.ofInt ((bx2 a.val : Nat) : Int)).toUInt32 >>> ((Int32.ofInt 4).toUInt32 &&& Int32.toUInt32 31)).toInt32 = Int32.ofInt ((bx2 a.val / 16 : Nat) : Int) := by decide +kernel
def bx3 (a : Nat) : Nat := (bx2 a + bx2 a / 16) &&& 252645135
theorem bc_8 : ∀ a : Fin 128, Int32.ofInt ((bx2 a.val + bx2 a.val / 16 : Nat) : Int) &&& Int32.ofInt 252645135 = Int32.ofInt ((bx3 a.val : Nat) : Int) := by decide +kernel
theorem bc_9 : ∀ a : Fin 128, ((Int32.ofInt ((bx3 a.val : Nat) : Int)).toUInt32 >>> ((Int32.ofInt 8).toUInt32 &&& Int32.toUInt32 31)).toInt32 = Int32.ofInt ((bx3 a.val / 256 : Nat) : Int) := by decide +kernel
def bx4 (a : Nat) : Nat := bx3 a + bx3 a / 256
theorem bc_10 : ∀ a : Fin 128, ((Int32.ofInt ((bx4 a.val : Nat) : Int)).toUInt32 >>> ((Int32.ofInt 16).toUInt32 &&& Int32.toUInt32 31)).toInt32 = Int32.ofInt ((bx4 a.val / 65536 : Nat) : Int) := by decide +kernel
theorem bc_11 : ∀ a : Fin 128, Int32.ofInt ((bx4 a.val + bx4 a.val / 65536 : Nat) : Int) &&& Int32.ofInt 63 = Int32.ofInt ((pc7 a.val : Nat) : Int) := by decide +kernel
theorem ok_bitCount {SH : List shp} {σ : Sg} {a : Nat} (ha : a < 128) : OK SH mJ6_bitCount 1 [vI (a : Int)] σ (RV (pc7 a : Nat) σ) := by
  have k3 := bc_3 ⟨a, ha⟩
  refine OK.enterF (L' := [vI (a : Int)]) (by decide +kernel) (by simp [ent0]) rfl ?_
  refine PP.iload_n dJ6_bitCount_0f7a4_0 rfl ?_
  refine PP.iload_n dJ6_bitCount_0f7a4_1 rfl ?_
  refine PP.iconst dJ6_bitCount_0f7a4_2 ?_
  refine PP.iushrR (z := ((a / 2) : Nat)) (bc_1 ⟨a, ha⟩) dJ6_bitCount_0f7a4_3 ?_
  refine PP.ldcw (z := 1431655765) dJ6_bitCount_0f7a4_4 bw523 ?_
  refine PP.iandR (z := ((a / 2 &&& 1431655765) : Nat)) (bc_2 ⟨a, ha⟩) dJ6_bitCount_0f7a4_7 ?_
  refine PP.isub dJ6_bitCount_0f7a4_8 ?_
  refine PP.eqI (y := (bx1 a : Nat)) (by unfold bx1; have : a / 2 &&& 1431655765 ≤ a := k3; omega) ?_
  refine PP.istore_n (L' := [_]) dJ6_bitCount_0f7a4_9 (Nat.le_of_ble_eq_true rfl) rfl rfl ?_
  refine PP.iload_n dJ6_bitCount_0f7a4_10 rfl ?_
  refine PP.ldcw (z := 858993459) dJ6_bitCount_0f7a4_11 bw524 ?_
  refine PP.iandR (z := ((bx1 a &&& 858993459) : Nat)) (bc_4 ⟨a, ha⟩) dJ6_bitCount_0f7a4_14 ?_
  refine PP.iload_n dJ6_bitCount_0f7a4_15 rfl ?_
  refine PP.iconst dJ6_bitCount_0f7a4_16 ?_
  refine PP.iushrR (z := ((bx1 a / 4) : Nat)) (bc_5 ⟨a, ha⟩) dJ6_bitCount_0f7a4_17 ?_
  refine PP.ldcw (z := 858993459) dJ6_bitCount_0f7a4_18 bw524 ?_
  refine PP.iandR (z := ((bx1 a / 4 &&& 858993459) : Nat)) (bc_6 ⟨a, ha⟩) dJ6_bitCount_0f7a4_21 ?_
  refine PP.iadd dJ6_bitCount_0f7a4_22 ?_
  refine PP.eqI (y := (bx2 a : Nat)) rfl ?_
  refine PP.istore_n (L' := [_]) dJ6_bitCount_0f7a4_23 (Nat.le_of_ble_eq_true rfl) rfl rfl ?_
  refine PP.iload_n dJ6_bitCount_0f7a4_24 rfl ?_
  refine PP.iload_n dJ6_bitCount_0f7a4_25 rfl ?_
  refine PP.iconst dJ6_bitCount_0f7a4_26 ?_
  refine PP.iushrR (z := ((bx2 a / 16) : Nat)) (bc_7 ⟨a, ha⟩) dJ6_bitCount_0f7a4_27 ?_
  refine PP.iadd dJ6_bitCount_0f7a4_28 ?_
  refine PP.ldcw (z := 252645135) dJ6_bitCount_0f7a4_29 bw525 ?_
  refine PP.iandR (z := ((bx3 a) : Nat)) (bc_8 ⟨a, ha⟩) dJ6_bitCount_0f7a4_32 ?_
  refine PP.istore_n (L' := [_]) dJ6_bitCount_0f7a4_33 (Nat.le_of_ble_eq_true rfl) rfl rfl ?_
  refine PP.iload_n dJ6_bitCount_0f7a4_34 rfl ?_
  refine PP.iload_n dJ6_bitCount_0f7a4_35 rfl ?_
  refine PP.bipush dJ6_bitCount_0f7a4_36 (by decide) ?_
  refine PP.iushrR (z := ((bx3 a / 256) : Nat)) (bc_9 ⟨a, ha⟩) dJ6_bitCount_0f7a4_38 ?_
  refine PP.iadd dJ6_bitCount_0f7a4_39 ?_
  refine PP.eqI (y := (bx4 a : Nat)) rfl ?_
  refine PP.istore_n (L' := [_]) dJ6_bitCount_0f7a4_40 (Nat.le_of_ble_eq_true rfl) rfl rfl ?_
  refine PP.iload_n dJ6_bitCount_0f7a4_41 rfl ?_
  refine PP.iload_n dJ6_bitCount_0f7a4_42 rfl ?_
  refine PP.bipush dJ6_bitCount_0f7a4_43 (by decide) ?_
  refine PP.iushrR (z := ((bx4 a / 65536) : Nat)) (bc_10 ⟨a, ha⟩) dJ6_bitCount_0f7a4_45 ?_
  refine PP.iadd dJ6_bitCount_0f7a4_46 ?_
  refine PP.istore_n (L' := [_]) dJ6_bitCount_0f7a4_47 (Nat.le_of_ble_eq_true rfl) rfl rfl ?_
  refine PP.iload_n dJ6_bitCount_0f7a4_48 rfl ?_
  refine PP.bipush dJ6_bitCount_0f7a4_49 (by decide) ?_
  refine PP.iandR (z := ((pc7 a) : Nat)) (bc_11 ⟨a, ha⟩) dJ6_bitCount_0f7a4_51 ?_
  refine PP.iret dJ6_bitCount_0f7a4_52 rfl ?_
  exact ⟨rfl, rfl⟩
theorem ok_inBits {σ : Sg} {r q n : Nat} {T P F : Nat → Int} (hc : RC σ r q T n P F) : OK SHc mX2_inBits 2 [vR r] σ (RV (msk (inS P) n : Nat) σ) := by
  obtain ⟨⟨hr0, hr1, hr2, hr3⟩, ⟨hq0, hq1, hq2, hq3, hq4, hq5⟩, hw, hP, hD, hR⟩ := id hc
  have hn7 := hw.2.1
  obtain ⟨d0, d1, d2, d3, d4, d5⟩ := hD
  refine OK.enter (L' := [vR r, vN, vN]) (by decide +kernel) (by simp [ent0]) rfl ?_
  refine PP.rg (fun hg => ?_)
  have key : ∀ o, o ≤ n → PP SHc mX2_inBits 2 4 [vR r, vI (msk (inS P) o : Nat), vI (o : Int)] [] σ (RV (msk (inS P) n : Nat) σ) := by
    refine loop_dn n ?_ ?_
    · refine PP.iload_n dX2_inBits_4 rfl ?_
      refine PP.aload_n dX2_inBits_5 rfl ?_
      refine PP.getfR dX2_inBits_6 fl_X2_21 hr0 rfl ?_
      refine PP.getfI dX2_inBits_9 fl_X2_48 hq0 rfl ?_
      refine PP.icmp_ge (tgt := 35) (by first | omega | exact hg _ _ | (unfold R32; omega)) (by first | omega | exact hg _ _ | (unfold R32; omega)) dX2_inBits_12 (by decide) (fun h12 => ?_) (fun h12 => ?_)
      · refine PP.iload_n dX2_inBits_35 rfl ?_
        refine PP.iret dX2_inBits_36 rfl ?_
        exact ⟨rfl, rfl⟩
      · omega
    · intro o ho ih
      refine PP.iload_n dX2_inBits_4 rfl ?_
      refine PP.aload_n dX2_inBits_5 rfl ?_
      refine PP.getfR dX2_inBits_6 fl_X2_21 hr0 rfl ?_
      refine PP.getfI dX2_inBits_9 fl_X2_48 hq0 rfl ?_
      refine PP.icmp_ge (tgt := 35) (by first | omega | exact hg _ _ | exact b2i_R _ | (unfold R32; omega)) (by first | omega | exact hg _ _ | exact b2i_R _ | (unfold R32; omega)) dX2_inBits_12 (by decide) (fun h12 => ?_) (fun h12 => ?_)
      · omega
      · refine PP.aload_n dX2_inBits_15 rfl ?_
        refine PP.iload_n dX2_inBits_16 rfl ?_
        refine PP.callVi (ok_in hc (t := o) (by omega)) dX2_inBits_17 vl_X2_51 hr0 rfl rfl rfl rfl (Nat.le_of_ble_eq_true rfl) (Nat.le_of_ble_eq_true rfl) ?_
        refine PP.if_eq (tgt := 29) (by first | omega | exact hg _ _ | exact b2i_R _ | (unfold R32; omega)) dX2_inBits_20 (by decide) (fun h20 => ?_) (fun h20 => ?_)
        · refine PP.iinc (L' := [_, _, _]) dX2_inBits_29 rfl rfl rfl ?_
          refine PP.goto (tgt := 4) dX2_inBits_32 (by decide) ?_
          first
          | (rw [msk_s0 (b2i_0.mp h20)] at ih; exact ih)
          | (rw [msk_s1 (b2i_n.mp h20)] at ih; exact ih)
        · refine PP.iload_n dX2_inBits_23 rfl ?_
          refine PP.iconst dX2_inBits_24 ?_
          refine PP.iload_n dX2_inBits_25 rfl ?_
          refine PP.ishlR (z := ((2 ^ o) : Nat)) (shl1_o (by omega)) dX2_inBits_26 ?_
          refine PP.iorR (z := ((msk (inS P) o + 2 ^ o) : Nat)) (ior_msk _ _) dX2_inBits_27 ?_
          refine PP.istore_n (L' := [_, _, _]) dX2_inBits_28 (Nat.le_of_ble_eq_true rfl) rfl rfl ?_
          refine PP.iinc (L' := [_, _, _]) dX2_inBits_29 rfl rfl rfl ?_
          refine PP.goto (tgt := 4) dX2_inBits_32 (by decide) ?_
          first
          | (rw [msk_s0 (b2i_0.mp h20)] at ih; exact ih)
          | (rw [msk_s1 (b2i_n.mp h20)] at ih; exact ih)
  refine PP.iconst dX2_inBits_0 ?_
  refine PP.istore_n (L' := [_, _, _]) dX2_inBits_1 (Nat.le_of_ble_eq_true rfl) rfl rfl ?_
  refine PP.iconst dX2_inBits_2 ?_
  refine PP.istore_n (L' := [_, _, _]) dX2_inBits_3 (Nat.le_of_ble_eq_true rfl) rfl rfl ?_
  exact key 0 (by omega)
theorem ok_countIn {σ : Sg} {r q n : Nat} {T P F : Nat → Int} (hc : RC σ r q T n P F) : OK SHc mX2_countIn 3 [vR r] σ (RV (cnt (inS P) n : Nat) σ) := by
  obtain ⟨⟨hr0, hr1, hr2, hr3⟩, -, hw, -⟩ := id hc
  have hn7 := hw.2.1
  rw [← pc7_msk hn7]
  refine OK.enter (L' := [vR r]) (by decide +kernel) (by simp [ent0]) rfl ?_
  refine PP.aload_n dX2_countIn_0 rfl ?_
  refine PP.callVi (ok_inBits hc) dX2_countIn_1 vl_X2_55 hr0 rfl rfl rfl rfl (Nat.le_of_ble_eq_true rfl) (Nat.le_of_ble_eq_true rfl) ?_
  refine PP.callSi (ok_bitCount (msk_128 _ hn7)) dX2_countIn_4 sl_X2_59 rfl rfl (Nat.le_of_ble_eq_true rfl) (Nat.le_of_ble_eq_true rfl) ?_
  refine PP.iret dX2_countIn_7 rfl ?_
  exact ⟨rfl, rfl⟩
def ssA (T : Nat → Int) (P : Nat → Int) (n : Nat) : Bool := anyB (fun u => stS T P u && (decide (sdS T P u = 0) || decide (sdS T P u = 1))) n
def ssB (T : Nat → Int) (P : Nat → Int) (n : Nat) : Bool := anyB (fun u => stS T P u && (decide (sdS T P u = 0) || decide (sdS T P u = -1))) n
def ssv (a b : Bool) : Nat := (if a then 1 else 0) + (if b then 4 else 0)
def fx (x : Int) : Nat := if x = 1 then 4 else if x = 4 then 1 else 5
theorem ss_1 {x : Int} (h : x = 1 ∨ x = 4 ∨ x = 2) : Int32.ofInt 5 &&& Int32.ofInt (-x - 1) = Int32.ofInt ((fx x : Nat) : Int) := by
  rcases h with rfl | rfl | rfl <;> decide
theorem ss_2 {x : Int} (h : x = 1 ∨ x = 4 ∨ x = 2) (a b : Bool) : Int32.ofInt ((ssv a b : Nat) : Int) ||| Int32.ofInt ((fx x : Nat) : Int) = Int32.ofInt ((ssv (a || (decide (x = 2) || decide (x = 4))) (b || (decide (x = 2) || decide (x = 1))) : Nat) : Int) := by
  rcases h with rfl | rfl | rfl <;> cases a <;> cases b <;> decide
theorem ok_struckSides {σ : Sg} {r q n : Nat} {T P F : Nat → Int} (hc : RC σ r q T n P F) : OK SHc mX2_struckSides 2 [vR r] σ (RV (ssv (ssA T P n) (ssB T P n) : Nat) σ) := by
  obtain ⟨⟨hr0, hr1, hr2, hr3⟩, hdk, hw, hP, hD, hR⟩ := id hc
  obtain ⟨hq0, hq1, hq2, hq3, hq4, hq5⟩ := id hdk
  have hn7 := hw.2.1
  obtain ⟨d0, d1, d2, d3, d4, d5⟩ := id hD
  refine OK.enter (L' := [vR r, vN, vN]) (by decide +kernel) (by simp [ent0]) rfl ?_
  refine PP.rg (fun hg => ?_)
  have key : ∀ o, o ≤ n → PP SHc mX2_struckSides 2 4 [vR r, vI (ssv (ssA T P o) (ssB T P o) : Nat), vI (o : Int)] [] σ (RV (ssv (ssA T P n) (ssB T P n) : Nat) σ) := by
    refine loop_dn n ?_ ?_
    · refine PP.iload_n dX2_struckSides_4 rfl ?_
      refine PP.aload_n dX2_struckSides_5 rfl ?_
      refine PP.getfR dX2_struckSides_6 fl_X2_21 hr0 rfl ?_
      refine PP.getfI dX2_struckSides_9 fl_X2_48 hq0 rfl ?_
      refine PP.icmp_ge (tgt := 53) (by first | omega | exact hg _ _ | (unfold R32; omega)) (by first | omega | exact hg _ _ | (unfold R32; omega)) dX2_struckSides_12 (by decide) (fun h12 => ?_) (fun h12 => ?_)
      · refine PP.iload_n dX2_struckSides_53 rfl ?_
        refine PP.iret dX2_struckSides_54 rfl ?_
        exact ⟨rfl, rfl⟩
      · omega
    · intro o ho ih
      have hso := sd_c T P o
      have e3 := (hR o (by omega)).2.2
      have hin := inS_t (P := P) (t := o)
      have no : stS T P o = false → PP SHc mX2_struckSides 2 4 [vR r, vI (ssv (ssA T P o) (ssB T P o) : Nat), vI ((o : Int) + 1)] [] σ (RV (ssv (ssA T P n) (ssB T P n) : Nat) σ) := by
        intro h
        have a1 : ssA T P (o + 1) = ssA T P o := by simp [ssA, anyB, h]
        have a2 : ssB T P (o + 1) = ssB T P o := by simp [ssB, anyB, h]
        rw [a1, a2] at ih
        exact ih
      refine PP.iload_n dX2_struckSides_4 rfl ?_
      refine PP.aload_n dX2_struckSides_5 rfl ?_
      refine PP.getfR dX2_struckSides_6 fl_X2_21 hr0 rfl ?_
      refine PP.getfI dX2_struckSides_9 fl_X2_48 hq0 rfl ?_
      refine PP.icmp_ge (tgt := 53) (by first | omega | exact hg _ _ | exact b2i_R _ | (unfold R32; omega)) (by first | omega | exact hg _ _ | exact b2i_R _ | (unfold R32; omega)) dX2_struckSides_12 (by decide) (fun h12 => ?_) (fun h12 => ?_)
      · omega
      · refine PP.aload_n dX2_struckSides_15 rfl ?_
        refine PP.iload_n dX2_struckSides_16 rfl ?_
        refine PP.callVi (ok_in hc (t := o) (by omega)) dX2_struckSides_17 vl_X2_51 hr0 rfl rfl rfl rfl (Nat.le_of_ble_eq_true rfl) (Nat.le_of_ble_eq_true rfl) ?_
        refine PP.if_eq (tgt := 47) (by first | omega | exact hg _ _ | exact b2i_R _ | (unfold R32; omega)) dX2_struckSides_20 (by decide) (fun h20 => ?_) (fun h20 => ?_)
        · refine PP.iinc (L' := [_, _, _]) dX2_struckSides_47 rfl rfl rfl ?_
          refine PP.goto (tgt := 4) dX2_struckSides_50 (by decide) ?_
          exact no (by simp only [stS, Bool.and_eq_false_iff]; exact Or.inr (b2i_0.mp h20))
        · refine PP.aload_n dX2_struckSides_23 rfl ?_
          refine PP.getfR dX2_struckSides_24 fl_X2_21 hr0 rfl ?_
          refine PP.iload_n dX2_struckSides_27 rfl ?_
          refine PP.callVi (ok_strikes hdk hw hD ho) dX2_struckSides_28 vl_X2_90 hq0 rfl rfl rfl rfl (Nat.le_of_ble_eq_true rfl) (Nat.le_of_ble_eq_true rfl) ?_
          refine PP.if_eq (tgt := 47) (by first | omega | exact hg _ _ | exact b2i_R _ | (unfold R32; omega)) dX2_struckSides_31 (by decide) (fun h31 => ?_) (fun h31 => ?_)
          · refine PP.iinc (L' := [_, _, _]) dX2_struckSides_47 rfl rfl rfl ?_
            refine PP.goto (tgt := 4) dX2_struckSides_50 (by decide) ?_
            exact no (by simp only [stS, Bool.and_eq_false_iff]; exact Or.inl (b2i_0.mp h31))
          · have hin' := hin.mp (b2i_n.mp h20)
            have h3 : σ (r + 3) o = 1 ∨ σ (r + 3) o = 4 ∨ σ (r + 3) o = 2 := by omega
            refine PP.iload_n dX2_struckSides_34 rfl ?_
            refine PP.iconst dX2_struckSides_35 ?_
            refine PP.aload_n dX2_struckSides_36 rfl ?_
            refine PP.getfR dX2_struckSides_37 fl_X2_18 hr0 rfl ?_
            refine PP.iload_n dX2_struckSides_40 rfl ?_
            refine PP.ialoadN (n := o) hr3 (by decide) (by first | rfl | omega) (by first | omega | exact hg _ _ | exact b2i_R _ | (unfold R32; omega)) dX2_struckSides_41 ?_
            refine PP.iconst dX2_struckSides_42 ?_
            refine PP.ixorR (z := (-(σ (r + 3) o) - 1)) (ixor_m _) dX2_struckSides_43 ?_
            refine PP.iandR (z := ((fx (σ (r + 3) o)) : Nat)) (ss_1 h3) dX2_struckSides_44 ?_
            refine PP.iorR (z := ((ssv (ssA T P o || (decide (σ (r + 3) o = 2) || decide (σ (r + 3) o = 4))) (ssB T P o || (decide (σ (r + 3) o = 2) || decide (σ (r + 3) o = 1)))) : Nat)) (ss_2 h3 _ _) dX2_struckSides_45 ?_
            refine PP.istore_n (L' := [_, _, _]) dX2_struckSides_46 (Nat.le_of_ble_eq_true rfl) rfl rfl ?_
            refine PP.iinc (L' := [_, _, _]) dX2_struckSides_47 rfl rfl rfl ?_
            refine PP.goto (tgt := 4) dX2_struckSides_50 (by decide) ?_
            have hst : stS T P o = true := by simp only [stS, Bool.and_eq_true]; exact ⟨b2i_n.mp h31, by simpa [inS] using b2i_n.mp h20⟩
            have a1 : ssA T P (o + 1) = (ssA T P o || (decide (σ (r + 3) o = 2) || decide (σ (r + 3) o = 4))) := by
              simp only [ssA, anyB, hst, Bool.true_and]
              congr 1
              congr 1 <;> apply decide_eq_decide.mpr <;> omega
            have a2 : ssB T P (o + 1) = (ssB T P o || (decide (σ (r + 3) o = 2) || decide (σ (r + 3) o = 1))) := by
              simp only [ssB, anyB, hst, Bool.true_and]
              congr 1
              congr 1 <;> apply decide_eq_decide.mpr <;> omega
            rw [a1, a2] at ih
            exact ih
  refine PP.iconst dX2_struckSides_0 ?_
  refine PP.istore_n (L' := [_, _, _]) dX2_struckSides_1 (Nat.le_of_ble_eq_true rfl) rfl rfl ?_
  refine PP.iconst dX2_struckSides_2 ?_
  refine PP.istore_n (L' := [_, _, _]) dX2_struckSides_3 (Nat.le_of_ble_eq_true rfl) rfl rfl ?_
  exact key 0 (by omega)
theorem skS_c {T : Nat → Int} {n : Nat} {P F : Nat → Int} {w : Int} {t : Nat} (ht : t < n) (hp : 0 ≤ P t) (hs : (sdS T P t = -1 ∧ ssA T P n = true) ∨ (sdS T P t = 1 ∧ ssB T P n = true)) : clS T n P F w t = false := by
  have : skS T n P t = true := by
    unfold skS
    rw [anyB_t]
    rcases hs with ⟨h1, h2⟩ | ⟨h1, h2⟩
    · obtain ⟨u, hu, hx⟩ := anyB_t.mp h2
      refine ⟨u, hu, ?_⟩
      simp only [Bool.and_eq_true, Bool.or_eq_true, decide_eq_true_eq] at hx ⊢
      refine ⟨hx.1, Or.inr ⟨by omega, ?_⟩⟩
      rcases hx.2 with h | h
      · exact Or.inl h
      · exact Or.inr (by omega)
    · obtain ⟨u, hu, hx⟩ := anyB_t.mp h2
      refine ⟨u, hu, ?_⟩
      simp only [Bool.and_eq_true, Bool.or_eq_true, decide_eq_true_eq] at hx ⊢
      refine ⟨hx.1, Or.inr ⟨by omega, ?_⟩⟩
      rcases hx.2 with h | h
      · exact Or.inl h
      · exact Or.inr (by omega)
  simp [clS, this]
theorem clS_0 {T : Nat → Int} {n : Nat} {P F : Nat → Int} {w : Int} {t : Nat} (hp : P t < 0) : clS T n P F w t = false := by
  simp [clS, Int.not_le.mpr hp]
theorem skS_n {T : Nat → Int} {n : Nat} {P F : Nat → Int} {w : Int} {t : Nat} (ht : t < n) (hp : 0 ≤ P t) (hs1 : sdS T P t = -1 → ssA T P n = false) (hs2 : sdS T P t = 1 → ssB T P n = false) : clS T n P F w t = c0S T n P F w t := by
  have : skS T n P t = kstS T t := by
    cases hk : kstS T t with
    | true =>
      unfold skS
      rw [anyB_t]
      exact ⟨t, ht, by simp [stS, hk, hp]⟩
    | false =>
      unfold skS
      rw [anyB_f]
      intro u hu
      by_cases hut : u = t
      · subst hut; simp [stS, hk]
      · cases hst : stS T P u with
        | false => rfl
        | true =>
          have hsu : 0 ≤ P u := by simp only [stS, Bool.and_eq_true, decide_eq_true_eq] at hst; exact hst.2
          rcases sd_c T P t with ⟨a, -, b⟩ | ⟨a, -, b⟩ | ⟨a, -, b⟩ | ⟨a, -, b⟩
          · omega
          · have h1 := anyB_f.mp (hs1 b) u hu
            rw [hst] at h1
            simp only [Bool.true_and, Bool.or_eq_false_iff, decide_eq_false_iff_not] at h1
            simp [hut, b, h1.1, h1.2]
          · have h1 := anyB_f.mp (hs2 b) u hu
            rw [hst] at h1
            simp only [Bool.true_and, Bool.or_eq_false_iff, decide_eq_false_iff_not] at h1
            simp [hut, b, h1.1, h1.2]
          · simp [hut, b]
  simp [clS, c0S, this, hp]
theorem ss_and {x : Int} (h : x = 1 ∨ x = 4 ∨ x = 2) (a b : Bool) : Int32.ofInt x &&& Int32.ofInt ((ssv a b : Nat) : Int) = Int32.ofInt (if x = 1 ∧ a = true then 1 else if x = 4 ∧ b = true then 4 else 0) := by
  rcases h with rfl | rfl | rfl <;> cases a <;> cases b <;> decide
theorem ok_cleanBits {σ : Sg} {r q n : Nat} {T P F : Nat → Int} {w : Int} (hc : RC σ r q T n P F) (hwa : 0 ≤ w ∧ w ≤ 9) : OK SHc mX2_cleanBits 4 [vR r, vI w] σ (RV (msk (clS T n P F w) n : Nat) σ) := by
  obtain ⟨⟨hr0, hr1, hr2, hr3⟩, hdk, hw, hP, hD, hR⟩ := id hc
  obtain ⟨hq0, hq1, hq2, hq3, hq4, hq5⟩ := id hdk
  have hn7 := hw.2.1
  obtain ⟨d0, d1, d2, d3, d4, d5⟩ := id hD
  refine OK.enter (L' := [vR r, vI w, vN, vN, vN]) (by decide +kernel) (by simp [ent0]) rfl ?_
  refine PP.rg (fun hg => ?_)
  have key : ∀ o, o ≤ n → PP SHc mX2_cleanBits 4 10 [vR r, vI w, vI (ssv (ssA T P n) (ssB T P n) : Nat), vI (msk (clS T n P F w) o : Nat), vI (o : Int)] [] σ (RV (msk (clS T n P F w) n : Nat) σ) := by
    refine loop_dn n ?_ ?_
    · refine PP.iload dX2_cleanBits_10 rfl ?_
      refine PP.aload_n dX2_cleanBits_12 rfl ?_
      refine PP.getfR dX2_cleanBits_13 fl_X2_21 hr0 rfl ?_
      refine PP.getfI dX2_cleanBits_16 fl_X2_48 hq0 rfl ?_
      refine PP.icmp_ge (tgt := 66) (by first | omega | exact hg _ _ | (unfold R32; omega)) (by first | omega | exact hg _ _ | (unfold R32; omega)) dX2_cleanBits_19 (by decide) (fun h19 => ?_) (fun h19 => ?_)
      · refine PP.iload_n dX2_cleanBits_66 rfl ?_
        refine PP.iret dX2_cleanBits_67 rfl ?_
        exact ⟨rfl, rfl⟩
      · omega
    · intro o ho ih
      have hso := sd_c T P o
      have e3 := (hR o (by omega)).2.2
      have hin := inS_t (P := P) (t := o)
      refine PP.iload dX2_cleanBits_10 rfl ?_
      refine PP.aload_n dX2_cleanBits_12 rfl ?_
      refine PP.getfR dX2_cleanBits_13 fl_X2_21 hr0 rfl ?_
      refine PP.getfI dX2_cleanBits_16 fl_X2_48 hq0 rfl ?_
      refine PP.icmp_ge (tgt := 66) (by first | omega | exact hg _ _ | exact b2i_R _ | (unfold R32; omega) | (unfold R32; split <;> (try split) <;> decide)) (by first | omega | exact hg _ _ | exact b2i_R _ | (unfold R32; omega) | (unfold R32; split <;> (try split) <;> decide)) dX2_cleanBits_19 (by decide) (fun h19 => ?_) (fun h19 => ?_)
      · omega
      · refine PP.aload_n dX2_cleanBits_22 rfl ?_
        refine PP.iload dX2_cleanBits_23 rfl ?_
        refine PP.callVi (ok_in hc (t := o) (by omega)) dX2_cleanBits_25 vl_X2_51 hr0 rfl rfl rfl rfl (Nat.le_of_ble_eq_true rfl) (Nat.le_of_ble_eq_true rfl) ?_
        refine PP.if_eq (tgt := 60) (by first | omega | exact hg _ _ | exact b2i_R _ | (unfold R32; omega) | (unfold R32; split <;> (try split) <;> decide)) dX2_cleanBits_28 (by decide) (fun h28 => ?_) (fun h28 => ?_)
        · refine PP.iinc (L' := [_, _, _, _, _]) dX2_cleanBits_60 rfl rfl rfl ?_
          refine PP.goto (tgt := 10) dX2_cleanBits_63 (by decide) ?_
          rw [msk_s0 (clS_0 (by have := b2i_0.mp h28; simp [inS] at this; omega))] at ih
          exact ih
        · have hin' := hin.mp (b2i_n.mp h28)
          have h3 : σ (r + 3) o = 1 ∨ σ (r + 3) o = 4 ∨ σ (r + 3) o = 2 := by omega
          refine PP.aload_n dX2_cleanBits_31 rfl ?_
          refine PP.getfR dX2_cleanBits_32 fl_X2_18 hr0 rfl ?_
          refine PP.iload dX2_cleanBits_35 rfl ?_
          refine PP.ialoadN (n := o) hr3 (by decide) (by first | rfl | omega) (by first | omega | exact hg _ _ | exact b2i_R _ | (unfold R32; omega) | (unfold R32; split <;> (try split) <;> decide)) dX2_cleanBits_37 ?_
          refine PP.iload_n dX2_cleanBits_38 rfl ?_
          refine PP.iandR (z := (if σ (r + 3) o = 1 ∧ ssA T P n = true then 1 else if σ (r + 3) o = 4 ∧ ssB T P n = true then 4 else 0)) (ss_and h3 _ _) dX2_cleanBits_39 ?_
          refine PP.if_ne (tgt := 60) (by first | omega | exact hg _ _ | exact b2i_R _ | (unfold R32; omega) | (unfold R32; split <;> (try split) <;> decide)) dX2_cleanBits_40 (by decide) (fun h40 => ?_) (fun h40 => ?_)
          · refine PP.iinc (L' := [_, _, _, _, _]) dX2_cleanBits_60 rfl rfl rfl ?_
            refine PP.goto (tgt := 10) dX2_cleanBits_63 (by decide) ?_
            rw [msk_s0 (skS_c ho hin' (by
              by_cases c1 : σ (r + 3) o = 1 ∧ ssA T P n = true
              · exact Or.inl ⟨by omega, c1.2⟩
              · rw [if_neg c1] at h40
                by_cases c2 : σ (r + 3) o = 4 ∧ ssB T P n = true
                · exact Or.inr ⟨by omega, c2.2⟩
                · rw [if_neg c2] at h40
                  exact absurd rfl h40))] at ih
            exact ih
          · refine PP.aload_n dX2_cleanBits_43 rfl ?_
            refine PP.iload dX2_cleanBits_44 rfl ?_
            refine PP.iload_n dX2_cleanBits_46 rfl ?_
            refine PP.callVi (ok_comesClean hc ho hin' hwa) dX2_cleanBits_47 vl_X2_87 hr0 rfl rfl rfl rfl (Nat.le_of_ble_eq_true rfl) (Nat.le_of_ble_eq_true rfl) ?_
            have hcl : clS T n P F w o = c0S T n P F w o := by
              refine skS_n ho hin' (fun h => ?_) (fun h => ?_)
              · rcases Bool.eq_false_or_eq_true (ssA T P n) with q1 | q1
                · rw [if_pos ⟨by omega, q1⟩] at h40; omega
                · exact q1
              · rcases Bool.eq_false_or_eq_true (ssB T P n) with q1 | q1
                · rw [if_neg (by omega), if_pos ⟨by omega, q1⟩] at h40; omega
                · exact q1
            refine PP.if_eq (tgt := 60) (by first | omega | exact hg _ _ | exact b2i_R _ | (unfold R32; omega) | (unfold R32; split <;> (try split) <;> decide)) dX2_cleanBits_50 (by decide) (fun h50 => ?_) (fun h50 => ?_)
            · refine PP.iinc (L' := [_, _, _, _, _]) dX2_cleanBits_60 rfl rfl rfl ?_
              refine PP.goto (tgt := 10) dX2_cleanBits_63 (by decide) ?_
              first
              | (rw [msk_s0 (hcl.trans (b2i_0.mp h50))] at ih; exact ih)
              | (rw [msk_s1 (hcl.trans (b2i_n.mp h50))] at ih; exact ih)
            · refine PP.iload_n dX2_cleanBits_53 rfl ?_
              refine PP.iconst dX2_cleanBits_54 ?_
              refine PP.iload dX2_cleanBits_55 rfl ?_
              refine PP.ishlR (z := ((2 ^ o) : Nat)) (shl1_o (by omega)) dX2_cleanBits_57 ?_
              refine PP.iorR (z := ((msk (clS T n P F w) o + 2 ^ o) : Nat)) (ior_msk _ _) dX2_cleanBits_58 ?_
              refine PP.istore_n (L' := [_, _, _, _, _]) dX2_cleanBits_59 (Nat.le_of_ble_eq_true rfl) rfl rfl ?_
              refine PP.iinc (L' := [_, _, _, _, _]) dX2_cleanBits_60 rfl rfl rfl ?_
              refine PP.goto (tgt := 10) dX2_cleanBits_63 (by decide) ?_
              first
              | (rw [msk_s0 (hcl.trans (b2i_0.mp h50))] at ih; exact ih)
              | (rw [msk_s1 (hcl.trans (b2i_n.mp h50))] at ih; exact ih)
  refine PP.aload_n dX2_cleanBits_0 rfl ?_
  refine PP.callVi (ok_struckSides hc) dX2_cleanBits_1 vl_X2_84 hr0 rfl rfl rfl rfl (Nat.le_of_ble_eq_true rfl) (Nat.le_of_ble_eq_true rfl) ?_
  refine PP.istore_n (L' := [_, _, _, _, _]) dX2_cleanBits_4 (Nat.le_of_ble_eq_true rfl) rfl rfl ?_
  refine PP.iconst dX2_cleanBits_5 ?_
  refine PP.istore_n (L' := [_, _, _, _, _]) dX2_cleanBits_6 (Nat.le_of_ble_eq_true rfl) rfl rfl ?_
  refine PP.iconst dX2_cleanBits_7 ?_
  refine PP.istore (L' := [_, _, _, _, _]) dX2_cleanBits_8 (Nat.le_of_ble_eq_true rfl) rfl rfl ?_
  exact key 0 (by omega)
theorem ok_countClean {σ : Sg} {r q n : Nat} {T P F : Nat → Int} {w : Int} (hc : RC σ r q T n P F) (hs : σ r 5 = w) (hwa : 0 ≤ w ∧ w ≤ 9) : OK SHc mX2_countClean 5 [vR r] σ (RV (cnt (clS T n P F w) n : Nat) σ) := by
  obtain ⟨⟨hr0, hr1, hr2, hr3⟩, -, hw, -⟩ := id hc
  have hn7 := hw.2.1
  subst hs
  rw [← pc7_msk hn7]
  refine OK.enter (L' := [vR r]) (by decide +kernel) (by simp [ent0]) rfl ?_
  refine PP.aload_n dX2_countClean_0 rfl ?_
  refine PP.aload_n dX2_countClean_1 rfl ?_
  refine PP.getfI dX2_countClean_2 fl_X2_35 hr0 rfl ?_
  refine PP.callVi (ok_cleanBits hc hwa) dX2_countClean_5 vl_X2_81 hr0 rfl rfl rfl rfl (Nat.le_of_ble_eq_true rfl) (Nat.le_of_ble_eq_true rfl) ?_
  refine PP.callSi (ok_bitCount (msk_128 _ hn7)) dX2_countClean_8 sl_X2_59 rfl rfl (Nat.le_of_ble_eq_true rfl) (Nat.le_of_ble_eq_true rfl) ?_
  refine PP.iret dX2_countClean_11 rfl ?_
  exact ⟨rfl, rfl⟩
