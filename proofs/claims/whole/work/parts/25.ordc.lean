/-! the component's orders: the small methods -/
theorem DR14 {σ : Sg} {T : Nat → Int} {n : Nat} (h : DR σ 14 T n) : ∀ t, t < n → σ 15 t = T (4 + t) ∧ σ 16 t = T (11 + t) ∧ σ 17 t = T (18 + t) ∧ σ 18 t = T (25 + t) := h.2.2.2.2.1
theorem DR14c {σ : Sg} {T : Nat → Int} {n : Nat} (h : DR σ 14 T n) : ∀ t, t < 24 → σ 19 t = T (32 + t) := h.2.2.2.2.2
theorem ok_oEmpty {σ : Sg} {w : Int} (hw : R32 w) : OK SHc mX1_empty 3 [vR 28, vI w] σ (RN (up (lvU σ 29 7) 29 5 w)) := by
  refine OK.enter (L' := [vR 28, vI w]) (by decide +kernel) (by simp [ent0]) rfl ?_
  refine PP.aload_n dX1_empty_0 rfl ?_
  refine PP.getfR dX1_empty_1 fl_X1_27 sc28 rfl ?_
  refine PP.callVn (ok_leaveAll RK29) dX1_empty_4 vl_X1_74 sc29 rfl rfl rfl rfl (Nat.le_of_ble_eq_true rfl) (Nat.le_of_ble_eq_true rfl) ?_
  refine PP.aload_n dX1_empty_7 rfl ?_
  refine PP.getfR dX1_empty_8 fl_X1_27 sc28 rfl ?_
  refine PP.iload_n dX1_empty_11 rfl ?_
  refine PP.putI dX1_empty_12 fp_X1_77 sc29 rfl (by first | assumption | omega) ?_
  refine PP.vret dX1_empty_15 rfl ?_
  exact ⟨rfl, rfl⟩
theorem ok_hopefulOf {σ : Sg} {n : Nat} {T : Nat → Int} {w : Int} {al : Nat → Bool} (hw : wfT T n) (hD : DR σ 14 T n) (hwa : 1 ≤ w ∧ w ≤ 9) : OK SHc mX1_hopefulOf 2 [vR 28, vI (msk al n : Nat), vI w] σ (RV (msk (fun t => hpS T w t && al t) n : Nat) σ) := by
  have hn7 := hw.2.1
  obtain ⟨d0, d1, d2, d3, d4, d5⟩ := id hD
  refine OK.enter (L' := [vR 28, vI (msk al n : Nat), vI w, vN, vN]) (by decide +kernel) (by simp [ent0]) rfl ?_
  have key : ∀ o, o ≤ n → PP SHc mX1_hopefulOf 2 5 [vR 28, vI (msk al n : Nat), vI w, vI (msk (hpS T w) o : Nat), vI (o : Int)] [] σ (RV (msk (fun t => hpS T w t && al t) n : Nat) σ) := by
    refine loop_dn n ?_ ?_
    · refine PP.iload dX1_hopefulOf_5 rfl ?_
      refine PP.aload_n dX1_hopefulOf_7 rfl ?_
      refine PP.getfR dX1_hopefulOf_8 fl_X1_18 sc28 rfl ?_
      refine PP.getfI dX1_hopefulOf_11 fl_X1_46 sc14 rfl ?_
      refine PP.icmp_ge (tgt := 56) (by first | omega | (unfold R32; omega)) (by first | omega | (unfold R32; omega)) dX1_hopefulOf_14 (by decide) (fun h14 => ?_) (fun h14 => ?_)
      · refine PP.iload_n dX1_hopefulOf_56 rfl ?_
        refine PP.iload_n dX1_hopefulOf_57 rfl ?_
        refine PP.iandR (z := ((msk (fun t => hpS T w t && al t) n) : Nat)) ((iand_n _ _).trans (by rw [msk_and])) dX1_hopefulOf_58 ?_
        refine PP.iret dX1_hopefulOf_59 rfl ?_
        exact ⟨rfl, rfl⟩
      · omega
    · intro o ho ih
      obtain ⟨k1, k2, k3, k4⟩ := DR14 hD o ho
      obtain ⟨v1, v2, v3, v4⟩ := hw.2.2.2.2.2.1 o ho
      have hno : hpS T w o = false → PP SHc mX1_hopefulOf 2 5 [vR 28, vI (msk al n : Nat), vI w, vI (msk (hpS T w) o : Nat), vI ((o : Int) + 1)] [] σ (RV (msk (fun t => hpS T w t && al t) n : Nat) σ) := fun h => by
        rw [msk_s0 h] at ih; exact ih
      refine PP.iload dX1_hopefulOf_5 rfl ?_
      refine PP.aload_n dX1_hopefulOf_7 rfl ?_
      refine PP.getfR dX1_hopefulOf_8 fl_X1_18 sc28 rfl ?_
      refine PP.getfI dX1_hopefulOf_11 fl_X1_46 sc14 rfl ?_
      refine PP.icmp_ge (tgt := 56) (by first | omega | exact b2i_R _ | (unfold R32; omega)) (by first | omega | exact b2i_R _ | (unfold R32; omega)) dX1_hopefulOf_14 (by decide) (fun h14 => ?_) (fun h14 => ?_)
      · omega
      · refine PP.aload_n dX1_hopefulOf_17 rfl ?_
        refine PP.getfR dX1_hopefulOf_18 fl_X1_18 sc28 rfl ?_
        refine PP.getfR dX1_hopefulOf_21 fl_X1_80 sc14 rfl ?_
        refine PP.iload dX1_hopefulOf_24 rfl ?_
        refine PP.ialoadN (n := o) sc18 (by first | decide | omega) (by first | rfl | omega) (by first | omega | exact b2i_R _ | (unfold R32; omega)) dX1_hopefulOf_26 ?_
        refine PP.iload_n dX1_hopefulOf_27 rfl ?_
        refine PP.icmp_gt (tgt := 50) (by first | omega | exact b2i_R _ | (unfold R32; omega)) (by first | omega | exact b2i_R _ | (unfold R32; omega)) dX1_hopefulOf_28 (by decide) (fun h28 => ?_) (fun h28 => ?_)
        · refine PP.iinc (L' := [_, _, _, _, _]) dX1_hopefulOf_50 rfl rfl rfl ?_
          refine PP.goto (tgt := 5) dX1_hopefulOf_53 (by decide) ?_
          exact hno (by simp only [hpS, Bool.and_eq_false_iff, decide_eq_false_iff_not]; left; omega)
        · refine PP.aload_n dX1_hopefulOf_31 rfl ?_
          refine PP.getfR dX1_hopefulOf_32 fl_X1_18 sc28 rfl ?_
          refine PP.iload dX1_hopefulOf_35 rfl ?_
          refine PP.callVi (ok_strikes DK14 hw hD ho) dX1_hopefulOf_37 vl_X1_83 sc14 rfl rfl rfl rfl (Nat.le_of_ble_eq_true rfl) (Nat.le_of_ble_eq_true rfl) ?_
          refine PP.if_ne (tgt := 50) (by first | omega | exact b2i_R _ | (unfold R32; omega)) dX1_hopefulOf_40 (by decide) (fun h40 => ?_) (fun h40 => ?_)
          · refine PP.iinc (L' := [_, _, _, _, _]) dX1_hopefulOf_50 rfl rfl rfl ?_
            refine PP.goto (tgt := 5) dX1_hopefulOf_53 (by decide) ?_
            exact hno (by simp only [hpS, b2i_n.mp h40, Bool.not_true, Bool.and_false])
          · refine PP.iload_n dX1_hopefulOf_43 rfl ?_
            refine PP.iconst dX1_hopefulOf_44 ?_
            refine PP.iload dX1_hopefulOf_45 rfl ?_
            refine PP.ishlR (z := ((2 ^ o) : Nat)) (shl1_o (by omega)) dX1_hopefulOf_47 ?_
            refine PP.iorR (z := ((msk (hpS T w) o + 2 ^ o) : Nat)) (ior_msk _ _) dX1_hopefulOf_48 ?_
            refine PP.istore_n (L' := [_, _, _, _, _]) dX1_hopefulOf_49 (Nat.le_of_ble_eq_true rfl) rfl rfl ?_
            refine PP.iinc (L' := [_, _, _, _, _]) dX1_hopefulOf_50 rfl rfl rfl ?_
            refine PP.goto (tgt := 5) dX1_hopefulOf_53 (by decide) ?_
            rw [msk_s1 (by simp only [hpS, b2i_0.mp h40, Bool.not_false, Bool.and_true, decide_eq_true_eq]; omega)] at ih
            exact ih
  refine PP.iconst dX1_hopefulOf_0 ?_
  refine PP.istore_n (L' := [_, _, _, _, _]) dX1_hopefulOf_1 (Nat.le_of_ble_eq_true rfl) rfl rfl ?_
  refine PP.iconst dX1_hopefulOf_2 ?_
  refine PP.istore (L' := [_, _, _, _, _]) dX1_hopefulOf_3 (Nat.le_of_ble_eq_true rfl) rfl rfl ?_
  exact key 0 (by omega)
def ftS (T : Nat → Int) (s : Int) (t : Nat) : Bool := decide (s + T (11 + t) ≤ T 0)
theorem ok_fittingOf {σ : Sg} {n : Nat} {T : Nat → Int} {s : Int} {lf : Nat → Bool} (hw : wfT T n) (hD : DR σ 14 T n) (hs : 0 ≤ s ∧ s ≤ 20) : OK SHc mX1_fittingOf 1 [vR 28, vI (msk lf n : Nat), vI s] σ (RV (msk (fun t => ftS T s t && lf t) n : Nat) σ) := by
  have hn7 := hw.2.1
  have hsl := hw.2.2.1
  obtain ⟨d0, d1, d2, d3, d4, d5⟩ := id hD
  refine OK.enter (L' := [vR 28, vI (msk lf n : Nat), vI s, vN, vN]) (by decide +kernel) (by simp [ent0]) rfl ?_
  have key : ∀ o, o ≤ n → PP SHc mX1_fittingOf 1 5 [vR 28, vI (msk lf n : Nat), vI s, vI (msk (ftS T s) o : Nat), vI (o : Int)] [] σ (RV (msk (fun t => ftS T s t && lf t) n : Nat) σ) := by
    refine loop_dn n ?_ ?_
    · refine PP.iload dX1_fittingOf_5 rfl ?_
      refine PP.aload_n dX1_fittingOf_7 rfl ?_
      refine PP.getfR dX1_fittingOf_8 fl_X1_18 sc28 rfl ?_
      refine PP.getfI dX1_fittingOf_11 fl_X1_46 sc14 rfl ?_
      refine PP.icmp_ge (tgt := 52) (by first | omega | (unfold R32; omega)) (by first | omega | (unfold R32; omega)) dX1_fittingOf_14 (by decide) (fun h14 => ?_) (fun h14 => ?_)
      · refine PP.iload_n dX1_fittingOf_52 rfl ?_
        refine PP.iload_n dX1_fittingOf_53 rfl ?_
        refine PP.iandR (z := ((msk (fun t => ftS T s t && lf t) n) : Nat)) ((iand_n _ _).trans (by rw [msk_and])) dX1_fittingOf_54 ?_
        refine PP.iret dX1_fittingOf_55 rfl ?_
        exact ⟨rfl, rfl⟩
      · omega
    · intro o ho ih
      obtain ⟨k1, k2, k3, k4⟩ := DR14 hD o ho
      obtain ⟨v1, v2, v3, v4⟩ := hw.2.2.2.2.2.1 o ho
      refine PP.iload dX1_fittingOf_5 rfl ?_
      refine PP.aload_n dX1_fittingOf_7 rfl ?_
      refine PP.getfR dX1_fittingOf_8 fl_X1_18 sc28 rfl ?_
      refine PP.getfI dX1_fittingOf_11 fl_X1_46 sc14 rfl ?_
      refine PP.icmp_ge (tgt := 52) (by first | omega | (unfold R32; omega)) (by first | omega | (unfold R32; omega)) dX1_fittingOf_14 (by decide) (fun h14 => ?_) (fun h14 => ?_)
      · omega
      · refine PP.iload_n dX1_fittingOf_17 rfl ?_
        refine PP.aload_n dX1_fittingOf_18 rfl ?_
        refine PP.getfR dX1_fittingOf_19 fl_X1_18 sc28 rfl ?_
        refine PP.getfR dX1_fittingOf_22 fl_X1_103 sc14 rfl ?_
        refine PP.iload dX1_fittingOf_25 rfl ?_
        refine PP.ialoadN (n := o) sc16 (by first | decide | omega) (by first | rfl | omega) (by first | omega | (unfold R32; omega)) dX1_fittingOf_27 ?_
        refine PP.iadd dX1_fittingOf_28 ?_
        refine PP.aload_n dX1_fittingOf_29 rfl ?_
        refine PP.getfR dX1_fittingOf_30 fl_X1_18 sc28 rfl ?_
        refine PP.getfI dX1_fittingOf_33 fl_X1_106 sc14 rfl ?_
        refine PP.icmp_gt (tgt := 46) (by first | omega | (unfold R32; omega)) (by first | omega | (unfold R32; omega)) dX1_fittingOf_36 (by decide) (fun h36 => ?_) (fun h36 => ?_)
        · refine PP.iinc (L' := [_, _, _, _, _]) dX1_fittingOf_46 rfl rfl rfl ?_
          refine PP.goto (tgt := 5) dX1_fittingOf_49 (by decide) ?_
          rw [msk_s0 (by simp only [ftS, decide_eq_false_iff_not]; omega)] at ih
          exact ih
        · refine PP.iload_n dX1_fittingOf_39 rfl ?_
          refine PP.iconst dX1_fittingOf_40 ?_
          refine PP.iload dX1_fittingOf_41 rfl ?_
          refine PP.ishlR (z := ((2 ^ o) : Nat)) (shl1_o (by omega)) dX1_fittingOf_43 ?_
          refine PP.iorR (z := ((msk (ftS T s) o + 2 ^ o) : Nat)) (ior_msk _ _) dX1_fittingOf_44 ?_
          refine PP.istore_n (L' := [_, _, _, _, _]) dX1_fittingOf_45 (Nat.le_of_ble_eq_true rfl) rfl rfl ?_
          refine PP.iinc (L' := [_, _, _, _, _]) dX1_fittingOf_46 rfl rfl rfl ?_
          refine PP.goto (tgt := 5) dX1_fittingOf_49 (by decide) ?_
          rw [msk_s1 (by simp only [ftS, decide_eq_true_eq]; omega)] at ih
          exact ih
  refine PP.iconst dX1_fittingOf_0 ?_
  refine PP.istore_n (L' := [_, _, _, _, _]) dX1_fittingOf_1 (Nat.le_of_ble_eq_true rfl) rfl rfl ?_
  refine PP.iconst dX1_fittingOf_2 ?_
  refine PP.istore (L' := [_, _, _, _, _]) dX1_fittingOf_3 (Nat.le_of_ble_eq_true rfl) rfl rfl ?_
  exact key 0 (by omega)
theorem ok_putLookingIn {σ : Sg} {n t : Nat} {T : Nat → Int} {s : Int} (hw : wfT T n) (hD : DR σ 14 T n) (ht : t < n) (hs : 0 ≤ s ∧ s ≤ 20) : OK SHc mX1_putLookingIn 3 [vR 28, vI (t : Int), vI s] σ (RV (s + T (11 + t)) (stdU σ 29 t s (plF T t s) (sidV T t s))) := by
  have hn7 := hw.2.1
  obtain ⟨d0, d1, d2, d3, d4, d5⟩ := id hD
  obtain ⟨g1, g2, g3, g4⟩ := DR14 hD t ht
  have hv : sidV T t s = 1 ↔ s + T (11 + t) - 1 < T 1 := by unfold sidV; split <;> (try split) <;> omega
  have hv2 : 0 ≤ sidV T t s ∧ sidV T t s ≤ 4 := by unfold sidV; split <;> (try split) <;> omega
  refine OK.enter (L' := [vR 28, vI (t : Int), vI s, vN]) (by decide +kernel) (by simp [ent0]) rfl ?_
  have key : PP SHc mX1_putLookingIn 3 19 [vR 28, vI (t : Int), vI s, vI (plF T t s)] [] σ (RV (s + T (11 + t)) (stdU σ 29 t s (plF T t s) (sidV T t s))) := by
    refine PP.aload_n dX1_putLookingIn_19 rfl ?_
    refine PP.getfR dX1_putLookingIn_20 fl_X1_27 sc28 rfl ?_
    refine PP.iload_n dX1_putLookingIn_23 rfl ?_
    refine PP.iload_n dX1_putLookingIn_24 rfl ?_
    refine PP.iload_n dX1_putLookingIn_25 rfl ?_
    refine PP.callVn (ok_stand RK29 DK14 hw hD ht hs (by unfold plF; split <;> omega)) dX1_putLookingIn_26 vl_X1_123 sc29 rfl rfl rfl rfl (Nat.le_of_ble_eq_true rfl) (Nat.le_of_ble_eq_true rfl) ?_
    refine PP.iload_n dX1_putLookingIn_29 rfl ?_
    refine PP.aload_n dX1_putLookingIn_30 rfl ?_
    refine PP.getfR dX1_putLookingIn_31 fl_X1_18 sc28 rfl ?_
    refine PP.getfR dX1_putLookingIn_34 fl_X1_103 sc14 rfl ?_
    refine PP.iload_n dX1_putLookingIn_37 rfl ?_
    refine PP.ialoadN (n := t) sc16 (by first | decide | omega) (by first | rfl | omega) (by first | omega | (unfold R32; omega)) dX1_putLookingIn_38 ?_
    refine PP.iadd dX1_putLookingIn_39 ?_
    refine PP.iret dX1_putLookingIn_40 rfl ?_
    refine ⟨?_, rfl⟩
    rw [stdU_ne (by omega) (by omega) (by omega), g2]
  refine PP.aload_n dX1_putLookingIn_0 rfl ?_
  refine PP.getfR dX1_putLookingIn_1 fl_X1_18 sc28 rfl ?_
  refine PP.iload_n dX1_putLookingIn_4 rfl ?_
  refine PP.iload_n dX1_putLookingIn_5 rfl ?_
  refine PP.callVi (ok_sideAt DK14 hw hD ht hs) dX1_putLookingIn_6 vl_X1_120 sc14 rfl rfl rfl rfl (Nat.le_of_ble_eq_true rfl) (Nat.le_of_ble_eq_true rfl) ?_
  refine PP.iconst dX1_putLookingIn_9 ?_
  refine PP.icmp_ne (tgt := 17) (by first | omega | (unfold R32; omega)) (by first | omega | (unfold R32; omega)) dX1_putLookingIn_10 (by decide) (fun h10 => ?_) (fun h10 => ?_)
  · refine PP.iconst dX1_putLookingIn_17 ?_
    refine PP.istore_n (L' := [_, _, _, _]) dX1_putLookingIn_18 (Nat.le_of_ble_eq_true rfl) rfl rfl ?_
    first
      | exact PP.eqL (L' := [vR 28, vI (t : Int), vI s, vI (plF T t s)]) (by rw [show plF T t s = 1 by unfold plF; rw [if_pos (by omega)]]) key
      | exact PP.eqL (L' := [vR 28, vI (t : Int), vI s, vI (plF T t s)]) (by rw [show plF T t s = 0 by unfold plF; rw [if_neg (by omega)]]) key
  · refine PP.iconst dX1_putLookingIn_13 ?_
    refine PP.goto (tgt := 18) dX1_putLookingIn_14 (by decide) ?_
    refine PP.istore_n (L' := [_, _, _, _]) dX1_putLookingIn_18 (Nat.le_of_ble_eq_true rfl) rfl rfl ?_
    first
      | exact PP.eqL (L' := [vR 28, vI (t : Int), vI s, vI (plF T t s)]) (by rw [show plF T t s = 1 by unfold plF; rw [if_pos (by omega)]]) key
      | exact PP.eqL (L' := [vR 28, vI (t : Int), vI s, vI (plF T t s)]) (by rw [show plF T t s = 0 by unfold plF; rw [if_neg (by omega)]]) key
theorem RC_lt {σ : Sg} {r q n : Nat} {T P F : Nat → Int} (hc : RC σ r q T n P F) {t : Nat} (ht : t < n) : (P t = -4 ∧ F t = -4) ∨ (0 ≤ P t) := by
  rcases hc.2.2.2.1.1 t ht with h | h
  · exact Or.inl h
  · exact Or.inr h.1
/-- the orders' rack stands as x is filled -/
def OC (σ : Sg) (T : Nat → Int) (n : Nat) (w : Int) (x : FS) : Prop := RC σ 29 14 T n x.2.1 x.2.2 ∧ σ 29 5 = w ∧ 0 ≤ x.1 ∧ x.1 ≤ T 0
theorem OC_put {σ : Sg} {T : Nat → Int} {n t : Nat} {w : Int} {x : FS} (h : OC σ T n w x) (ht : t < n) (hf : x.1 + T (11 + t) ≤ T 0) : OC (stdU σ 29 t x.1 (plF T t x.1) (sidV T t x.1)) T n w (pl1 T x t) := by
  obtain ⟨h1, h2, h3, h4⟩ := h
  unfold pl1
  rw [if_pos hf]
  have hW := (h1.2.2.1.2.2.2.2.2.1 t ht).2.1.1
  refine ⟨RC_std h1 ht h3 hf (by unfold plF; split <;> omega), ?_, ?_, hf⟩
  · rw [stdU_ne (by omega) (by omega) (by omega)]; exact h2
  · show 0 ≤ x.1 + T (11 + t); omega
theorem OC_no {σ : Sg} {T : Nat → Int} {n t : Nat} {w : Int} {x : FS} (h : OC σ T n w x) (hf : ¬ x.1 + T (11 + t) ≤ T 0) : OC σ T n w (pl1 T x t) := by
  unfold pl1; rw [if_neg hf]; exact h
theorem OC_E {σ : Sg} {T : Nat → Int} {n : Nat} {w : Int} (hw : wfT T n) (hD : DR σ 14 T n) : OC (up (lvU σ 29 7) 29 5 w) T n w plE := by
  have h := RC_lvU (σ := σ) RK29 DK14 hw hD
  have hsl := hw.2.2.1
  obtain ⟨a1, a2, a3, a4, a5, a6⟩ := h
  exact ⟨⟨a1, a2, a3, a4, DR_cong a5 (fun c _ _ => up_ne (by omega)), RR_cong a6 (fun c _ _ => up_ne (by omega))⟩, up_at, by simp [plE], by simp [plE]; omega⟩
theorem ok_putIfRoom {σ : Sg} {n t : Nat} {T : Nat → Int} {w : Int} {x : FS} (ho : OC σ T n w x) (ht : t < n) : OK SHc mX1_putIfRoom 4 [vR 28, vI (t : Int), vI x.1] σ (RP (fun v τ => v = (pl1 T x t).1 ∧ OC τ T n w (pl1 T x t) ∧ ∀ c, c ≠ 30 → c ≠ 31 → c ≠ 32 → τ c = σ c)) := by
  obtain ⟨hc, h5, hs1, hs2⟩ := id ho
  obtain ⟨-, -, hw, -, hD, -⟩ := id hc
  have hn7 := hw.2.1
  have hsl := hw.2.2.1
  obtain ⟨d0, d1, d2, d3, d4, d5⟩ := id hD
  obtain ⟨g1, g2, g3, g4⟩ := DR14 hD t ht
  obtain ⟨v1, v2, v3, v4⟩ := hw.2.2.2.2.2.1 t ht
  refine OK.enter (L' := [vR 28, vI (t : Int), vI x.1]) (by decide +kernel) (by simp [ent0]) rfl ?_
  refine PP.iload_n dX1_putIfRoom_0 rfl ?_
  refine PP.aload_n dX1_putIfRoom_1 rfl ?_
  refine PP.getfR dX1_putIfRoom_2 fl_X1_18 sc28 rfl ?_
  refine PP.getfR dX1_putIfRoom_5 fl_X1_103 sc14 rfl ?_
  refine PP.iload_n dX1_putIfRoom_8 rfl ?_
  refine PP.ialoadN (n := t) sc16 (by first | decide | omega) (by first | rfl | omega) (by first | omega | (unfold R32; omega)) dX1_putIfRoom_9 ?_
  refine PP.iadd dX1_putIfRoom_10 ?_
  refine PP.aload_n dX1_putIfRoom_11 rfl ?_
  refine PP.getfR dX1_putIfRoom_12 fl_X1_18 sc28 rfl ?_
  refine PP.getfI dX1_putIfRoom_15 fl_X1_106 sc14 rfl ?_
  refine PP.icmp_gt (tgt := 30) (by first | omega | (unfold R32; omega)) (by first | omega | (unfold R32; omega)) dX1_putIfRoom_18 (by decide) (fun h18 => ?_) (fun h18 => ?_)
  · refine PP.iload_n dX1_putIfRoom_30 rfl ?_
    refine PP.iret dX1_putIfRoom_31 rfl ?_
    first
    | exact ⟨_, rfl, by unfold pl1; rw [if_pos (by omega)], OC_put ho ht (by omega), fun c h0 h1 h2 => stdU_ne (by omega) (by omega) (by omega)⟩
    | exact ⟨_, rfl, by unfold pl1; rw [if_neg (by omega)], OC_no ho (by omega), fun c _ _ _ => rfl⟩
  · refine PP.aload_n dX1_putIfRoom_21 rfl ?_
    refine PP.iload_n dX1_putIfRoom_22 rfl ?_
    refine PP.iload_n dX1_putIfRoom_23 rfl ?_
    refine PP.callVi (ok_putLookingIn hw hD ht (by omega)) dX1_putIfRoom_24 vl_X1_94 sc28 rfl rfl rfl rfl (Nat.le_of_ble_eq_true rfl) (Nat.le_of_ble_eq_true rfl) ?_
    refine PP.goto (tgt := 31) dX1_putIfRoom_27 (by decide) ?_
    refine PP.iret dX1_putIfRoom_31 rfl ?_
    first
    | exact ⟨_, rfl, by unfold pl1; rw [if_pos (by omega)], OC_put ho ht (by omega), fun c h0 h1 h2 => stdU_ne (by omega) (by omega) (by omega)⟩
    | exact ⟨_, rfl, by unfold pl1; rw [if_neg (by omega)], OC_no ho (by omega), fun c _ _ _ => rfl⟩
theorem plL_app {T : Nat → Int} {l m : List Nat} : plL T (l ++ m) = m.foldl (pl1 T) (plL T l) := List.foldl_append
theorem ok_countByNumber {σ : Sg} {n : Nat} {T : Nat → Int} {w : Int} {wa : Nat → Bool} (hw : wfT T n) (hD : DR σ 14 T n) (hwa : 1 ≤ w ∧ w ≤ 9) : OK SHc mX1_countByNumber 6 [vR 28, vI (msk wa n : Nat), vI w] σ (RP (fun v τ => v = (rcl T n w ((List.range n).filter (fun t => !wa t)) : Nat) ∧ ∀ c, c ≠ 29 → c ≠ 30 → c ≠ 31 → c ≠ 32 → τ c = σ c)) := by
  have hn7 := hw.2.1
  have hsl := hw.2.2.1
  refine OK.enter (L' := [vR 28, vI (msk wa n : Nat), vI w, vN, vN]) (by decide +kernel) (by simp [ent0]) rfl ?_
  have key : ∀ o, o ≤ n → ∀ σ1 : Sg, OC σ1 T n w (plL T ((List.range o).filter (fun t => !wa t))) → (∀ c, c ≠ 29 → c ≠ 30 → c ≠ 31 → c ≠ 32 → σ1 c = σ c) → PP SHc mX1_countByNumber 6 10 [vR 28, vI (msk wa n : Nat), vI w, vI (plL T ((List.range o).filter (fun t => !wa t))).1, vI (o : Int)] [] σ1 (RP (fun v τ => v = (rcl T n w ((List.range n).filter (fun t => !wa t)) : Nat) ∧ ∀ c, c ≠ 29 → c ≠ 30 → c ≠ 31 → c ≠ 32 → τ c = σ c)) := by
    refine loop_dn n ?_ ?_
    · intro σ1 ho hfr
      have d3 : σ1 14 3 = (n : Int) := ho.1.2.2.2.2.1.2.2.2.1
      refine PP.iload dX1_countByNumber_10 rfl ?_
      refine PP.aload_n dX1_countByNumber_12 rfl ?_
      refine PP.getfR dX1_countByNumber_13 fl_X1_18 sc28 rfl ?_
      refine PP.getfI dX1_countByNumber_16 fl_X1_46 sc14 rfl ?_
      refine PP.icmp_ge (tgt := 45) (by first | omega | (unfold R32; omega)) (by first | omega | (unfold R32; omega)) dX1_countByNumber_19 (by decide) (fun h19 => ?_) (fun h19 => ?_)
      · refine PP.aload_n dX1_countByNumber_45 rfl ?_
        refine PP.getfR dX1_countByNumber_46 fl_X1_27 sc28 rfl ?_
        refine PP.callVi (ok_countClean ho.1 ho.2.1 (by omega)) dX1_countByNumber_49 vl_X1_129 sc29 rfl rfl rfl rfl (Nat.le_of_ble_eq_true rfl) (Nat.le_of_ble_eq_true rfl) ?_
        refine PP.iret dX1_countByNumber_52 rfl ?_
        exact ⟨_, rfl, rfl, hfr⟩
      · omega
    · intro o hon ih σ1 ho hfr
      have d3 : σ1 14 3 = (n : Int) := ho.1.2.2.2.2.1.2.2.2.1
      refine PP.iload dX1_countByNumber_10 rfl ?_
      refine PP.aload_n dX1_countByNumber_12 rfl ?_
      refine PP.getfR dX1_countByNumber_13 fl_X1_18 sc28 rfl ?_
      refine PP.getfI dX1_countByNumber_16 fl_X1_46 sc14 rfl ?_
      refine PP.icmp_ge (tgt := 45) (by first | omega | exact b2i_R _ | (unfold R32; omega)) (by first | omega | exact b2i_R _ | (unfold R32; omega)) dX1_countByNumber_19 (by decide) (fun h19 => ?_) (fun h19 => ?_)
      · omega
      · refine PP.iload_n dX1_countByNumber_22 rfl ?_
        refine PP.iload dX1_countByNumber_23 rfl ?_
        refine PP.ishrR (z := ((msk wa n / 2 ^ o) : Nat)) (shr_msk hn7 (by omega)) dX1_countByNumber_25 ?_
        refine PP.iconst dX1_countByNumber_26 ?_
        refine PP.iandR (z := (b2i (wa o))) (and_bit hon) dX1_countByNumber_27 ?_
        refine PP.if_ne (tgt := 39) (by first | omega | exact b2i_R _ | (unfold R32; omega)) dX1_countByNumber_28 (by decide) (fun h28 => ?_) (fun h28 => ?_)
        · refine PP.iinc (L' := [_, _, _, _, _]) dX1_countByNumber_39 rfl rfl rfl ?_
          refine PP.goto (tgt := 10) dX1_countByNumber_42 (by decide) ?_
          have e : (List.range (o + 1)).filter (fun t => !wa t) = (List.range o).filter (fun t => !wa t) := by rw [List.range_succ, List.filter_append]; simp [b2i_n.mp h28]
          rw [e] at ih
          exact ih σ1 ho hfr
        · refine PP.aload_n dX1_countByNumber_31 rfl ?_
          refine PP.iload dX1_countByNumber_32 rfl ?_
          refine PP.iload_n dX1_countByNumber_34 rfl ?_
          refine PP.callViP (ok_putIfRoom ho hon) dX1_countByNumber_35 vl_X1_126 sc28 rfl rfl rfl rfl (Nat.le_of_ble_eq_true rfl) (Nat.le_of_ble_eq_true rfl) (fun v35 τ35 hq35 => ?_)
          obtain ⟨p1, p2, p3⟩ := hq35
          refine PP.istore_n (L' := [_, _, _, _, _]) dX1_countByNumber_38 (Nat.le_of_ble_eq_true rfl) rfl rfl ?_
          refine PP.iinc (L' := [_, _, _, _, _]) dX1_countByNumber_39 rfl rfl rfl ?_
          refine PP.goto (tgt := 10) dX1_countByNumber_42 (by decide) ?_
          have e : (List.range (o + 1)).filter (fun t => !wa t) = (List.range o).filter (fun t => !wa t) ++ [o] := by rw [List.range_succ, List.filter_append]; simp [b2i_0.mp h28]
          rw [e, plL_app] at ih
          subst p1
          exact ih _ p2 (fun c h0 h1 h2 h3 => by rw [p3 c h1 h2 h3]; exact hfr c h0 h1 h2 h3)
  refine PP.aload_n dX1_countByNumber_0 rfl ?_
  refine PP.iload_n dX1_countByNumber_1 rfl ?_
  refine PP.callVn (ok_oEmpty (by unfold R32; omega)) dX1_countByNumber_2 vl_X1_42 sc28 rfl rfl rfl rfl (Nat.le_of_ble_eq_true rfl) (Nat.le_of_ble_eq_true rfl) ?_
  refine PP.iconst dX1_countByNumber_5 ?_
  refine PP.istore_n (L' := [_, _, _, _, _]) dX1_countByNumber_6 (Nat.le_of_ble_eq_true rfl) rfl rfl ?_
  refine PP.iconst dX1_countByNumber_7 ?_
  refine PP.istore (L' := [_, _, _, _, _]) dX1_countByNumber_8 (Nat.le_of_ble_eq_true rfl) rfl rfl ?_
  exact key 0 (by omega) _ (OC_E hw hD) (fun c h0 h1 h2 h3 => by rw [up_ne h0, lvU_ne (by omega) (by omega) (by omega)])
