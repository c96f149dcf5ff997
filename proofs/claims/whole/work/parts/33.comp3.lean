/-! the component's calls: more acts, what is kept, counts, what was seen -/
theorem RW_turn {σ : Sg} {r t : Nat} {T row : Nat → Int} {z : Int} (h : RW σ r T row) (hp : 0 ≤ row (2 + t)) : RW (up σ (r + 2) t z) r T (uf row (9 + t) z) := by
  refine ⟨fun u hu => ?_, ?_, ?_⟩
  · obtain ⟨h1, h2, h3⟩ := h.1 u hu
    have e1 : uf row (9 + t) z (2 + u) = row (2 + u) := uf_ne (by omega)
    have e3 : sdC T (fun t' => uf row (9 + t) z (2 + t')) u = sdC T (fun t => row (2 + t)) u := by simp only [sdC, e1]
    rw [e3, up_ne (by omega), up_ne (c' := r + 3) (by omega)]
    simp only [e1]
    refine ⟨h1, ?_, h3⟩
    by_cases e : u = t
    · subst e; rw [up_at, uf_at, if_neg (by omega)]
    · rw [up_j e, uf_ne (by omega)]; exact h2
  · rw [up_ne (by omega), uf_ne (by omega)]; exact h.2.1
  · rw [up_ne (by omega), uf_ne (by omega)]; exact h.2.2
theorem RW_45 {σ : Sg} {r : Nat} {T row : Nat → Int} {z : Int} (h : RW σ r T row) : RW (up σ r 4 z) r T (uf row 1 z) ∧ RW (up σ r 5 z) r T (uf row 0 z) := by
  have e : ∀ (k u : Nat), k < 2 → uf row k z (2 + u) = row (2 + u) ∧ uf row k z (9 + u) = row (9 + u) := fun k u hk => ⟨uf_ne (by omega), uf_ne (by omega)⟩
  have e3 : ∀ (k u : Nat), k < 2 → sdC T (fun t' => uf row k z (2 + t')) u = sdC T (fun t => row (2 + t)) u := fun k u hk => by simp only [sdC, (e k u hk).1]
  refine ⟨⟨fun u hu => ?_, ?_, ?_⟩, ⟨fun u hu => ?_, ?_, ?_⟩⟩
  · rw [e3 1 u (by decide), up_ne (by omega), up_ne (by omega), up_ne (by omega)]; simp only [(e 1 u (by decide)).1, (e 1 u (by decide)).2]; exact h.1 u hu
  · rw [up_at, uf_at]
  · rw [up_j (by decide), uf_ne (by decide)]; exact h.2.2
  · rw [e3 0 u (by decide), up_ne (by omega), up_ne (by omega), up_ne (by omega)]; simp only [(e 0 u (by decide)).1, (e 0 u (by decide)).2]; exact h.1 u hu
  · rw [up_j (by decide), uf_ne (by decide)]; exact h.2.1
  · rw [up_at, uf_at]
theorem c_turn {σ : Sg} {A : ST} {t : Int} (hA : RepC σ A) (hW : WF A) (hx : R32 t) : OK SHc mX5_turn 20 [vR 0, vI t] σ (RP (fun v τ => v = (spTurn A t).1 ∧ RepC τ (spTurn A t).2)) := by
  obtain ⟨len, txt, T, n, row, und, kep, sn⟩ := A
  obtain ⟨a1, a2, a3, a4, a5, a6, a7, a8, a9⟩ := RepC_e.mp hA
  obtain ⟨w1, w2, w3, w4, w5, -⟩ := WF_e.mp hW
  have hn7 := w3.2.1
  have hC := RC_of w3 w5 a3 a4
  simp only [spTurn, isT]
  refine OK.enter (L' := [vR 0, vI t]) (by decide +kernel) (by simp [ent0]) rfl ?_
  by_cases ht : 0 ≤ t ∧ t < (n : Int)
  · obtain ⟨j, rfl⟩ : ∃ j : Nat, t = (j : Int) := ⟨t.toNat, by omega⟩
    have hj : j < n := by omega
    have hin : inS (rP row) j = true ↔ 0 ≤ row (2 + j) := inS_t
    have hin0 : inS (rP row) j = false ↔ row (2 + j) < 0 := by rw [← Bool.not_eq_true, hin]; omega
    have hrg := wfR_rng w3 w5 hj
    rw [if_neg (fun h => h ht), Int.toNat_natCast]
    refine PP.aload_n dX5_turn_0 rfl ?_
    refine PP.getfR dX5_turn_1 fl_X5_23 sc0 rfl ?_
    refine PP.iload_n dX5_turn_4 rfl ?_
    refine PP.callVi (ok_has DK14 w3 a3 hx) dX5_turn_5 vl_X5_110 sc14 rfl rfl rfl rfl (Nat.le_of_ble_eq_true rfl) (by first | exact Nat.le_of_ble_eq_true rfl | omega) ?_
    refine PP.if_ne (tgt := 13) (by first | omega | exact b2i_R _ | (unfold R32; omega)) dX5_turn_8 (by decide) (fun h8 => ?_) (fun h8 => ?_)
    · refine PP.aload_n dX5_turn_13 rfl ?_
      refine PP.getfR dX5_turn_14 fl_X5_32 sc0 rfl ?_
      refine PP.iload_n dX5_turn_17 rfl ?_
      refine PP.callVi (ok_in hC (t := j) (by omega)) dX5_turn_18 vl_X5_126 sc20 rfl rfl rfl rfl (Nat.le_of_ble_eq_true rfl) (by first | exact Nat.le_of_ble_eq_true rfl | omega) ?_
      refine PP.if_ne (tgt := 27) (by first | omega | exact b2i_R _ | (unfold R32; omega)) dX5_turn_21 (by decide) (fun h21 => ?_) (fun h21 => ?_)
      · have hp := hin.mp (b2i_n.mp h21)
        rw [if_neg (by omega)]
        refine PP.aload_n dX5_turn_27 rfl ?_
        refine PP.getfR dX5_turn_28 fl_X5_51 sc0 rfl ?_
        refine PP.aload_n dX5_turn_31 rfl ?_
        refine PP.getfR dX5_turn_32 fl_X5_32 sc0 rfl ?_
        refine PP.callVnP (ok_push SK35 RK20 (by omega) a5 a4) dX5_turn_35 vl_X5_152 sc35 rfl rfl rfl rfl (Nat.le_of_ble_eq_true rfl) (by first | exact Nat.le_of_ble_eq_true rfl | omega) (fun τ35 hq35 => ?_)
        obtain ⟨p1, p2⟩ := hq35
        have a4' : RW τ35 20 T row := RW_cong a4 (fun c _ _ => p1 c (by omega) (by omega))
        have r2 := (RW20 a4' j (by omega)).2.1
        rw [if_neg (by omega)] at r2
        refine PP.aload_n dX5_turn_38 rfl ?_
        refine PP.getfR dX5_turn_39 fl_X5_32 sc0 rfl ?_
        refine PP.getfR dX5_turn_42 fl_X5_132 sc20 rfl ?_
        refine PP.iload_n dX5_turn_45 rfl ?_
        refine PP.iconst dX5_turn_46 ?_
        refine PP.aload_n dX5_turn_47 rfl ?_
        refine PP.getfR dX5_turn_48 fl_X5_32 sc0 rfl ?_
        refine PP.getfR dX5_turn_51 fl_X5_132 sc20 rfl ?_
        refine PP.iload_n dX5_turn_54 rfl ?_
        refine PP.ialoadN (n := j) sc22 (by first | decide | omega) (by first | rfl | omega) (by first | omega | exact b2i_R _ | (unfold R32; omega)) dX5_turn_55 ?_
        refine PP.eqI r2 ?_
        refine PP.isub dX5_turn_56 ?_
        refine PP.iastoreN (n := j) sc22 (by first | decide | omega) (by first | rfl | omega) (by first | omega | exact b2i_R _ | (unfold R32; omega)) (by first | omega | exact b2i_R _ | (unfold R32; omega)) dX5_turn_57 ?_
        refine PP.aload_n dX5_turn_58 rfl ?_
        refine PP.getfR dX5_turn_59 fl_X5_32 sc0 rfl ?_
        refine PP.getfR dX5_turn_62 fl_X5_132 sc20 rfl ?_
        refine PP.iload_n dX5_turn_65 rfl ?_
        refine PP.ialoadN (n := j) sc22 (by first | decide | omega) (by first | rfl | omega) (by first | omega | exact b2i_R _ | (unfold R32; omega)) dX5_turn_66 ?_
        refine PP.eqI up_at ?_
        refine PP.iret dX5_turn_67 rfl ?_
        refine ⟨_, rfl, rfl, RepC_act hA (fun c hc => ?_) (RW_turn (r := 20) a4' hp) (SHR_cong p2 ?_ ?_)⟩
        · rw [up_ne (by omega), p1 c (by omega) (by omega)]
        · rw [up_ne (by omega)]
        · rw [up_ne (by omega)]
      · refine PP.bipush dX5_turn_24 (by decide) ?_
        refine PP.iret dX5_turn_26 rfl ?_
        rw [if_pos (hin0.mp (b2i_0.mp h21))]
        exact ⟨_, rfl, rfl, hA⟩
    · rw [decide_eq_true ht] at h8; cases h8
  · rw [if_pos ht]
    refine PP.aload_n dX5_turn_0 rfl ?_
    refine PP.getfR dX5_turn_1 fl_X5_23 sc0 rfl ?_
    refine PP.iload_n dX5_turn_4 rfl ?_
    refine PP.callVi (ok_has DK14 w3 a3 hx) dX5_turn_5 vl_X5_110 sc14 rfl rfl rfl rfl (Nat.le_of_ble_eq_true rfl) (by first | exact Nat.le_of_ble_eq_true rfl | omega) ?_
    refine PP.if_ne (tgt := 13) (by first | omega | exact b2i_R _) dX5_turn_8 (by decide) (fun h8 => ?_) (fun h8 => ?_)
    · rw [decide_eq_false ht] at h8; exact absurd rfl h8
    · refine PP.iconst dX5_turn_11 ?_
      refine PP.iret dX5_turn_12 rfl ?_
      exact ⟨_, rfl, rfl, hA⟩
theorem c_takeOut {σ : Sg} {A : ST} {t : Int} (hA : RepC σ A) (hW : WF A) (hx : R32 t) : OK SHc mX5_takeOut 20 [vR 0, vI t] σ (RP (fun v τ => v = (spTakeOut A t).1 ∧ RepC τ (spTakeOut A t).2)) := by
  obtain ⟨len, txt, T, n, row, und, kep, sn⟩ := A
  obtain ⟨a1, a2, a3, a4, a5, a6, a7, a8, a9⟩ := RepC_e.mp hA
  obtain ⟨w1, w2, w3, w4, w5, -⟩ := WF_e.mp hW
  have hn7 := w3.2.1
  have hC := RC_of w3 w5 a3 a4
  simp only [spTakeOut, isT]
  refine OK.enter (L' := [vR 0, vI t]) (by decide +kernel) (by simp [ent0]) rfl ?_
  by_cases ht : 0 ≤ t ∧ t < (n : Int)
  · obtain ⟨j, rfl⟩ : ∃ j : Nat, t = (j : Int) := ⟨t.toNat, by omega⟩
    have hj : j < n := by omega
    have hin : inS (rP row) j = true ↔ 0 ≤ row (2 + j) := inS_t
    have hin0 : inS (rP row) j = false ↔ row (2 + j) < 0 := by rw [← Bool.not_eq_true, hin]; omega
    rw [if_neg (fun h => h ht), Int.toNat_natCast]
    refine PP.aload_n dX5_takeOut_0 rfl ?_
    refine PP.getfR dX5_takeOut_1 fl_X5_23 sc0 rfl ?_
    refine PP.iload_n dX5_takeOut_4 rfl ?_
    refine PP.callVi (ok_has DK14 w3 a3 hx) dX5_takeOut_5 vl_X5_110 sc14 rfl rfl rfl rfl (Nat.le_of_ble_eq_true rfl) (by first | exact Nat.le_of_ble_eq_true rfl | omega) ?_
    refine PP.if_ne (tgt := 13) (by first | omega | exact b2i_R _ | (unfold R32; omega)) dX5_takeOut_8 (by decide) (fun h8 => ?_) (fun h8 => ?_)
    · refine PP.aload_n dX5_takeOut_13 rfl ?_
      refine PP.getfR dX5_takeOut_14 fl_X5_32 sc0 rfl ?_
      refine PP.iload_n dX5_takeOut_17 rfl ?_
      refine PP.callVi (ok_in hC (t := j) (by omega)) dX5_takeOut_18 vl_X5_126 sc20 rfl rfl rfl rfl (Nat.le_of_ble_eq_true rfl) (by first | exact Nat.le_of_ble_eq_true rfl | omega) ?_
      refine PP.if_ne (tgt := 27) (by first | omega | exact b2i_R _ | (unfold R32; omega)) dX5_takeOut_21 (by decide) (fun h21 => ?_) (fun h21 => ?_)
      · have hp := hin.mp (b2i_n.mp h21)
        rw [if_neg (by omega)]
        refine PP.aload_n dX5_takeOut_27 rfl ?_
        refine PP.getfR dX5_takeOut_28 fl_X5_51 sc0 rfl ?_
        refine PP.aload_n dX5_takeOut_31 rfl ?_
        refine PP.getfR dX5_takeOut_32 fl_X5_32 sc0 rfl ?_
        refine PP.callVnP (ok_push SK35 RK20 (by omega) a5 a4) dX5_takeOut_35 vl_X5_152 sc35 rfl rfl rfl rfl (Nat.le_of_ble_eq_true rfl) (by first | exact Nat.le_of_ble_eq_true rfl | omega) (fun τ35 hq35 => ?_)
        obtain ⟨p1, p2⟩ := hq35
        have a3' : DR τ35 14 T n := DR_cong a3 (fun c _ _ => p1 c (by omega) (by omega))
        have a4' : RW τ35 20 T row := RW_cong a4 (fun c _ _ => p1 c (by omega) (by omega))
        refine PP.aload_n dX5_takeOut_38 rfl ?_
        refine PP.getfR dX5_takeOut_39 fl_X5_32 sc0 rfl ?_
        refine PP.iload_n dX5_takeOut_42 rfl ?_
        refine PP.callVn (ok_leave RK20 (t := j) (by omega)) dX5_takeOut_43 vl_X5_162 sc20 rfl rfl rfl rfl (Nat.le_of_ble_eq_true rfl) (by first | exact Nat.le_of_ble_eq_true rfl | omega) ?_
        have hR2 := RW_out a4' (show j < 7 by omega)
        have hC2 := RC_of w3 (wfR_out w3 w5 hj) (DR_cong a3' (fun c _ _ => stdU_ne (by omega) (by omega) (by omega))) hR2
        refine PP.aload_n dX5_takeOut_46 rfl ?_
        refine PP.getfR dX5_takeOut_47 fl_X5_32 sc0 rfl ?_
        refine PP.callVi (ok_countIn hC2) dX5_takeOut_50 vl_X5_159 sc20 rfl rfl rfl rfl (Nat.le_of_ble_eq_true rfl) (by first | exact Nat.le_of_ble_eq_true rfl | omega) ?_
        refine PP.iret dX5_takeOut_53 rfl ?_
        refine ⟨_, rfl, rfl, RepC_act hA (fun c hc => ?_) hR2 (SHR_cong p2 ?_ ?_)⟩
        · rw [stdU_ne (by omega) (by omega) (by omega), p1 c (by omega) (by omega)]
        · rw [stdU_ne (by omega) (by omega) (by omega)]
        · rw [stdU_ne (by omega) (by omega) (by omega)]
      · refine PP.bipush dX5_takeOut_24 (by decide) ?_
        refine PP.iret dX5_takeOut_26 rfl ?_
        rw [if_pos (hin0.mp (b2i_0.mp h21))]
        exact ⟨_, rfl, rfl, hA⟩
    · rw [decide_eq_true ht] at h8; cases h8
  · rw [if_pos ht]
    refine PP.aload_n dX5_takeOut_0 rfl ?_
    refine PP.getfR dX5_takeOut_1 fl_X5_23 sc0 rfl ?_
    refine PP.iload_n dX5_takeOut_4 rfl ?_
    refine PP.callVi (ok_has DK14 w3 a3 hx) dX5_takeOut_5 vl_X5_110 sc14 rfl rfl rfl rfl (Nat.le_of_ble_eq_true rfl) (by first | exact Nat.le_of_ble_eq_true rfl | omega) ?_
    refine PP.if_ne (tgt := 13) (by first | omega | exact b2i_R _) dX5_takeOut_8 (by decide) (fun h8 => ?_) (fun h8 => ?_)
    · rw [decide_eq_false ht] at h8; exact absurd rfl h8
    · refine PP.iconst dX5_takeOut_11 ?_
      refine PP.iret dX5_takeOut_12 rfl ?_
      exact ⟨_, rfl, rfl, hA⟩
theorem c_wash {σ : Sg} {A : ST} {t : Int} (hA : RepC σ A) (hW : WF A) (hx : R32 t) : OK SHc mX5_wash 20 [vR 0, vI t] σ (RP (fun v τ => v = (spWash A t).1 ∧ RepC τ (spWash A t).2)) := by
  obtain ⟨len, txt, T, n, row, und, kep, sn⟩ := A
  obtain ⟨a1, a2, a3, a4, a5, a6, a7, a8, a9⟩ := RepC_e.mp hA
  obtain ⟨w1, w2, w3, w4, w5, -⟩ := WF_e.mp hW
  have hn7 := w3.2.1
  have hws := wsh_m w5
  simp only [spWash, isT]
  refine OK.enter (L' := [vR 0, vI t]) (by decide +kernel) (by simp [ent0]) rfl ?_
  by_cases ht : 0 ≤ t ∧ t < (n : Int)
  · obtain ⟨j, rfl⟩ : ∃ j : Nat, t = (j : Int) := ⟨t.toNat, by omega⟩
    have hj : j < n := by omega
    rw [if_neg (fun h => h ht), Int.toNat_natCast]
    have h7 := msk_128 (fun u => wsh row u || decide (u = j)) hn7
    refine PP.aload_n dX5_wash_0 rfl ?_
    refine PP.getfR dX5_wash_1 fl_X5_23 sc0 rfl ?_
    refine PP.iload_n dX5_wash_4 rfl ?_
    refine PP.callVi (ok_has DK14 w3 a3 hx) dX5_wash_5 vl_X5_110 sc14 rfl rfl rfl rfl (Nat.le_of_ble_eq_true rfl) (by first | exact Nat.le_of_ble_eq_true rfl | omega) ?_
    refine PP.if_ne (tgt := 13) (by first | omega | exact b2i_R _ | (unfold R32; omega)) dX5_wash_8 (by decide) (fun h8 => ?_) (fun h8 => ?_)
    · refine PP.aload_n dX5_wash_13 rfl ?_
      refine PP.getfR dX5_wash_14 fl_X5_32 sc0 rfl ?_
      refine PP.iload_n dX5_wash_17 rfl ?_
      refine PP.callVi (ok_isWashed (p := wsh row) (n := n) RK20 (by rw [a4.2.1, hws]) hn7 hj) dX5_wash_18 vl_X5_135 sc20 rfl rfl rfl rfl (Nat.le_of_ble_eq_true rfl) (by first | exact Nat.le_of_ble_eq_true rfl | omega) ?_
      refine PP.if_eq (tgt := 27) (by first | omega | exact b2i_R _ | (unfold R32; omega)) dX5_wash_21 (by decide) (fun h21 => ?_) (fun h21 => ?_)
      · rw [if_neg (by rw [b2i_0.mp h21]; decide)]
        refine PP.aload_n dX5_wash_27 rfl ?_
        refine PP.getfR dX5_wash_28 fl_X5_51 sc0 rfl ?_
        refine PP.aload_n dX5_wash_31 rfl ?_
        refine PP.getfR dX5_wash_32 fl_X5_32 sc0 rfl ?_
        refine PP.callVnP (ok_push SK35 RK20 (by omega) a5 a4) dX5_wash_35 vl_X5_152 sc35 rfl rfl rfl rfl (Nat.le_of_ble_eq_true rfl) (by first | exact Nat.le_of_ble_eq_true rfl | omega) (fun τ35 hq35 => ?_)
        obtain ⟨p1, p2⟩ := hq35
        have a4' : RW τ35 20 T row := RW_cong a4 (fun c _ _ => p1 c (by omega) (by omega))
        refine PP.aload_n dX5_wash_38 rfl ?_
        refine PP.getfR dX5_wash_39 fl_X5_32 sc0 rfl ?_
        refine PP.iload_n dX5_wash_42 rfl ?_
        refine PP.callVn (ok_leave RK20 (t := j) (by omega)) dX5_wash_43 vl_X5_162 sc20 rfl rfl rfl rfl (Nat.le_of_ble_eq_true rfl) (by first | exact Nat.le_of_ble_eq_true rfl | omega) ?_
        have hR2 := RW_out a4' (show j < 7 by omega)
        have hR3 := (RW_45 (z := ((msk (fun u => wsh row u || decide (u = j)) n : Nat) : Int)) hR2).1
        refine PP.aload_n dX5_wash_46 rfl ?_
        refine PP.getfR dX5_wash_47 fl_X5_32 sc0 rfl ?_
        refine PP.dup rfl dX5_wash_50 ?_
        refine PP.getfI dX5_wash_51 fl_X5_165 sc20 rfl ?_
        refine PP.eqI (y := ((msk (wsh row) n : Nat) : Int)) (by rw [stdU_ne (by omega) (by omega) (by omega), a4'.2.1, hws]) ?_
        refine PP.iconst dX5_wash_54 ?_
        refine PP.iload_n dX5_wash_55 rfl ?_
        refine PP.ishlR (z := ((2 ^ j) : Nat)) (shl1_o (by omega)) dX5_wash_56 ?_
        refine PP.iorR (z := ((msk (fun u => wsh row u || decide (u = j)) n) : Nat)) ((ior_n _ _).trans (by rw [msk_upd hj])) dX5_wash_57 ?_
        refine PP.putI dX5_wash_58 fp_X5_165 sc20 rfl (by first | omega | exact b2i_R _ | (unfold R32; omega)) ?_
        refine PP.aload_n dX5_wash_61 rfl ?_
        refine PP.getfR dX5_wash_62 fl_X5_32 sc0 rfl ?_
        refine PP.getfI dX5_wash_65 fl_X5_165 sc20 rfl ?_
        refine PP.eqI up_at ?_
        refine PP.callSi (ok_bitCount h7) dX5_wash_68 sl_X5_168 rfl rfl (Nat.le_of_ble_eq_true rfl) (by first | exact Nat.le_of_ble_eq_true rfl | omega) ?_
        refine PP.iret dX5_wash_71 rfl ?_
        refine ⟨_, rfl, by rw [pc7_msk hn7], RepC_act hA (fun c hc => ?_) hR3 (SHR_cong p2 ?_ ?_)⟩
        · rw [up_ne (by omega), stdU_ne (by omega) (by omega) (by omega), p1 c (by omega) (by omega)]
        · rw [up_ne (by omega), stdU_ne (by omega) (by omega) (by omega)]
        · rw [up_ne (by omega), stdU_ne (by omega) (by omega) (by omega)]
      · refine PP.bipush dX5_wash_24 (by decide) ?_
        refine PP.iret dX5_wash_26 rfl ?_
        rw [if_pos (b2i_n.mp h21)]
        exact ⟨_, rfl, rfl, hA⟩
    · rw [decide_eq_true ht] at h8; cases h8
  · rw [if_pos ht]
    refine PP.aload_n dX5_wash_0 rfl ?_
    refine PP.getfR dX5_wash_1 fl_X5_23 sc0 rfl ?_
    refine PP.iload_n dX5_wash_4 rfl ?_
    refine PP.callVi (ok_has DK14 w3 a3 hx) dX5_wash_5 vl_X5_110 sc14 rfl rfl rfl rfl (Nat.le_of_ble_eq_true rfl) (by first | exact Nat.le_of_ble_eq_true rfl | omega) ?_
    refine PP.if_ne (tgt := 13) (by first | omega | exact b2i_R _) dX5_wash_8 (by decide) (fun h8 => ?_) (fun h8 => ?_)
    · rw [decide_eq_false ht] at h8; exact absurd rfl h8
    · refine PP.iconst dX5_wash_11 ?_
      refine PP.iret dX5_wash_12 rfl ?_
      exact ⟨_, rfl, rfl, hA⟩
theorem c_water {σ : Sg} {A : ST} {p : Int} (hA : RepC σ A) (hW : WF A) (hx : R32 p) : OK SHc mX5_water 20 [vR 0, vI p] σ (RP (fun v τ => v = (spWater A p).1 ∧ RepC τ (spWater A p).2)) := by
  obtain ⟨len, txt, T, n, row, und, kep, sn⟩ := A
  obtain ⟨a1, a2, a3, a4, a5, a6, a7, a8, a9⟩ := RepC_e.mp hA
  obtain ⟨w1, w2, w3, w4, w5, -⟩ := WF_e.mp hW
  simp only [spWater]
  refine OK.enter (L' := [vR 0, vI p, vN]) (by decide +kernel) (by simp [ent0]) rfl ?_
  refine PP.iload_n dX5_water_0 rfl ?_
  refine PP.iconst dX5_water_1 ?_
  refine PP.icmp_lt (tgt := 11) (by first | omega | assumption | (unfold R32; omega)) (by first | omega | assumption | (unfold R32; omega)) dX5_water_2 (by decide) (fun h2 => ?_) (fun h2 => ?_)
  · refine PP.iconst dX5_water_11 ?_
    refine PP.iret dX5_water_12 rfl ?_
    rw [if_pos (by omega)]
    exact ⟨_, rfl, rfl, hA⟩
  · refine PP.iload_n dX5_water_5 rfl ?_
    refine PP.bipush dX5_water_6 (by decide) ?_
    refine PP.icmp_le (tgt := 13) (by first | omega | assumption | (unfold R32; omega)) (by first | omega | assumption | (unfold R32; omega)) dX5_water_8 (by decide) (fun h8 => ?_) (fun h8 => ?_)
    · refine PP.aload_n dX5_water_13 rfl ?_
      refine PP.getfR dX5_water_14 fl_X5_32 sc0 rfl ?_
      refine PP.getfI dX5_water_17 fl_X5_173 sc20 rfl ?_
      refine PP.eqI a4.2.2 ?_
      refine PP.istore_n (L' := [_, _, _]) dX5_water_20 (Nat.le_of_ble_eq_true rfl) rfl rfl ?_
      refine PP.aload_n dX5_water_21 rfl ?_
      refine PP.getfR dX5_water_22 fl_X5_51 sc0 rfl ?_
      refine PP.aload_n dX5_water_25 rfl ?_
      refine PP.getfR dX5_water_26 fl_X5_32 sc0 rfl ?_
      refine PP.callVnP (ok_push SK35 RK20 (by omega) a5 a4) dX5_water_29 vl_X5_152 sc35 rfl rfl rfl rfl (Nat.le_of_ble_eq_true rfl) (by first | exact Nat.le_of_ble_eq_true rfl | omega) (fun τ29 hq29 => ?_)
      obtain ⟨p1, p2⟩ := hq29
      refine PP.aload_n dX5_water_32 rfl ?_
      refine PP.getfR dX5_water_33 fl_X5_32 sc0 rfl ?_
      refine PP.iload_n dX5_water_36 rfl ?_
      refine PP.putI dX5_water_37 fp_X5_173 sc20 rfl (by first | omega | assumption | (unfold R32; omega)) ?_
      refine PP.iload_n dX5_water_40 rfl ?_
      refine PP.iret dX5_water_41 rfl ?_
      rw [if_neg (by omega)]
      have a4' : RW τ29 20 T row := RW_cong a4 (fun c _ _ => p1 c (by omega) (by omega))
      refine ⟨_, rfl, rfl, RepC_act hA (fun c hc => ?_) (RW_45 (z := p) a4').2 (SHR_cong p2 ?_ ?_)⟩
      · rw [up_ne (by omega), p1 c (by omega) (by omega)]
      · rw [up_ne (by omega)]
      · rw [up_ne (by omega)]
    · refine PP.iconst dX5_water_11 ?_
      refine PP.iret dX5_water_12 rfl ?_
      rw [if_pos (by omega)]
      exact ⟨_, rfl, rfl, hA⟩
theorem c_undo {σ : Sg} {A : ST} (hA : RepC σ A) (hW : WF A) : OK SHc mX5_undo 20 [vR 0] σ (RP (fun v τ => v = (spUndo A).1 ∧ RepC τ (spUndo A).2)) := by
  obtain ⟨len, txt, T, n, row, und, kep, sn⟩ := A
  obtain ⟨a1, a2, a3, a4, a5, a6, a7, a8, a9⟩ := RepC_e.mp hA
  obtain ⟨w1, w2, w3, w4, w5, w6, -⟩ := WF_e.mp hW
  have hl := a5.2.1
  have hl8 := a5.2.2.1
  refine OK.enter (L' := [vR 0]) (by decide +kernel) (by simp [ent0]) rfl ?_
  rcases List.eq_nil_or_concat und with rfl | ⟨Rs, r, eRs⟩
  · simp only [spUndo, List.getLast?_nil]
    simp only [List.length_nil] at hl
    refine PP.aload_n dX5_undo_0 rfl ?_
    refine PP.getfR dX5_undo_1 fl_X5_51 sc0 rfl ?_
    refine PP.getfI dX5_undo_4 fl_X5_97 sc35 rfl ?_
    refine PP.if_ne (tgt := 13) (by first | omega | (unfold R32; omega)) dX5_undo_7 (by decide) (fun h7 => ?_) (fun h7 => ?_)
    · omega
    · refine PP.bipush dX5_undo_10 (by decide) ?_
      refine PP.iret dX5_undo_12 rfl ?_
      exact ⟨_, rfl, rfl, hA⟩
  · rw [List.concat_eq_append] at eRs
    subst eRs
    simp only [spUndo, List.getLast?_concat, List.dropLast_concat, List.length_append, List.length_singleton]
    rw [show (Rs ++ [r]).length = Rs.length + 1 from by simp] at hl hl8
    refine PP.aload_n dX5_undo_0 rfl ?_
    refine PP.getfR dX5_undo_1 fl_X5_51 sc0 rfl ?_
    refine PP.getfI dX5_undo_4 fl_X5_97 sc35 rfl ?_
    refine PP.if_ne (tgt := 13) (by first | omega | (unfold R32; omega)) dX5_undo_7 (by decide) (fun h7 => ?_) (fun h7 => ?_)
    · refine PP.aload_n dX5_undo_13 rfl ?_
      refine PP.getfR dX5_undo_14 fl_X5_51 sc0 rfl ?_
      refine PP.aload_n dX5_undo_17 rfl ?_
      refine PP.getfR dX5_undo_18 fl_X5_32 sc0 rfl ?_
      refine PP.callVnP (ok_pop SK35 RK20 DK14 (by omega) w3 a3 a5 (w6 r (by simp))) dX5_undo_21 vl_X5_176 sc35 rfl rfl rfl rfl (Nat.le_of_ble_eq_true rfl) (by first | exact Nat.le_of_ble_eq_true rfl | omega) (fun τ21 hq21 => ?_)
      obtain ⟨p1, p2, p3⟩ := hq21
      refine PP.aload_n dX5_undo_24 rfl ?_
      refine PP.getfR dX5_undo_25 fl_X5_51 sc0 rfl ?_
      refine PP.getfI dX5_undo_28 fl_X5_97 sc35 rfl ?_
      refine PP.iret dX5_undo_31 rfl ?_
      refine ⟨_, rfl, by rw [p2.2.1]; omega, RepC_e.mpr ⟨?_, fun j hj => ?_, ?_, p3, p2, ?_, ?_, ?_, ?_⟩⟩
      · rw [p1 0 (by omega) (by omega) (by omega) (by omega) (by omega)]; exact a1
      · rw [p1 1 (by omega) (by omega) (by omega) (by omega) (by omega)]; exact a2 j hj
      · exact DR_cong a3 (fun c _ _ => p1 c (by omega) (by omega) (by omega) (by omega) (by omega))
      · exact SHR_cong a6 (p1 _ (by omega) (by omega) (by omega) (by omega) (by omega)) (p1 _ (by omega) (by omega) (by omega) (by omega) (by omega))
      · rw [p1 0 (by omega) (by omega) (by omega) (by omega) (by omega)]; exact a7
      · rw [p1 0 (by omega) (by omega) (by omega) (by omega) (by omega)]; exact a8
      · exact CH_cong a9 (p1 _ (by omega) (by omega) (by omega) (by omega) (by omega)) (p1 _ (by omega) (by omega) (by omega) (by omega) (by omega))
    · omega
theorem c_keep {σ : Sg} {A : ST} (hA : RepC σ A) (hW : WF A) : OK SHc mX5_keep 20 [vR 0] σ (RP (fun v τ => v = (spKeep A).1 ∧ RepC τ (spKeep A).2)) := by
  obtain ⟨len, txt, T, n, row, und, kep, sn⟩ := A
  obtain ⟨a1, a2, a3, a4, a5, a6, a7, a8, a9⟩ := RepC_e.mp hA
  have hl := a6.2.1
  have hl2 := a6.2.2.1
  simp only [spKeep]
  refine OK.enter (L' := [vR 0]) (by decide +kernel) (by simp [ent0]) rfl ?_
  refine PP.aload_n dX5_keep_0 rfl ?_
  refine PP.getfR dX5_keep_1 fl_X5_55 sc0 rfl ?_
  refine PP.getfI dX5_keep_4 fl_X5_97 sc37 rfl ?_
  refine PP.iconst dX5_keep_7 ?_
  refine PP.icmp_lt (tgt := 14) (by first | omega | (unfold R32; omega)) (by first | omega | (unfold R32; omega)) dX5_keep_8 (by decide) (fun h8 => ?_) (fun h8 => ?_)
  · refine PP.aload_n dX5_keep_14 rfl ?_
    refine PP.getfR dX5_keep_15 fl_X5_55 sc0 rfl ?_
    refine PP.aload_n dX5_keep_18 rfl ?_
    refine PP.getfR dX5_keep_19 fl_X5_32 sc0 rfl ?_
    refine PP.callVnP (ok_push SK37 RK20 (by omega) a6 a4) dX5_keep_22 vl_X5_152 sc37 rfl rfl rfl rfl (Nat.le_of_ble_eq_true rfl) (by first | exact Nat.le_of_ble_eq_true rfl | omega) (fun τ22 hq22 => ?_)
    obtain ⟨p1, p2⟩ := hq22
    refine PP.aload_n dX5_keep_25 rfl ?_
    refine PP.getfR dX5_keep_26 fl_X5_55 sc0 rfl ?_
    refine PP.getfI dX5_keep_29 fl_X5_97 sc37 rfl ?_
    refine PP.iret dX5_keep_32 rfl ?_
    rw [if_neg (by omega)]
    have e : pushL 2 kep row = kep ++ [row] := by unfold pushL; rw [if_pos (by omega)]
    rw [e] at p2
    refine ⟨_, rfl, by rw [p2.2.1]; simp, RepC_e.mpr ⟨?_, fun j hj => ?_, ?_, ?_, ?_, p2, ?_, ?_, ?_⟩⟩
    · rw [p1 0 (by omega) (by omega)]; exact a1
    · rw [p1 1 (by omega) (by omega)]; exact a2 j hj
    · exact DR_cong a3 (fun c _ _ => p1 c (by omega) (by omega))
    · exact RW_cong a4 (fun c _ _ => p1 c (by omega) (by omega))
    · exact SHR_cong a5 (p1 _ (by omega) (by omega)) (p1 _ (by omega) (by omega))
    · rw [p1 0 (by omega) (by omega)]; exact a7
    · rw [p1 0 (by omega) (by omega)]; exact a8
    · exact CH_cong a9 (p1 _ (by omega) (by omega)) (p1 _ (by omega) (by omega))
  · refine PP.bipush dX5_keep_11 (by decide) ?_
    refine PP.iret dX5_keep_13 rfl ?_
    rw [if_pos (by omega)]
    exact ⟨_, rfl, rfl, hA⟩
theorem c_back {σ : Sg} {A : ST} (hA : RepC σ A) (hW : WF A) : OK SHc mX5_back 20 [vR 0] σ (RP (fun v τ => v = (spBack A).1 ∧ RepC τ (spBack A).2)) := by
  obtain ⟨len, txt, T, n, row, und, kep, sn⟩ := A
  obtain ⟨a1, a2, a3, a4, a5, a6, a7, a8, a9⟩ := RepC_e.mp hA
  obtain ⟨w1, w2, w3, w4, w5, w6, w7, -⟩ := WF_e.mp hW
  have hl := a6.2.1
  have hl8 := a6.2.2.1
  refine OK.enter (L' := [vR 0]) (by decide +kernel) (by simp [ent0]) rfl ?_
  rcases List.eq_nil_or_concat kep with rfl | ⟨Rs, r, eRs⟩
  · simp only [spBack, List.getLast?_nil]
    simp only [List.length_nil] at hl
    refine PP.aload_n dX5_back_0 rfl ?_
    refine PP.getfR dX5_back_1 fl_X5_55 sc0 rfl ?_
    refine PP.getfI dX5_back_4 fl_X5_97 sc37 rfl ?_
    refine PP.if_ne (tgt := 13) (by first | omega | (unfold R32; omega)) dX5_back_7 (by decide) (fun h7 => ?_) (fun h7 => ?_)
    · omega
    · refine PP.bipush dX5_back_10 (by decide) ?_
      refine PP.iret dX5_back_12 rfl ?_
      exact ⟨_, rfl, rfl, hA⟩
  · rw [List.concat_eq_append] at eRs
    subst eRs
    simp only [spBack, List.getLast?_concat, List.dropLast_concat, List.length_append, List.length_singleton]
    rw [show (Rs ++ [r]).length = Rs.length + 1 from by simp] at hl hl8
    refine PP.aload_n dX5_back_0 rfl ?_
    refine PP.getfR dX5_back_1 fl_X5_55 sc0 rfl ?_
    refine PP.getfI dX5_back_4 fl_X5_97 sc37 rfl ?_
    refine PP.if_ne (tgt := 13) (by first | omega | (unfold R32; omega)) dX5_back_7 (by decide) (fun h7 => ?_) (fun h7 => ?_)
    · refine PP.aload_n dX5_back_13 rfl ?_
      refine PP.getfR dX5_back_14 fl_X5_55 sc0 rfl ?_
      refine PP.aload_n dX5_back_17 rfl ?_
      refine PP.getfR dX5_back_18 fl_X5_32 sc0 rfl ?_
      refine PP.callVnP (ok_pop SK37 RK20 DK14 (by omega) w3 a3 a6 (w7 r (by simp))) dX5_back_21 vl_X5_176 sc37 rfl rfl rfl rfl (Nat.le_of_ble_eq_true rfl) (by first | exact Nat.le_of_ble_eq_true rfl | omega) (fun τ21 hq21 => ?_)
      obtain ⟨p1, p2, p3⟩ := hq21
      refine PP.aload_n dX5_back_24 rfl ?_
      refine PP.getfR dX5_back_25 fl_X5_51 sc0 rfl ?_
      refine PP.iconst dX5_back_28 ?_
      refine PP.putI dX5_back_29 fp_X5_97 sc35 rfl (by first | omega | (unfold R32; omega)) ?_
      refine PP.aload_n dX5_back_32 rfl ?_
      refine PP.getfR dX5_back_33 fl_X5_55 sc0 rfl ?_
      refine PP.getfI dX5_back_36 fl_X5_97 sc37 rfl ?_
      refine PP.iret dX5_back_39 rfl ?_
      refine ⟨_, rfl, by rw [up_ne (by omega), p2.2.1]; omega, RepC_e.mpr ⟨?_, fun j hj => ?_, ?_, ?_, ⟨?_, ?_, by simp, fun k row hk => by simp at hk⟩, ?_, ?_, ?_, ?_⟩⟩
      · rw [up_ne (by omega), p1 0 (by omega) (by omega) (by omega) (by omega) (by omega)]; exact a1
      · rw [up_ne (by omega), p1 1 (by omega) (by omega) (by omega) (by omega) (by omega)]; exact a2 j hj
      · exact DR_cong a3 (fun c _ _ => by rw [up_ne (by omega), p1 c (by omega) (by omega) (by omega) (by omega) (by omega)])
      · exact RW_cong p3 (fun c _ _ => by rw [up_ne (by omega)])
      · rw [up_j (by decide), p1 35 (by omega) (by omega) (by omega) (by omega) (by omega)]; exact a5.1
      · rw [up_at]; rfl
      · exact SHR_cong p2 (by rw [up_ne (by omega)]) (by rw [up_ne (by omega)])
      · rw [up_ne (by omega), p1 0 (by omega) (by omega) (by omega) (by omega) (by omega)]; exact a7
      · rw [up_ne (by omega), p1 0 (by omega) (by omega) (by omega) (by omega) (by omega)]; exact a8
      · exact CH_cong a9 (by rw [up_ne (by omega), p1 _ (by omega) (by omega) (by omega) (by omega) (by omega)]) (by rw [up_ne (by omega), p1 _ (by omega) (by omega) (by omega) (by omega) (by omega)])
    · omega
theorem c_count {σ : Sg} {A : ST} {what : Int} (hA : RepC σ A) (hW : WF A) (hx : R32 what) : OK SHc mX5_count 20 [vR 0, vI what] σ (RP (fun v τ => v = qCount A what ∧ RepC τ A)) := by
  obtain ⟨len, txt, T, n, row, und, kep, sn⟩ := A
  obtain ⟨a1, a2, a3, a4, a5, a6, a7, a8, a9⟩ := RepC_e.mp hA
  obtain ⟨w1, w2, w3, w4, w5, -⟩ := WF_e.mp hW
  have hn7 := w3.2.1
  have hC := RC_of w3 w5 a3 a4
  obtain ⟨d0, d1, d2, d3, -⟩ := id a3
  have hws := wsh_m w5
  simp only [qCount]
  refine OK.enter (L' := [vR 0, vI what]) (by decide +kernel) (by simp [ent0]) rfl ?_
  refine PP.iload_n dX5_count_0 rfl ?_
  by_cases hs1_0 : what = 0
  · refine PP.tabI (i := 0) (off := 59) (tgt := 60) (by omega) (by omega) (by decide) (by first | assumption | omega) dX5_count_1 rfl (by decide) ?_
    refine PP.aload_n dX5_count_60 rfl ?_
    refine PP.getfR dX5_count_61 fl_X5_23 sc0 rfl ?_
    refine PP.getfI dX5_count_64 fl_X5_87 sc14 rfl ?_
    refine PP.iret dX5_count_67 rfl ?_
    rw [if_pos (by omega)]; exact ⟨_, rfl, d3, hA⟩
  by_cases hs1_1 : what = 1
  · refine PP.tabI (i := 1) (off := 67) (tgt := 68) (by omega) (by omega) (by decide) (by first | assumption | omega) dX5_count_1 rfl (by decide) ?_
    refine PP.aload_n dX5_count_68 rfl ?_
    refine PP.getfR dX5_count_69 fl_X5_23 sc0 rfl ?_
    refine PP.getfI dX5_count_72 fl_X5_191 sc14 rfl ?_
    refine PP.iret dX5_count_75 rfl ?_
    rw [if_neg (by omega), if_pos (by omega)]; exact ⟨_, rfl, d0, hA⟩
  by_cases hs1_2 : what = 2
  · refine PP.tabI (i := 2) (off := 75) (tgt := 76) (by omega) (by omega) (by decide) (by first | assumption | omega) dX5_count_1 rfl (by decide) ?_
    refine PP.aload_n dX5_count_76 rfl ?_
    refine PP.getfR dX5_count_77 fl_X5_23 sc0 rfl ?_
    refine PP.getfI dX5_count_80 fl_X5_256 sc14 rfl ?_
    refine PP.iret dX5_count_83 rfl ?_
    rw [if_neg (by omega), if_neg (by omega), if_pos (by omega)]; exact ⟨_, rfl, d1, hA⟩
  by_cases hs1_3 : what = 3
  · refine PP.tabI (i := 3) (off := 83) (tgt := 84) (by omega) (by omega) (by decide) (by first | assumption | omega) dX5_count_1 rfl (by decide) ?_
    refine PP.aload_n dX5_count_84 rfl ?_
    refine PP.getfR dX5_count_85 fl_X5_23 sc0 rfl ?_
    refine PP.getfI dX5_count_88 fl_X5_259 sc14 rfl ?_
    refine PP.iret dX5_count_91 rfl ?_
    rw [if_neg (by omega), if_neg (by omega), if_neg (by omega), if_pos (by omega)]; exact ⟨_, rfl, d2, hA⟩
  by_cases hs1_4 : what = 4
  · refine PP.tabI (i := 4) (off := 91) (tgt := 92) (by omega) (by omega) (by decide) (by first | assumption | omega) dX5_count_1 rfl (by decide) ?_
    refine PP.aload_n dX5_count_92 rfl ?_
    refine PP.getfR dX5_count_93 fl_X5_32 sc0 rfl ?_
    refine PP.getfI dX5_count_96 fl_X5_173 sc20 rfl ?_
    refine PP.iret dX5_count_99 rfl ?_
    rw [if_neg (by omega), if_neg (by omega), if_neg (by omega), if_neg (by omega), if_pos (by omega)]; exact ⟨_, rfl, a4.2.2, hA⟩
  by_cases hs1_5 : what = 5
  · refine PP.tabI (i := 5) (off := 99) (tgt := 100) (by omega) (by omega) (by decide) (by first | assumption | omega) dX5_count_1 rfl (by decide) ?_
    refine PP.aload_n dX5_count_100 rfl ?_
    refine PP.getfR dX5_count_101 fl_X5_32 sc0 rfl ?_
    refine PP.callVi (ok_countIn hC) dX5_count_104 vl_X5_159 sc20 rfl rfl rfl rfl (Nat.le_of_ble_eq_true rfl) (by first | exact Nat.le_of_ble_eq_true rfl | omega) ?_
    refine PP.iret dX5_count_107 rfl ?_
    rw [if_neg (by omega), if_neg (by omega), if_neg (by omega), if_neg (by omega), if_neg (by omega), if_pos (by omega)]; exact ⟨_, rfl, rfl, hA⟩
  by_cases hs1_6 : what = 6
  · refine PP.tabI (i := 6) (off := 107) (tgt := 108) (by omega) (by omega) (by decide) (by first | assumption | omega) dX5_count_1 rfl (by decide) ?_
    refine PP.aload_n dX5_count_108 rfl ?_
    refine PP.getfR dX5_count_109 fl_X5_32 sc0 rfl ?_
    refine PP.getfI dX5_count_112 fl_X5_165 sc20 rfl ?_
    refine PP.eqI (y := ((msk (wsh row) n : Nat) : Int)) (by rw [a4.2.1, hws]) ?_
    refine PP.callSi (ok_bitCount (msk_128 _ hn7)) dX5_count_115 sl_X5_168 rfl rfl (Nat.le_of_ble_eq_true rfl) (by first | exact Nat.le_of_ble_eq_true rfl | omega) ?_
    refine PP.iret dX5_count_118 rfl ?_
    rw [if_neg (by omega), if_neg (by omega), if_neg (by omega), if_neg (by omega), if_neg (by omega), if_neg (by omega), if_pos (by omega)]; exact ⟨_, rfl, by rw [pc7_msk hn7], hA⟩
  by_cases hs1_7 : what = 7
  · refine PP.tabI (i := 7) (off := 118) (tgt := 119) (by omega) (by omega) (by decide) (by first | assumption | omega) dX5_count_1 rfl (by decide) ?_
    refine PP.aload_n dX5_count_119 rfl ?_
    refine PP.getfI dX5_count_120 fl_X5_100 sc0 rfl ?_
    refine PP.eqI a7 ?_
    refine PP.callSi (ok_bitCount (msk_128 _ hn7)) dX5_count_123 sl_X5_168 rfl rfl (Nat.le_of_ble_eq_true rfl) (by first | exact Nat.le_of_ble_eq_true rfl | omega) ?_
    refine PP.iret dX5_count_126 rfl ?_
    rw [if_neg (by omega), if_neg (by omega), if_neg (by omega), if_neg (by omega), if_neg (by omega), if_neg (by omega), if_neg (by omega), if_pos (by omega)]; exact ⟨_, rfl, by rw [pc7_msk hn7], hA⟩
  by_cases hs1_8 : what = 8
  · refine PP.tabI (i := 8) (off := 126) (tgt := 127) (by omega) (by omega) (by decide) (by first | assumption | omega) dX5_count_1 rfl (by decide) ?_
    refine PP.aload_n dX5_count_127 rfl ?_
    refine PP.getfR dX5_count_128 fl_X5_51 sc0 rfl ?_
    refine PP.getfI dX5_count_131 fl_X5_97 sc35 rfl ?_
    refine PP.iret dX5_count_134 rfl ?_
    rw [if_neg (by omega), if_neg (by omega), if_neg (by omega), if_neg (by omega), if_neg (by omega), if_neg (by omega), if_neg (by omega), if_neg (by omega), if_pos (by omega)]; exact ⟨_, rfl, a5.2.1, hA⟩
  by_cases hs1_9 : what = 9
  · refine PP.tabI (i := 9) (off := 134) (tgt := 135) (by omega) (by omega) (by decide) (by first | assumption | omega) dX5_count_1 rfl (by decide) ?_
    refine PP.aload_n dX5_count_135 rfl ?_
    refine PP.getfR dX5_count_136 fl_X5_55 sc0 rfl ?_
    refine PP.getfI dX5_count_139 fl_X5_97 sc37 rfl ?_
    refine PP.iret dX5_count_142 rfl ?_
    rw [if_neg (by omega), if_neg (by omega), if_neg (by omega), if_neg (by omega), if_neg (by omega), if_neg (by omega), if_neg (by omega), if_neg (by omega), if_neg (by omega), if_pos (by omega)]; exact ⟨_, rfl, a6.2.1, hA⟩
  by_cases hs1_10 : what = 10
  · refine PP.tabI (i := 10) (off := 142) (tgt := 143) (by omega) (by omega) (by decide) (by first | assumption | omega) dX5_count_1 rfl (by decide) ?_
    refine PP.aload_n dX5_count_143 rfl ?_
    refine PP.getfI dX5_count_144 fl_X5_83 sc0 rfl ?_
    refine PP.iret dX5_count_147 rfl ?_
    rw [if_neg (by omega), if_neg (by omega), if_neg (by omega), if_neg (by omega), if_neg (by omega), if_neg (by omega), if_neg (by omega), if_neg (by omega), if_neg (by omega), if_neg (by omega), if_pos (by omega)]; exact ⟨_, rfl, a1, hA⟩
  refine PP.tabO (tgt := 148) (by omega) (by first | assumption | omega) dX5_count_1 (by decide) ?_
  refine PP.iconst dX5_count_148 ?_
  refine PP.iret dX5_count_149 rfl ?_
  rw [if_neg (by omega), if_neg (by omega), if_neg (by omega), if_neg (by omega), if_neg (by omega), if_neg (by omega), if_neg (by omega), if_neg (by omega), if_neg (by omega), if_neg (by omega), if_neg (by omega)]; exact ⟨_, rfl, rfl, hA⟩
theorem c_forget {σ : Sg} {A : ST} (hA : RepC σ A) (hW : WF A) : OK SHc mX5_forget 20 [vR 0] σ (RP (fun v τ => v = (spForget A).1 ∧ RepC τ (spForget A).2)) := by
  obtain ⟨len, txt, T, n, row, und, kep, sn⟩ := A
  obtain ⟨a1, a2, a3, a4, a5, a6, a7, a8, a9⟩ := RepC_e.mp hA
  obtain ⟨w1, w2, w3, -⟩ := WF_e.mp hW
  have hn7 := w3.2.1
  simp only [spForget]
  refine OK.enter (L' := [vR 0, vN]) (by decide +kernel) (by simp [ent0]) rfl ?_
  refine PP.aload_n dX5_forget_0 rfl ?_
  refine PP.getfI dX5_forget_1 fl_X5_100 sc0 rfl ?_
  refine PP.eqI a7 ?_
  refine PP.callSi (ok_bitCount (msk_128 _ hn7)) dX5_forget_4 sl_X5_168 rfl rfl (Nat.le_of_ble_eq_true rfl) (by first | exact Nat.le_of_ble_eq_true rfl | omega) ?_
  refine PP.istore_n (L' := [_, _]) dX5_forget_7 (Nat.le_of_ble_eq_true rfl) rfl rfl ?_
  refine PP.aload_n dX5_forget_8 rfl ?_
  refine PP.iconst dX5_forget_9 ?_
  refine PP.putI dX5_forget_10 fp_X5_100 sc0 rfl (by first | omega | (unfold R32; omega)) ?_
  refine PP.aload_n dX5_forget_13 rfl ?_
  refine PP.iconst dX5_forget_14 ?_
  refine PP.putI dX5_forget_15 fp_X5_103 sc0 rfl (by first | omega | (unfold R32; omega)) ?_
  refine PP.iload_n dX5_forget_18 rfl ?_
  refine PP.iret dX5_forget_19 rfl ?_
  refine ⟨_, rfl, by rw [pc7_msk hn7], RepC_e.mpr ⟨?_, fun j hj => ?_, ?_, ?_, ?_, ?_, ?_, ?_, ?_⟩⟩
  · rw [up_j (by decide), up_j (by decide)]; exact a1
  · rw [up_ne (by decide), up_ne (by decide)]; exact a2 j hj
  · exact DR_cong a3 (fun c _ _ => by rw [up_ne (by omega), up_ne (by omega)])
  · exact RW_cong a4 (fun c _ _ => by rw [up_ne (by omega), up_ne (by omega)])
  · exact SHR_cong a5 (by rw [up_ne (by omega), up_ne (by omega)]) (by rw [up_ne (by omega), up_ne (by omega)])
  · exact SHR_cong a6 (by rw [up_ne (by omega), up_ne (by omega)]) (by rw [up_ne (by omega), up_ne (by omega)])
  · rw [up_j (by decide), up_at, (msk_none _).1]; rfl
  · rw [up_at, (msk_none _).2]; rfl
  · exact CH_cong a9 (by rw [up_ne (by omega), up_ne (by omega)]) (by rw [up_ne (by omega), up_ne (by omega)])
