/-! the component's calls: places, by hand, half, days -/
theorem uf_uf {P : Nat → Int} {t : Nat} {a b : Int} : uf (uf P t a) t b = uf P t b := by
  funext u
  simp only [uf]
  split <;> rfl
theorem fitS_uf {T : Nat → Int} {n : Nat} {P : Nat → Int} {t : Nat} {z s : Int} : fitS T n (uf P t z) t s = fitS T n P t s := by
  unfold fitS
  congr 2
  refine anyB_cong (fun u hu => ?_)
  by_cases e : u = t
  · simp [e]
  · rw [uf_ne e]
theorem cr_24 {σ : Sg} {T : Nat → Int} {n : Nat} {row : Nat → Int} (hw : wfT T n) (hr : wfR T n row) (hD : DR σ 14 T n) (hR : RW σ 20 T row) : RC (crU σ 20 24) 24 14 T n (rP row) (rF row) ∧ crU σ 20 24 24 4 = row 1 ∧ crU σ 20 24 24 5 = row 0 ∧ ∀ c, c < 24 ∨ 27 < c → crU σ 20 24 c = σ c := by
  refine ⟨⟨RK24, DK14, hw, hr.1, DR_cong hD (fun c _ _ => crU_ne (by omega) (by omega) (by omega) (by omega)), crU_RR (by omega) hR.1⟩, ?_, ?_, fun c hc => crU_ne (by omega) (by omega) (by omega) (by omega)⟩
  · rw [crU_45.1]; exact hR.2.1
  · rw [crU_45.2]; exact hR.2.2
theorem pl_l {σ : Sg} {T : Nat → Int} {n : Nat} {P F : Nat → Int} {w what : Int} {j S : Nat} {A : ST} (hA : RepC σ A) (hw : wfT T n) (hj : j < n) (hwa : 1 ≤ w ∧ w ≤ 9) (hS : T 0 = (S : Int)) (hz : what = 0 ∨ what = 1) (hP : wfP T n P F) : ∀ c, c ≤ 2 * S → ∀ σ1 : Sg, RC σ1 24 14 T n (uf P j (-4)) (uf F j (-4)) → σ1 24 5 = w → (∀ c, c < 24 ∨ 27 < c → σ1 c = σ c) → PP SHc mX5_place 20 63 [vR 0, vI (j : Int), vI what, vI (plB T n P F w j c).1, vI (plB T n P F w j c).2, vI (c : Int), vN] [] σ1 (RP (fun v τ => v = (if what = 0 then (plB T n P F w j (2 * S)).1 else (plB T n P F w j (2 * S)).2) ∧ RepC τ A)) := by
  have hn7 := hw.2.1
  have hsl := hw.2.2.1
  refine loop_dn (2 * S) ?_ ?_
  · intro σ1 hC hs hfr
    have d0 : σ1 14 0 = T 0 := hC.2.2.2.2.1.1
    refine PP.iload dX5_place_63 rfl ?_
    refine PP.iconst dX5_place_65 ?_
    refine PP.aload_n dX5_place_66 rfl ?_
    refine PP.getfR dX5_place_67 fl_X5_23 sc0 rfl ?_
    refine PP.getfI dX5_place_70 fl_X5_191 sc14 rfl ?_
    refine PP.imul dX5_place_73 ?_
    refine PP.icmp_ge (tgt := 145) (by first | omega | (unfold R32; omega)) (by first | omega | (unfold R32; omega)) dX5_place_74 (by decide) (fun h74 => ?_) (fun h74 => ?_)
    · refine PP.iload_n dX5_place_145 rfl ?_
      refine PP.if_ne (tgt := 153) (by first | omega | (unfold R32; omega)) dX5_place_146 (by decide) (fun h146 => ?_) (fun h146 => ?_)
      · refine PP.iload dX5_place_153 rfl ?_
        refine PP.iret dX5_place_155 rfl ?_
        first
        | (rw [if_pos (by omega)]; exact ⟨_, rfl, rfl, RepC_cong hA (fun c hc => hfr c (by omega))⟩)
        | (rw [if_neg (by omega)]; exact ⟨_, rfl, rfl, RepC_cong hA (fun c hc => hfr c (by omega))⟩)
      · refine PP.iload_n dX5_place_149 rfl ?_
        refine PP.goto (tgt := 155) dX5_place_150 (by decide) ?_
        refine PP.iret dX5_place_155 rfl ?_
        first
        | (rw [if_pos (by omega)]; exact ⟨_, rfl, rfl, RepC_cong hA (fun c hc => hfr c (by omega))⟩)
        | (rw [if_neg (by omega)]; exact ⟨_, rfl, rfl, RepC_cong hA (fun c hc => hfr c (by omega))⟩)
    · omega
  · intro c hc ih σ1 hC hs hfr
    have d0 : σ1 14 0 = T 0 := hC.2.2.2.2.1.1
    have ef : fitS T n (uf P j (-4)) j ((c / 2 : Nat) : Int) = fitS T n P j ((c / 2 : Nat) : Int) := fitS_uf
    have hcl := cnt_le (clS T n (uf P j ((c / 2 : Nat) : Int)) (uf F j ((c % 2 : Nat) : Int)) w) n
    have hbr : -4 ≤ (plB T n P F w j c).2 ∧ (plB T n P F w j c).2 ≤ 7 := by
      clear ih hcl ef hc
      induction c with
      | zero => exact ⟨by simp [plB], by simp [plB]⟩
      | succ c ih =>
        have := cnt_le (clS T n (uf P j ((c / 2 : Nat) : Int)) (uf F j ((c % 2 : Nat) : Int)) w) n
        rw [plB]
        split
        · simp only []; omega
        · exact ih
    rw [plB] at ih
    refine PP.iload dX5_place_63 rfl ?_
    refine PP.iconst dX5_place_65 ?_
    refine PP.aload_n dX5_place_66 rfl ?_
    refine PP.getfR dX5_place_67 fl_X5_23 sc0 rfl ?_
    refine PP.getfI dX5_place_70 fl_X5_191 sc14 rfl ?_
    refine PP.imul dX5_place_73 ?_
    refine PP.icmp_ge (tgt := 145) (by first | omega | exact b2i_R _ | (unfold R32; omega)) (by first | omega | exact b2i_R _ | (unfold R32; omega)) dX5_place_74 (by decide) (fun h74 => ?_) (fun h74 => ?_)
    · omega
    · refine PP.aload_n dX5_place_77 rfl ?_
      refine PP.getfR dX5_place_78 fl_X5_36 sc0 rfl ?_
      refine PP.iload_n dX5_place_81 rfl ?_
      refine PP.iload dX5_place_82 rfl ?_
      refine PP.iconst dX5_place_84 ?_
      refine PP.idiv (by first | omega | exact b2i_R _ | (unfold R32; omega)) (by first | omega | exact b2i_R _ | (unfold R32; omega)) (by first | omega | exact b2i_R _ | (unfold R32; omega)) (by first | omega | exact b2i_R _ | (unfold R32; omega)) dX5_place_85 ?_
      refine PP.eqI (y := ((c / 2 : Nat) : Int)) (by omega) ?_
      refine PP.callVi (ok_fits hC hj (s := ((c / 2 : Nat) : Int)) (by omega)) dX5_place_86 vl_X5_148 sc24 rfl rfl rfl rfl (Nat.le_of_ble_eq_true rfl) (by first | exact Nat.le_of_ble_eq_true rfl | omega) ?_
      refine PP.if_eq (tgt := 139) (by first | omega | exact b2i_R _ | (unfold R32; omega)) dX5_place_89 (by decide) (fun h89 => ?_) (fun h89 => ?_)
      · refine PP.iinc (L' := [_, _, _, _, _, _, _]) dX5_place_139 rfl rfl rfl ?_
        refine PP.goto (tgt := 63) dX5_place_142 (by decide) ?_
        refine PP.frg 6 (L' := [_, _, _, _, _, _, _]) rfl ?_
        first
          | (rw [if_neg (fun q => by rw [← ef, b2i_0.mp h89] at q; exact absurd q.1 (by decide))] at ih
             exact PP.eqL (by rw [show ((c + 1 : Nat) : Int) = (c : Int) + 1 by omega]) (ih σ1 hC hs hfr))
          | (rw [if_neg (fun q => absurd q.2 (by omega))] at ih
             exact PP.eqL (by rw [show ((c + 1 : Nat) : Int) = (c : Int) + 1 by omega]) (ih _ hC3 (by rw [stdU_ne (by omega) (by omega) (by omega), stdU_ne (by omega) (by omega) (by omega)]; exact hs) (fun c hc => by rw [stdU_ne (by omega) (by omega) (by omega), stdU_ne (by omega) (by omega) (by omega)]; exact hfr c hc)))
          | (rw [if_pos ⟨hfit, by omega⟩] at ih
             exact PP.eqL (by rw [show ((c + 1 : Nat) : Int) = (c : Int) + 1 by omega]) (ih _ hC3 (by rw [stdU_ne (by omega) (by omega) (by omega), stdU_ne (by omega) (by omega) (by omega)]; exact hs) (fun c hc => by rw [stdU_ne (by omega) (by omega) (by omega), stdU_ne (by omega) (by omega) (by omega)]; exact hfr c hc)))
      · have hfit := b2i_n.mp h89
        rw [ef] at hfit
        have hft := (fitS_t.mp hfit).1
        have hC2 := RC_std hC (f := ((c % 2 : Nat) : Int)) hj (by omega) hft (by omega)
        rw [uf_uf, uf_uf] at hC2
        have hC3 := RC_lv hC2 hj
        rw [uf_uf, uf_uf] at hC3
        refine PP.aload_n dX5_place_92 rfl ?_
        refine PP.getfR dX5_place_93 fl_X5_36 sc0 rfl ?_
        refine PP.iload_n dX5_place_96 rfl ?_
        refine PP.iload dX5_place_97 rfl ?_
        refine PP.iconst dX5_place_99 ?_
        refine PP.idiv (by first | omega | exact b2i_R _ | (unfold R32; omega)) (by first | omega | exact b2i_R _ | (unfold R32; omega)) (by first | omega | exact b2i_R _ | (unfold R32; omega)) (by first | omega | exact b2i_R _ | (unfold R32; omega)) dX5_place_100 ?_
        refine PP.eqI (y := ((c / 2 : Nat) : Int)) (by omega) ?_
        refine PP.iload dX5_place_101 rfl ?_
        refine PP.iconst dX5_place_103 ?_
        refine PP.irem (by first | omega | exact b2i_R _ | (unfold R32; omega)) (by first | omega | exact b2i_R _ | (unfold R32; omega)) (by first | omega | exact b2i_R _ | (unfold R32; omega)) (by first | omega | exact b2i_R _ | (unfold R32; omega)) dX5_place_104 ?_
        refine PP.eqI (y := ((c % 2 : Nat) : Int)) (by omega) ?_
        refine PP.callVn (ok_stand RK24 DK14 hw hC.2.2.2.2.1 hj (by omega) (by omega)) dX5_place_105 vl_X5_155 sc24 rfl rfl rfl rfl (Nat.le_of_ble_eq_true rfl) (by first | exact Nat.le_of_ble_eq_true rfl | omega) ?_
        refine PP.aload_n dX5_place_108 rfl ?_
        refine PP.getfR dX5_place_109 fl_X5_36 sc0 rfl ?_
        refine PP.callVi (ok_countClean hC2 (w := w) (by rw [stdU_ne (by omega) (by omega) (by omega)]; exact hs) (by omega)) dX5_place_112 vl_X5_194 sc24 rfl rfl rfl rfl (Nat.le_of_ble_eq_true rfl) (by first | exact Nat.le_of_ble_eq_true rfl | omega) ?_
        refine PP.istore (L' := [_, _, _, _, _, _, _]) dX5_place_115 (Nat.le_of_ble_eq_true rfl) rfl rfl ?_
        refine PP.aload_n dX5_place_117 rfl ?_
        refine PP.getfR dX5_place_118 fl_X5_36 sc0 rfl ?_
        refine PP.iload_n dX5_place_121 rfl ?_
        refine PP.callVn (ok_leave RK24 (t := j) (by omega)) dX5_place_122 vl_X5_162 sc24 rfl rfl rfl rfl (Nat.le_of_ble_eq_true rfl) (by first | exact Nat.le_of_ble_eq_true rfl | omega) ?_
        refine PP.iload dX5_place_125 rfl ?_
        refine PP.iload dX5_place_127 rfl ?_
        refine PP.icmp_le (tgt := 139) (by first | omega | exact b2i_R _ | (unfold R32; omega)) (by first | omega | exact b2i_R _ | (unfold R32; omega)) dX5_place_129 (by decide) (fun h129 => ?_) (fun h129 => ?_)
        · refine PP.iinc (L' := [_, _, _, _, _, _, _]) dX5_place_139 rfl rfl rfl ?_
          refine PP.goto (tgt := 63) dX5_place_142 (by decide) ?_
          refine PP.frg 6 (L' := [_, _, _, _, _, _, _]) rfl ?_
          first
            | (rw [if_neg (fun q => by rw [← ef, b2i_0.mp h89] at q; exact absurd q.1 (by decide))] at ih
               exact PP.eqL (by rw [show ((c + 1 : Nat) : Int) = (c : Int) + 1 by omega]) (ih σ1 hC hs hfr))
            | (rw [if_neg (fun q => absurd q.2 (by omega))] at ih
               exact PP.eqL (by rw [show ((c + 1 : Nat) : Int) = (c : Int) + 1 by omega]) (ih _ hC3 (by rw [stdU_ne (by omega) (by omega) (by omega), stdU_ne (by omega) (by omega) (by omega)]; exact hs) (fun c hc => by rw [stdU_ne (by omega) (by omega) (by omega), stdU_ne (by omega) (by omega) (by omega)]; exact hfr c hc)))
            | (rw [if_pos ⟨hfit, by omega⟩] at ih
               exact PP.eqL (by rw [show ((c + 1 : Nat) : Int) = (c : Int) + 1 by omega]) (ih _ hC3 (by rw [stdU_ne (by omega) (by omega) (by omega), stdU_ne (by omega) (by omega) (by omega)]; exact hs) (fun c hc => by rw [stdU_ne (by omega) (by omega) (by omega), stdU_ne (by omega) (by omega) (by omega)]; exact hfr c hc)))
        · refine PP.iload dX5_place_132 rfl ?_
          refine PP.istore (L' := [_, _, _, _, _, _, _]) dX5_place_134 (Nat.le_of_ble_eq_true rfl) rfl rfl ?_
          refine PP.iload dX5_place_136 rfl ?_
          refine PP.istore_n (L' := [_, _, _, _, _, _, _]) dX5_place_138 (Nat.le_of_ble_eq_true rfl) rfl rfl ?_
          refine PP.iinc (L' := [_, _, _, _, _, _, _]) dX5_place_139 rfl rfl rfl ?_
          refine PP.goto (tgt := 63) dX5_place_142 (by decide) ?_
          refine PP.frg 6 (L' := [_, _, _, _, _, _, _]) rfl ?_
          first
            | (rw [if_neg (fun q => by rw [← ef, b2i_0.mp h89] at q; exact absurd q.1 (by decide))] at ih
               exact PP.eqL (by rw [show ((c + 1 : Nat) : Int) = (c : Int) + 1 by omega]) (ih σ1 hC hs hfr))
            | (rw [if_neg (fun q => absurd q.2 (by omega))] at ih
               exact PP.eqL (by rw [show ((c + 1 : Nat) : Int) = (c : Int) + 1 by omega]) (ih _ hC3 (by rw [stdU_ne (by omega) (by omega) (by omega), stdU_ne (by omega) (by omega) (by omega)]; exact hs) (fun c hc => by rw [stdU_ne (by omega) (by omega) (by omega), stdU_ne (by omega) (by omega) (by omega)]; exact hfr c hc)))
            | (rw [if_pos ⟨hfit, by omega⟩] at ih
               exact PP.eqL (by rw [show ((c + 1 : Nat) : Int) = (c : Int) + 1 by omega]) (ih _ hC3 (by rw [stdU_ne (by omega) (by omega) (by omega), stdU_ne (by omega) (by omega) (by omega)]; exact hs) (fun c hc => by rw [stdU_ne (by omega) (by omega) (by omega), stdU_ne (by omega) (by omega) (by omega)]; exact hfr c hc)))
theorem c_place {σ : Sg} {A : ST} {t what : Int} (hA : RepC σ A) (hW : WF A) (hx : R32 t) (hx2 : R32 what) : OK SHc mX5_place 20 [vR 0, vI t, vI what] σ (RP (fun v τ => v = qPlace A t what ∧ RepC τ A)) := by
  obtain ⟨len, txt, T, n, row, und, kep, sn⟩ := A
  obtain ⟨a1, a2, a3, a4, a5, a6, a7, a8, a9⟩ := RepC_e.mp hA
  obtain ⟨w1, w2, w3, w4, w5, w6, w7, w8, w9⟩ := WF_e.mp hW
  have hn7 := w3.2.1
  have hC := RC_of w3 w5 a3 a4
  obtain ⟨d0, d1, d2, d3, -⟩ := id a3
  have hws := wsh_m w5
  have hst := w5.2.1
  simp only [qPlace, isT, isZ]
  refine OK.enter (L' := [vR 0, vI t, vI what, vN, vN, vN, vN]) (by decide +kernel) (by simp [ent0]) rfl ?_
  by_cases ht : (0 ≤ t ∧ t < (n : Int)) ∧ (what = 0 ∨ what = 1)
  · obtain ⟨j, rfl⟩ : ∃ j : Nat, t = (j : Int) := ⟨t.toNat, by omega⟩
    have hj : j < n := by omega
    rw [if_neg (fun h => h ht), Int.toNat_natCast]
    have hsl := w3.2.2.1
    obtain ⟨S, hS⟩ : ∃ S : Nat, T 0 = (S : Int) := ⟨(T 0).toNat, by omega⟩
    rw [hS, Int.toNat_natCast]
    obtain ⟨k1, k2, k3, k4⟩ := cr_24 w3 w5 a3 a4
    have k5 := RC_lv k1 hj
    refine PP.aload_n dX5_place_0 rfl ?_
    refine PP.getfR dX5_place_1 fl_X5_23 sc0 rfl ?_
    refine PP.iload_n dX5_place_4 rfl ?_
    refine PP.callVi (ok_has DK14 w3 a3 hx) dX5_place_5 vl_X5_110 sc14 rfl rfl rfl rfl (Nat.le_of_ble_eq_true rfl) (by first | exact Nat.le_of_ble_eq_true rfl | omega) ?_
    refine PP.if_eq (tgt := 18) (by first | omega | assumption | exact b2i_R _ | (unfold R32; omega)) dX5_place_8 (by decide) (fun h8 => ?_) (fun h8 => ?_)
    · rw [decide_eq_true ht.1] at h8; cases h8
    · refine PP.iload_n dX5_place_11 rfl ?_
      refine PP.callSi (ok_isBit hx2) dX5_place_12 sl_X5_145 rfl rfl (Nat.le_of_ble_eq_true rfl) (by first | exact Nat.le_of_ble_eq_true rfl | omega) ?_
      refine PP.if_ne (tgt := 20) (by first | omega | assumption | exact b2i_R _ | (unfold R32; omega)) dX5_place_15 (by decide) (fun h15 => ?_) (fun h15 => ?_)
      · refine PP.aload_n dX5_place_20 rfl ?_
        refine PP.getfR dX5_place_21 fl_X5_32 sc0 rfl ?_
        refine PP.iload_n dX5_place_24 rfl ?_
        refine PP.callVi (ok_isWashed (p := wsh row) (n := n) RK20 (by rw [a4.2.1, hws]) hn7 hj) dX5_place_25 vl_X5_135 sc20 rfl rfl rfl rfl (Nat.le_of_ble_eq_true rfl) (by first | exact Nat.le_of_ble_eq_true rfl | omega) ?_
        refine PP.if_eq (tgt := 34) (by first | omega | assumption | exact b2i_R _ | (unfold R32; omega)) dX5_place_28 (by decide) (fun h28 => ?_) (fun h28 => ?_)
        · rw [if_neg (by rw [b2i_0.mp h28]; decide)]
          refine PP.aload_n dX5_place_34 rfl ?_
          refine PP.getfR dX5_place_35 fl_X5_36 sc0 rfl ?_
          refine PP.aload_n dX5_place_38 rfl ?_
          refine PP.getfR dX5_place_39 fl_X5_32 sc0 rfl ?_
          refine PP.callVn (ok_copyFrom RK24 RK20 (by omega)) dX5_place_42 vl_X5_94 sc24 rfl rfl rfl rfl (Nat.le_of_ble_eq_true rfl) (by first | exact Nat.le_of_ble_eq_true rfl | omega) ?_
          refine PP.aload_n dX5_place_45 rfl ?_
          refine PP.getfR dX5_place_46 fl_X5_36 sc0 rfl ?_
          refine PP.iload_n dX5_place_49 rfl ?_
          refine PP.callVn (ok_leave RK24 (t := j) (by omega)) dX5_place_50 vl_X5_162 sc24 rfl rfl rfl rfl (Nat.le_of_ble_eq_true rfl) (by first | exact Nat.le_of_ble_eq_true rfl | omega) ?_
          refine PP.bipush dX5_place_53 (by decide) ?_
          refine PP.istore_n (L' := [_, _, _, _, _, _, _]) dX5_place_55 (Nat.le_of_ble_eq_true rfl) rfl rfl ?_
          refine PP.bipush dX5_place_56 (by decide) ?_
          refine PP.istore (L' := [_, _, _, _, _, _, _]) dX5_place_58 (Nat.le_of_ble_eq_true rfl) rfl rfl ?_
          refine PP.iconst dX5_place_60 ?_
          refine PP.istore (L' := [_, _, _, _, _, _, _]) dX5_place_61 (Nat.le_of_ble_eq_true rfl) rfl rfl ?_
          exact pl_l hA w3 hj hst hS ht.2 w5.1 0 (by omega) _ k5 (by rw [stdU_ne (by omega) (by omega) (by omega)]; exact k3) (fun c hc => by rw [stdU_ne (by omega) (by omega) (by omega)]; exact k4 c hc)
        · refine PP.bipush dX5_place_31 (by decide) ?_
          refine PP.iret dX5_place_33 rfl ?_
          rw [if_pos (b2i_n.mp h28)]
          exact ⟨_, rfl, rfl, hA⟩
      · rw [decide_eq_true ht.2] at h15; cases h15
  · rw [if_pos ht]
    refine PP.aload_n dX5_place_0 rfl ?_
    refine PP.getfR dX5_place_1 fl_X5_23 sc0 rfl ?_
    refine PP.iload_n dX5_place_4 rfl ?_
    refine PP.callVi (ok_has DK14 w3 a3 hx) dX5_place_5 vl_X5_110 sc14 rfl rfl rfl rfl (Nat.le_of_ble_eq_true rfl) (by first | exact Nat.le_of_ble_eq_true rfl | omega) ?_
    refine PP.if_eq (tgt := 18) (by first | omega | assumption | exact b2i_R _) dX5_place_8 (by decide) (fun h8 => ?_) (fun h8 => ?_)
    · refine PP.iconst dX5_place_18 ?_
      refine PP.iret dX5_place_19 rfl ?_
      exact ⟨_, rfl, rfl, hA⟩
    · refine PP.iload_n dX5_place_11 rfl ?_
      refine PP.callSi (ok_isBit hx2) dX5_place_12 sl_X5_145 rfl rfl (Nat.le_of_ble_eq_true rfl) (by first | exact Nat.le_of_ble_eq_true rfl | omega) ?_
      refine PP.if_ne (tgt := 20) (by first | omega | assumption | exact b2i_R _) dX5_place_15 (by decide) (fun h15 => ?_) (fun h15 => ?_)
      · exact absurd ⟨of_decide_eq_true (b2i_n.mp h8), of_decide_eq_true (b2i_n.mp h15)⟩ ht
      · refine PP.iconst dX5_place_18 ?_
        refine PP.iret dX5_place_19 rfl ?_
        exact ⟨_, rfl, rfl, hA⟩
theorem ok_without {σ : Sg} {T : Nat → Int} {n j : Nat} {row : Nat → Int} (hw : wfT T n) (hr : wfR T n row) (hD : DR σ 14 T n) (hR : RW σ 20 T row) (hj : j < n) : OK SHc mX5_countCleanWithout 8 [vR 0, vI (j : Int)] σ (RP (fun v τ => v = ((cnt (clS T n (uf (rP row) j (-4)) (uf (rF row) j (-4)) (row 0)) n : Nat) : Int) ∧ ∀ c, c < 24 ∨ 27 < c → τ c = σ c)) := by
  have hn7 := hw.2.1
  have hst := hr.2.1
  obtain ⟨k1, k2, k3, k4⟩ := cr_24 hw hr hD hR
  have k5 := RC_lv k1 hj
  refine OK.enter (L' := [vR 0, vI (j : Int)]) (by decide +kernel) (by simp [ent0]) rfl ?_
  refine PP.aload_n dX5_countCleanWithout_0 rfl ?_
  refine PP.getfR dX5_countCleanWithout_1 fl_X5_36 sc0 rfl ?_
  refine PP.aload_n dX5_countCleanWithout_4 rfl ?_
  refine PP.getfR dX5_countCleanWithout_5 fl_X5_32 sc0 rfl ?_
  refine PP.callVn (ok_copyFrom RK24 RK20 (by omega)) dX5_countCleanWithout_8 vl_X5_94 sc24 rfl rfl rfl rfl (Nat.le_of_ble_eq_true rfl) (by first | exact Nat.le_of_ble_eq_true rfl | omega) ?_
  refine PP.aload_n dX5_countCleanWithout_11 rfl ?_
  refine PP.getfR dX5_countCleanWithout_12 fl_X5_36 sc0 rfl ?_
  refine PP.iload_n dX5_countCleanWithout_15 rfl ?_
  refine PP.callVn (ok_leave RK24 (t := j) (by omega)) dX5_countCleanWithout_16 vl_X5_162 sc24 rfl rfl rfl rfl (Nat.le_of_ble_eq_true rfl) (by first | exact Nat.le_of_ble_eq_true rfl | omega) ?_
  refine PP.aload_n dX5_countCleanWithout_19 rfl ?_
  refine PP.getfR dX5_countCleanWithout_20 fl_X5_36 sc0 rfl ?_
  refine PP.callVi (ok_countClean k5 (w := row 0) (by rw [stdU_ne (by omega) (by omega) (by omega)]; exact k3) (by omega)) dX5_countCleanWithout_23 vl_X5_194 sc24 rfl rfl rfl rfl (Nat.le_of_ble_eq_true rfl) (by first | exact Nat.le_of_ble_eq_true rfl | omega) ?_
  refine PP.iret dX5_countCleanWithout_26 rfl ?_
  exact ⟨_, rfl, rfl, fun c hc => by rw [stdU_ne (by omega) (by omega) (by omega)]; exact k4 c hc⟩
theorem hd_rng {T : Nat → Int} {n : Nat} {P F : Nat → Int} {w : Int} (hn : n ≤ 7) : ∀ c, -4 ≤ (hdB T n P F w c).2 ∧ (hdB T n P F w c).2 ≤ 7
  | 0 => ⟨by simp [hdB], by simp [hdB]⟩
  | c + 1 => by
    have h1 := hd_rng (T := T) (P := P) (F := F) (w := w) hn c
    have := cnt_le (clS T n (uf P c (-4)) (uf F c (-4)) w) n
    rw [hdB]
    split
    · simp only []; omega
    · exact h1
theorem c_byHand {σ : Sg} {A : ST} {what : Int} (hA : RepC σ A) (hW : WF A) (hx : R32 what) : OK SHc mX5_byHand 20 [vR 0, vI what] σ (RP (fun v τ => v = qByHand A what ∧ RepC τ A)) := by
  obtain ⟨len, txt, T, n, row, und, kep, sn⟩ := A
  obtain ⟨a1, a2, a3, a4, a5, a6, a7, a8, a9⟩ := RepC_e.mp hA
  obtain ⟨w1, w2, w3, w4, w5, w6, w7, w8, w9⟩ := WF_e.mp hW
  have hn7 := w3.2.1
  have hC := RC_of w3 w5 a3 a4
  obtain ⟨d0, d1, d2, d3, -⟩ := id a3
  have hws := wsh_m w5
  have hst := w5.2.1
  simp only [qByHand, isZ]
  have h7 := msk_128 (inS (rP row)) hn7
  have h7' := msk_128 (clS T n (rP row) (rF row) (row 0)) hn7
  refine OK.enter (L' := [vR 0, vI what, vN, vN, vN, vN, vN]) (by decide +kernel) (by simp [ent0]) rfl ?_
  have key : (what = 0 ∨ what = 1) → ∀ o, o ≤ n → ∀ σ1 : Sg, (∀ c, c < 24 ∨ 27 < c → σ1 c = σ c) → PP SHc mX5_byHand 20 44 [vR 0, vI what, vI (msk (fun u => inS (rP row) u && !clS T n (rP row) (rF row) (row 0) u) n : Nat), vI (hdB T n (rP row) (rF row) (row 0) o).1, vI (hdB T n (rP row) (rF row) (row 0) o).2, vI (o : Int), vN] [] σ1 (RP (fun v τ => v = (if what = 0 then (hdB T n (rP row) (rF row) (row 0) n).1 else (hdB T n (rP row) (rF row) (row 0) n).2) ∧ RepC τ (len, txt, T, n, row, und, kep, sn))) := by
    intro hz
    refine loop_dn n ?_ ?_
    · intro σ1 hfr
      have d3' : σ1 14 3 = (n : Int) := by rw [hfr 14 (by omega)]; exact d3
      refine PP.iload dX5_byHand_44 rfl ?_
      refine PP.aload_n dX5_byHand_46 rfl ?_
      refine PP.getfR dX5_byHand_47 fl_X5_23 sc0 rfl ?_
      refine PP.getfI dX5_byHand_50 fl_X5_87 sc14 rfl ?_
      refine PP.icmp_ge (tgt := 94) (by first | omega | (unfold R32; omega)) (by first | omega | (unfold R32; omega)) dX5_byHand_53 (by decide) (fun h53 => ?_) (fun h53 => ?_)
      · refine PP.iload_n dX5_byHand_94 rfl ?_
        refine PP.if_ne (tgt := 102) (by first | omega | (unfold R32; omega)) dX5_byHand_95 (by decide) (fun h95 => ?_) (fun h95 => ?_)
        · refine PP.iload dX5_byHand_102 rfl ?_
          refine PP.iret dX5_byHand_104 rfl ?_
          first
          | (rw [if_pos (by omega)]; exact ⟨_, rfl, rfl, RepC_cong hA (fun c hc => hfr c (by omega))⟩)
          | (rw [if_neg (by omega)]; exact ⟨_, rfl, rfl, RepC_cong hA (fun c hc => hfr c (by omega))⟩)
        · refine PP.iload_n dX5_byHand_98 rfl ?_
          refine PP.goto (tgt := 104) dX5_byHand_99 (by decide) ?_
          refine PP.iret dX5_byHand_104 rfl ?_
          first
          | (rw [if_pos (by omega)]; exact ⟨_, rfl, rfl, RepC_cong hA (fun c hc => hfr c (by omega))⟩)
          | (rw [if_neg (by omega)]; exact ⟨_, rfl, rfl, RepC_cong hA (fun c hc => hfr c (by omega))⟩)
      · omega
    · intro o ho ih σ1 hfr
      have d3' : σ1 14 3 = (n : Int) := by rw [hfr 14 (by omega)]; exact d3
      have hbr := hd_rng (T := T) (P := rP row) (F := rF row) (w := row 0) hn7 o
      have hcl := cnt_le (clS T n (uf (rP row) o (-4)) (uf (rF row) o (-4)) (row 0)) n
      have hio : (inS (rP row) o && !clS T n (rP row) (rF row) (row 0) o) = true ↔ (0 ≤ rP row o ∧ clS T n (rP row) (rF row) (row 0) o = false) := by simp [inS]
      rw [hdB] at ih
      refine PP.iload dX5_byHand_44 rfl ?_
      refine PP.aload_n dX5_byHand_46 rfl ?_
      refine PP.getfR dX5_byHand_47 fl_X5_23 sc0 rfl ?_
      refine PP.getfI dX5_byHand_50 fl_X5_87 sc14 rfl ?_
      refine PP.icmp_ge (tgt := 94) (by first | omega | exact b2i_R _ | (unfold R32; omega)) (by first | omega | exact b2i_R _ | (unfold R32; omega)) dX5_byHand_53 (by decide) (fun h53 => ?_) (fun h53 => ?_)
      · omega
      · refine PP.iload_n dX5_byHand_56 rfl ?_
        refine PP.iload dX5_byHand_57 rfl ?_
        refine PP.ishrR (z := ((msk (fun u => inS (rP row) u && !clS T n (rP row) (rF row) (row 0) u) n / 2 ^ o) : Nat)) (shr_msk hn7 (by omega)) dX5_byHand_59 ?_
        refine PP.iconst dX5_byHand_60 ?_
        refine PP.iandR (z := (b2i (inS (rP row) o && !clS T n (rP row) (rF row) (row 0) o))) (and_bit ho) dX5_byHand_61 ?_
        refine PP.iconst dX5_byHand_62 ?_
        refine PP.icmp_ne (tgt := 88) (by first | omega | exact b2i_R _ | (unfold R32; omega)) (by first | omega | exact b2i_R _ | (unfold R32; omega)) dX5_byHand_63 (by decide) (fun h63 => ?_) (fun h63 => ?_)
        · refine PP.iinc (L' := [_, _, _, _, _, _, _]) dX5_byHand_88 rfl rfl rfl ?_
          refine PP.goto (tgt := 44) dX5_byHand_91 (by decide) ?_
          refine PP.frg 6 (L' := [_, _, _, _, _, _, _]) rfl ?_
          first
            | (rw [if_neg (fun q => h63 (b2i_1.mpr (hio.mpr q.1)))] at ih
               exact PP.eqL (by rw [show ((o + 1 : Nat) : Int) = (o : Int) + 1 by omega]) (ih σ1 hfr))
            | (rw [if_neg (fun q => absurd q.2 (by omega))] at ih
               exact PP.eqL (by rw [show ((o + 1 : Nat) : Int) = (o : Int) + 1 by omega]) (ih _ (fun c hc => by rw [p2 c hc]; exact hfr c hc)))
            | (rw [if_pos ⟨hio.mp (b2i_1.mp (by omega)), by omega⟩] at ih
               exact PP.eqL (by rw [show ((o + 1 : Nat) : Int) = (o : Int) + 1 by omega]) (ih _ (fun c hc => by rw [p2 c hc]; exact hfr c hc)))
        · refine PP.aload_n dX5_byHand_66 rfl ?_
          refine PP.iload dX5_byHand_67 rfl ?_
          refine PP.callViP (ok_without w3 w5 (DR_cong a3 (fun c _ _ => hfr c (by omega))) (RW_cong a4 (fun c _ _ => hfr c (by omega))) ho) dX5_byHand_69 vl_X5_200 sc0 rfl rfl rfl rfl (Nat.le_of_ble_eq_true rfl) (by first | exact Nat.le_of_ble_eq_true rfl | omega) (fun v69 τ69 hq69 => ?_)
          obtain ⟨rfl, p2⟩ := hq69
          refine PP.istore (L' := [_, _, _, _, _, _, _]) dX5_byHand_72 (Nat.le_of_ble_eq_true rfl) rfl rfl ?_
          refine PP.iload dX5_byHand_74 rfl ?_
          refine PP.iload dX5_byHand_76 rfl ?_
          refine PP.icmp_le (tgt := 88) (by first | omega | exact b2i_R _ | (unfold R32; omega)) (by first | omega | exact b2i_R _ | (unfold R32; omega)) dX5_byHand_78 (by decide) (fun h78 => ?_) (fun h78 => ?_)
          · refine PP.iinc (L' := [_, _, _, _, _, _, _]) dX5_byHand_88 rfl rfl rfl ?_
            refine PP.goto (tgt := 44) dX5_byHand_91 (by decide) ?_
            refine PP.frg 6 (L' := [_, _, _, _, _, _, _]) rfl ?_
            first
              | (rw [if_neg (fun q => h63 (b2i_1.mpr (hio.mpr q.1)))] at ih
                 exact PP.eqL (by rw [show ((o + 1 : Nat) : Int) = (o : Int) + 1 by omega]) (ih σ1 hfr))
              | (rw [if_neg (fun q => absurd q.2 (by omega))] at ih
                 exact PP.eqL (by rw [show ((o + 1 : Nat) : Int) = (o : Int) + 1 by omega]) (ih _ (fun c hc => by rw [p2 c hc]; exact hfr c hc)))
              | (rw [if_pos ⟨hio.mp (b2i_1.mp (by omega)), by omega⟩] at ih
                 exact PP.eqL (by rw [show ((o + 1 : Nat) : Int) = (o : Int) + 1 by omega]) (ih _ (fun c hc => by rw [p2 c hc]; exact hfr c hc)))
          · refine PP.iload dX5_byHand_81 rfl ?_
            refine PP.istore (L' := [_, _, _, _, _, _, _]) dX5_byHand_83 (Nat.le_of_ble_eq_true rfl) rfl rfl ?_
            refine PP.iload dX5_byHand_85 rfl ?_
            refine PP.istore_n (L' := [_, _, _, _, _, _, _]) dX5_byHand_87 (Nat.le_of_ble_eq_true rfl) rfl rfl ?_
            refine PP.iinc (L' := [_, _, _, _, _, _, _]) dX5_byHand_88 rfl rfl rfl ?_
            refine PP.goto (tgt := 44) dX5_byHand_91 (by decide) ?_
            refine PP.frg 6 (L' := [_, _, _, _, _, _, _]) rfl ?_
            first
              | (rw [if_neg (fun q => h63 (b2i_1.mpr (hio.mpr q.1)))] at ih
                 exact PP.eqL (by rw [show ((o + 1 : Nat) : Int) = (o : Int) + 1 by omega]) (ih σ1 hfr))
              | (rw [if_neg (fun q => absurd q.2 (by omega))] at ih
                 exact PP.eqL (by rw [show ((o + 1 : Nat) : Int) = (o : Int) + 1 by omega]) (ih _ (fun c hc => by rw [p2 c hc]; exact hfr c hc)))
              | (rw [if_pos ⟨hio.mp (b2i_1.mp (by omega)), by omega⟩] at ih
                 exact PP.eqL (by rw [show ((o + 1 : Nat) : Int) = (o : Int) + 1 by omega]) (ih _ (fun c hc => by rw [p2 c hc]; exact hfr c hc)))
  refine PP.iload_n dX5_byHand_0 rfl ?_
  refine PP.callSi (ok_isBit hx) dX5_byHand_1 sl_X5_145 rfl rfl (Nat.le_of_ble_eq_true rfl) (by first | exact Nat.le_of_ble_eq_true rfl | omega) ?_
  refine PP.if_ne (tgt := 9) (by first | omega | assumption | exact b2i_R _) dX5_byHand_4 (by decide) (fun h4 => ?_) (fun h4 => ?_)
  · have hz := of_decide_eq_true (b2i_n.mp h4)
    rw [if_neg (fun q => q hz)]
    refine PP.aload_n dX5_byHand_9 rfl ?_
    refine PP.getfR dX5_byHand_10 fl_X5_32 sc0 rfl ?_
    refine PP.callVi (ok_inBits hC) dX5_byHand_13 vl_X5_197 sc20 rfl rfl rfl rfl (Nat.le_of_ble_eq_true rfl) (by first | exact Nat.le_of_ble_eq_true rfl | omega) ?_
    refine PP.aload_n dX5_byHand_16 rfl ?_
    refine PP.getfR dX5_byHand_17 fl_X5_32 sc0 rfl ?_
    refine PP.aload_n dX5_byHand_20 rfl ?_
    refine PP.getfR dX5_byHand_21 fl_X5_32 sc0 rfl ?_
    refine PP.getfI dX5_byHand_24 fl_X5_173 sc20 rfl ?_
    refine PP.eqI a4.2.2 ?_
    refine PP.callVi (ok_cleanBits hC (w := row 0) (by omega)) dX5_byHand_27 vl_X5_188 sc20 rfl rfl rfl rfl (Nat.le_of_ble_eq_true rfl) (by first | exact Nat.le_of_ble_eq_true rfl | omega) ?_
    refine PP.iconst dX5_byHand_30 ?_
    refine PP.ixorR (z := (-((msk (clS T n (rP row) (rF row) (row 0)) n : Nat) : Int) - 1)) (ixor_m _) dX5_byHand_31 ?_
    refine PP.iandR (z := ((msk (fun u => inS (rP row) u && !clS T n (rP row) (rF row) (row 0) u) n) : Nat)) ((iandn_128 _ h7 _ h7').trans (by rw [msk_andn])) dX5_byHand_32 ?_
    refine PP.istore_n (L' := [_, _, _, _, _, _, _]) dX5_byHand_33 (Nat.le_of_ble_eq_true rfl) rfl rfl ?_
    refine PP.bipush dX5_byHand_34 (by decide) ?_
    refine PP.istore_n (L' := [_, _, _, _, _, _, _]) dX5_byHand_36 (Nat.le_of_ble_eq_true rfl) rfl rfl ?_
    refine PP.bipush dX5_byHand_37 (by decide) ?_
    refine PP.istore (L' := [_, _, _, _, _, _, _]) dX5_byHand_39 (Nat.le_of_ble_eq_true rfl) rfl rfl ?_
    refine PP.iconst dX5_byHand_41 ?_
    refine PP.istore (L' := [_, _, _, _, _, _, _]) dX5_byHand_42 (Nat.le_of_ble_eq_true rfl) rfl rfl ?_
    exact key hz 0 (by omega) σ (fun c _ => rfl)
  · refine PP.iconst dX5_byHand_7 ?_
    refine PP.iret dX5_byHand_8 rfl ?_
    rw [if_pos (of_decide_eq_false (b2i_0.mp h4))]
    exact ⟨_, rfl, rfl, hA⟩
theorem mulR {a b : Int} (h1 : 0 ≤ a) (h2 : a ≤ 99) (h3 : 0 ≤ b) (h4 : b ≤ 7) : 0 ≤ a * b ∧ a * b ≤ 693 := ⟨Int.mul_nonneg h1 h3, by have := Int.mul_le_mul h2 h4 h3 (by decide : (0 : Int) ≤ 99); omega⟩
theorem c_half {σ : Sg} {A : ST} {h m : Int} (hA : RepC σ A) (hW : WF A) (hx : R32 h) (hx2 : R32 m) : OK SHc mX5_half 20 [vR 0, vI h, vI m] σ (RP (fun v τ => v = qHalf A h m ∧ RepC τ A)) := by
  obtain ⟨len, txt, T, n, row, und, kep, sn⟩ := A
  obtain ⟨a1, a2, a3, a4, a5, a6, a7, a8, a9⟩ := RepC_e.mp hA
  obtain ⟨w1, w2, w3, w4, w5, w6, w7, w8, w9⟩ := WF_e.mp hW
  have hn7 := w3.2.1
  have hC := RC_of w3 w5 a3 a4
  obtain ⟨d0, d1, d2, d3, -⟩ := id a3
  have hws := wsh_m w5
  have hst := w5.2.1
  simp only [qHalf, qBest]
  refine OK.enter (L' := [vR 0, vI h, vI m, vN, vN, vN]) (by decide +kernel) (by simp [ent0]) rfl ?_
  by_cases ht : (0 ≤ h ∧ h < 24) ∧ (1 ≤ m ∧ m ≤ 24)
  · obtain ⟨i, rfl⟩ : ∃ i : Nat, h = (i : Int) := ⟨h.toNat, by omega⟩
    obtain ⟨k, rfl⟩ : ∃ k : Nat, m = ((k + 1 : Nat) : Int) := ⟨m.toNat - 1, by omega⟩
    rw [if_neg (fun h => h ht), Int.toNat_natCast, Int.toNat_natCast, Nat.add_sub_cancel]
    have q1 := hrS_lt T i k
    have q2 := hrS_lt T (i + (k + 1)) k
    have t1 := w3.2.2.2.2.2.2 _ q1
    have t2 := w3.2.2.2.2.2.2 _ q2
    have hcl := cnt_le (clS T n (rP row) (rF row) (row 0)) n
    have hb := bo_rng T n (wsh row) (row 0)
    have m1 := mulR (a := T (32 + hrS T i k)) (b := (boO T n (wsh row) (row 0)).1) (by omega) (by omega) (by omega) (by omega)
    have m2 := mulR (a := T (32 + hrS T (i + (k + 1)) k)) (b := (cnt (clS T n (rP row) (rF row) (row 0)) n : Nat)) (by omega) (by omega) (by omega) (by omega)
    refine PP.iload_n dX5_half_0 rfl ?_
    refine PP.callSi (ok_isHour hx) dX5_half_1 sl_X5_220 rfl rfl (Nat.le_of_ble_eq_true rfl) (by first | exact Nat.le_of_ble_eq_true rfl | omega) ?_
    refine PP.if_eq (tgt := 18) (by first | omega | assumption | exact b2i_R _ | (unfold R32; omega)) dX5_half_4 (by decide) (fun h4 => ?_) (fun h4 => ?_)
    · rw [decide_eq_true ht.1] at h4; cases h4
    · refine PP.iload_n dX5_half_7 rfl ?_
      refine PP.iconst dX5_half_8 ?_
      refine PP.icmp_lt (tgt := 18) (by first | omega | assumption | exact b2i_R _ | (unfold R32; omega)) (by first | omega | assumption | exact b2i_R _ | (unfold R32; omega)) dX5_half_9 (by decide) (fun h9 => ?_) (fun h9 => ?_)
      · omega
      · refine PP.iload_n dX5_half_12 rfl ?_
        refine PP.bipush dX5_half_13 (by decide) ?_
        refine PP.icmp_le (tgt := 20) (by first | omega | assumption | exact b2i_R _ | (unfold R32; omega)) (by first | omega | assumption | exact b2i_R _ | (unfold R32; omega)) dX5_half_15 (by decide) (fun h15 => ?_) (fun h15 => ?_)
        · refine PP.aload_n dX5_half_20 rfl ?_
          refine PP.getfR dX5_half_21 fl_X5_32 sc0 rfl ?_
          refine PP.callVi (ok_countClean hC a4.2.2 (by omega)) dX5_half_24 vl_X5_194 sc20 rfl rfl rfl rfl (Nat.le_of_ble_eq_true rfl) (by first | exact Nat.le_of_ble_eq_true rfl | omega) ?_
          refine PP.istore_n (L' := [_, _, _, _, _, _]) dX5_half_27 (Nat.le_of_ble_eq_true rfl) rfl rfl ?_
          refine PP.iload_n dX5_half_28 rfl ?_
          refine PP.if_ne (tgt := 34) (by first | omega | assumption | exact b2i_R _ | (unfold R32; omega)) dX5_half_29 (by decide) (fun h29 => ?_) (fun h29 => ?_)
          · refine PP.aload_n dX5_half_34 rfl ?_
            refine PP.getfR dX5_half_35 fl_X5_42 sc0 rfl ?_
            refine PP.aload_n dX5_half_38 rfl ?_
            refine PP.getfR dX5_half_39 fl_X5_32 sc0 rfl ?_
            refine PP.getfI dX5_half_42 fl_X5_165 sc20 rfl ?_
            refine PP.eqI (a4.2.1.trans hws) ?_
            refine PP.aload_n dX5_half_45 rfl ?_
            refine PP.getfR dX5_half_46 fl_X5_32 sc0 rfl ?_
            refine PP.getfI dX5_half_49 fl_X5_173 sc20 rfl ?_
            refine PP.eqI a4.2.2 ?_
            refine PP.callVnP (ok_find (wa := wsh row) w3 a3 a9 hst) dX5_half_52 vl_X5_203 sc28 rfl rfl rfl rfl (Nat.le_of_ble_eq_true rfl) (by first | exact Nat.le_of_ble_eq_true rfl | omega) (fun τ52 hq52 => ?_)
            obtain ⟨p1, p2, p3⟩ := hq52
            have hA' : RepC τ52 (len, txt, T, n, row, und, kep, sn) := RepC_find hA p1 p2
            have a3' : DR τ52 14 T n := DR_cong a3 (fun c _ _ => p1 c (by omega))
            refine PP.aload_n dX5_half_55 rfl ?_
            refine PP.getfR dX5_half_56 fl_X5_42 sc0 rfl ?_
            refine PP.getfI dX5_half_59 fl_X5_207 sc28 rfl ?_
            refine PP.eqI p3.2.1 ?_
            refine PP.if_ne (tgt := 67) (by first | omega | assumption | exact b2i_R _ | (unfold R32; omega)) dX5_half_62 (by decide) (fun h62 => ?_) (fun h62 => ?_)
            · refine PP.aload_n dX5_half_67 rfl ?_
              refine PP.aload_n dX5_half_68 rfl ?_
              refine PP.iload_n dX5_half_69 rfl ?_
              refine PP.iload_n dX5_half_70 rfl ?_
              refine PP.callVi (ok_cheapestHour w3 a3' (by omega) (by omega)) dX5_half_71 vl_X5_223 sc0 rfl rfl rfl rfl (Nat.le_of_ble_eq_true rfl) (by first | exact Nat.le_of_ble_eq_true rfl | omega) ?_
              refine PP.callVi (ok_costAt a3' q1) dX5_half_74 vl_X5_226 sc0 rfl rfl rfl rfl (Nat.le_of_ble_eq_true rfl) (by first | exact Nat.le_of_ble_eq_true rfl | omega) ?_
              refine PP.istore (L' := [_, _, _, _, _, _]) dX5_half_77 (Nat.le_of_ble_eq_true rfl) rfl rfl ?_
              refine PP.aload_n dX5_half_79 rfl ?_
              refine PP.aload_n dX5_half_80 rfl ?_
              refine PP.iload_n dX5_half_81 rfl ?_
              refine PP.iload_n dX5_half_82 rfl ?_
              refine PP.iadd dX5_half_83 ?_
              refine PP.eqI (y := ((i + (k + 1) : Nat) : Int)) (by omega) ?_
              refine PP.iload_n dX5_half_84 rfl ?_
              refine PP.callVi (ok_cheapestHour w3 a3' (by omega) (by omega)) dX5_half_85 vl_X5_223 sc0 rfl rfl rfl rfl (Nat.le_of_ble_eq_true rfl) (by first | exact Nat.le_of_ble_eq_true rfl | omega) ?_
              refine PP.callVi (ok_costAt a3' q2) dX5_half_88 vl_X5_226 sc0 rfl rfl rfl rfl (Nat.le_of_ble_eq_true rfl) (by first | exact Nat.le_of_ble_eq_true rfl | omega) ?_
              refine PP.istore (L' := [_, _, _, _, _, _]) dX5_half_91 (Nat.le_of_ble_eq_true rfl) rfl rfl ?_
              refine PP.iload dX5_half_93 rfl ?_
              refine PP.aload_n dX5_half_95 rfl ?_
              refine PP.getfR dX5_half_96 fl_X5_42 sc0 rfl ?_
              refine PP.getfI dX5_half_99 fl_X5_207 sc28 rfl ?_
              refine PP.eqI p3.2.1 ?_
              refine PP.imul dX5_half_102 ?_
              refine PP.iload dX5_half_103 rfl ?_
              refine PP.iload_n dX5_half_105 rfl ?_
              refine PP.imul dX5_half_106 ?_
              refine PP.icmp_ge (tgt := 114) (by first | omega | assumption | exact b2i_R _ | (unfold R32; omega)) (by first | omega | assumption | exact b2i_R _ | (unfold R32; omega)) dX5_half_107 (by decide) (fun h107 => ?_) (fun h107 => ?_)
              · refine PP.iconst dX5_half_114 ?_
                refine PP.iret dX5_half_115 rfl ?_
                first
                | exact ⟨_, rfl, (if_pos ⟨by omega, Or.inr (by omega)⟩).symm, hA'⟩
                | exact ⟨_, rfl, (if_neg (fun q => absurd q.2 (by omega))).symm, hA'⟩
              · refine PP.iconst dX5_half_110 ?_
                refine PP.goto (tgt := 115) dX5_half_111 (by decide) ?_
                refine PP.iret dX5_half_115 rfl ?_
                first
                | exact ⟨_, rfl, (if_pos ⟨by omega, Or.inr (by omega)⟩).symm, hA'⟩
                | exact ⟨_, rfl, (if_neg (fun q => absurd q.2 (by omega))).symm, hA'⟩
            · refine PP.iconst dX5_half_65 ?_
              refine PP.iret dX5_half_66 rfl ?_
              exact ⟨_, rfl, (if_pos ⟨by omega, Or.inl (by omega)⟩).symm, hA'⟩
          · refine PP.iconst dX5_half_32 ?_
            refine PP.iret dX5_half_33 rfl ?_
            exact ⟨_, rfl, (if_neg (fun q => absurd q.1 (by omega))).symm, hA⟩
        · omega
  · rw [if_pos ht]
    refine PP.iload_n dX5_half_0 rfl ?_
    refine PP.callSi (ok_isHour hx) dX5_half_1 sl_X5_220 rfl rfl (Nat.le_of_ble_eq_true rfl) (by first | exact Nat.le_of_ble_eq_true rfl | omega) ?_
    refine PP.if_eq (tgt := 18) (by first | omega | assumption | exact b2i_R _ | (unfold R32; omega)) dX5_half_4 (by decide) (fun h4 => ?_) (fun h4 => ?_)
    · refine PP.iconst dX5_half_18 ?_
      refine PP.iret dX5_half_19 rfl ?_
      exact ⟨_, rfl, rfl, hA⟩
    · refine PP.iload_n dX5_half_7 rfl ?_
      refine PP.iconst dX5_half_8 ?_
      refine PP.icmp_lt (tgt := 18) (by first | omega | assumption | exact b2i_R _ | (unfold R32; omega)) (by first | omega | assumption | exact b2i_R _ | (unfold R32; omega)) dX5_half_9 (by decide) (fun h9 => ?_) (fun h9 => ?_)
      · refine PP.iconst dX5_half_18 ?_
        refine PP.iret dX5_half_19 rfl ?_
        exact ⟨_, rfl, rfl, hA⟩
      · refine PP.iload_n dX5_half_12 rfl ?_
        refine PP.bipush dX5_half_13 (by decide) ?_
        refine PP.icmp_le (tgt := 20) (by first | omega | assumption | exact b2i_R _ | (unfold R32; omega)) (by first | omega | assumption | exact b2i_R _ | (unfold R32; omega)) dX5_half_15 (by decide) (fun h15 => ?_) (fun h15 => ?_)
        · exact absurd ⟨of_decide_eq_true (b2i_n.mp h4), ⟨by omega, by omega⟩⟩ ht
        · refine PP.iconst dX5_half_18 ?_
          refine PP.iret dX5_half_19 rfl ?_
          exact ⟨_, rfl, rfl, hA⟩
