/-! the component's calls: what would come clean -/
theorem c_clean {σ : Sg} {A : ST} (hA : RepC σ A) (hW : WF A) : OK SHc mX5_clean 20 [vR 0] σ (RP (fun v τ => v = qClean A ∧ RepC τ A)) := by
  obtain ⟨len, txt, T, n, row, und, kep, sn⟩ := A
  obtain ⟨a1, a2, a3, a4, a5, a6, a7, a8, a9⟩ := RepC_e.mp hA
  obtain ⟨w1, w2, w3, w4, w5, w6, w7, w8, w9⟩ := WF_e.mp hW
  have hn7 := w3.2.1
  have hC := RC_of w3 w5 a3 a4
  obtain ⟨d0, d1, d2, d3, -⟩ := id a3
  have hws := wsh_m w5
  have hst := w5.2.1
  simp only [qClean]
  refine OK.enter (L' := [vR 0]) (by decide +kernel) (by simp [ent0]) rfl ?_
  refine PP.aload_n dX5_clean_0 rfl ?_
  refine PP.getfR dX5_clean_1 fl_X5_32 sc0 rfl ?_
  refine PP.aload_n dX5_clean_4 rfl ?_
  refine PP.getfR dX5_clean_5 fl_X5_32 sc0 rfl ?_
  refine PP.getfI dX5_clean_8 fl_X5_173 sc20 rfl ?_
  refine PP.eqI a4.2.2 ?_
  refine PP.callVi (ok_cleanBits hC (w := row 0) (by omega)) dX5_clean_11 vl_X5_188 sc20 rfl rfl rfl rfl (Nat.le_of_ble_eq_true rfl) (by first | exact Nat.le_of_ble_eq_true rfl | omega) ?_
  refine PP.iret dX5_clean_14 rfl ?_
  exact ⟨_, rfl, rfl, hA⟩
theorem c_stands {σ : Sg} {A : ST} {t what : Int} (hA : RepC σ A) (hW : WF A) (hx : R32 t) (hx2 : R32 what) : OK SHc mX5_stands 20 [vR 0, vI t, vI what] σ (RP (fun v τ => v = qStands A t what ∧ RepC τ A)) := by
  obtain ⟨len, txt, T, n, row, und, kep, sn⟩ := A
  obtain ⟨a1, a2, a3, a4, a5, a6, a7, a8, a9⟩ := RepC_e.mp hA
  obtain ⟨w1, w2, w3, w4, w5, w6, w7, w8, w9⟩ := WF_e.mp hW
  have hn7 := w3.2.1
  have hC := RC_of w3 w5 a3 a4
  obtain ⟨d0, d1, d2, d3, -⟩ := id a3
  have hws := wsh_m w5
  have hst := w5.2.1
  simp only [qStands, isT]
  refine OK.enter (L' := [vR 0, vI t, vI what]) (by decide +kernel) (by simp [ent0]) rfl ?_
  by_cases ht : 0 ≤ t ∧ t < (n : Int)
  · obtain ⟨j, rfl⟩ : ∃ j : Nat, t = (j : Int) := ⟨t.toNat, by omega⟩
    have hj : j < n := by omega
    have hin : inS (rP row) j = true ↔ 0 ≤ row (2 + j) := inS_t
    have hin0 : inS (rP row) j = false ↔ row (2 + j) < 0 := by rw [← Bool.not_eq_true, hin]; omega
    rw [Int.toNat_natCast]
    refine PP.aload_n dX5_stands_0 rfl ?_
    refine PP.getfR dX5_stands_1 fl_X5_23 sc0 rfl ?_
    refine PP.iload_n dX5_stands_4 rfl ?_
    refine PP.callVi (ok_has DK14 w3 a3 hx) dX5_stands_5 vl_X5_110 sc14 rfl rfl rfl rfl (Nat.le_of_ble_eq_true rfl) (by first | exact Nat.le_of_ble_eq_true rfl | omega) ?_
    refine PP.if_eq (tgt := 20) (by first | omega | assumption | exact b2i_R _ | (unfold R32; omega)) dX5_stands_8 (by decide) (fun h8 => ?_) (fun h8 => ?_)
    · rw [decide_eq_true ht] at h8; cases h8
    · refine PP.iload_n dX5_stands_11 rfl ?_
      refine PP.if_lt (tgt := 20) (by first | omega | assumption | exact b2i_R _ | (unfold R32; omega)) dX5_stands_12 (by decide) (fun h12 => ?_) (fun h12 => ?_)
      · refine PP.iconst dX5_stands_20 ?_
        refine PP.iret dX5_stands_21 rfl ?_
        rw [if_pos (by omega)]
        exact ⟨_, rfl, rfl, hA⟩
      · refine PP.iload_n dX5_stands_15 rfl ?_
        refine PP.iconst dX5_stands_16 ?_
        refine PP.icmp_le (tgt := 22) (by first | omega | assumption | exact b2i_R _ | (unfold R32; omega)) (by first | omega | assumption | exact b2i_R _ | (unfold R32; omega)) dX5_stands_17 (by decide) (fun h17 => ?_) (fun h17 => ?_)
        · refine PP.aload_n dX5_stands_22 rfl ?_
          refine PP.getfR dX5_stands_23 fl_X5_32 sc0 rfl ?_
          refine PP.iload_n dX5_stands_26 rfl ?_
          refine PP.callVi (ok_in hC (t := j) (by omega)) dX5_stands_27 vl_X5_126 sc20 rfl rfl rfl rfl (Nat.le_of_ble_eq_true rfl) (by first | exact Nat.le_of_ble_eq_true rfl | omega) ?_
          refine PP.if_ne (tgt := 36) (by first | omega | assumption | exact b2i_R _ | (unfold R32; omega)) dX5_stands_30 (by decide) (fun h30 => ?_) (fun h30 => ?_)
          · have hp := hin.mp (b2i_n.mp h30)
            rw [if_neg (by omega), if_neg (by omega)]
            refine PP.iload_n dX5_stands_36 rfl ?_
            by_cases hs37_0 : what = 0
            · refine PP.tabI (i := 0) (off := 27) (tgt := 64) (by omega) (by omega) (by decide) (by first | omega | assumption | exact b2i_R _ | (unfold R32; omega)) dX5_stands_37 rfl (by decide) ?_
              refine PP.aload_n dX5_stands_64 rfl ?_
              refine PP.getfR dX5_stands_65 fl_X5_32 sc0 rfl ?_
              refine PP.iload_n dX5_stands_68 rfl ?_
              refine PP.callVi (ok_shadowOf hC hj hp) dX5_stands_69 vl_X5_179 sc20 rfl rfl rfl rfl (Nat.le_of_ble_eq_true rfl) (by first | exact Nat.le_of_ble_eq_true rfl | omega) ?_
              refine PP.iret dX5_stands_72 rfl ?_
              rw [if_pos hs37_0]
              exact ⟨_, rfl, rfl, hA⟩
            by_cases hs37_1 : what = 1
            · refine PP.tabI (i := 1) (off := 36) (tgt := 73) (by omega) (by omega) (by decide) (by first | omega | assumption | exact b2i_R _ | (unfold R32; omega)) dX5_stands_37 rfl (by decide) ?_
              refine PP.aload_n dX5_stands_73 rfl ?_
              refine PP.getfR dX5_stands_74 fl_X5_32 sc0 rfl ?_
              refine PP.iload_n dX5_stands_77 rfl ?_
              refine PP.callVi (ok_looksIn hC hj hp) dX5_stands_78 vl_X5_182 sc20 rfl rfl rfl rfl (Nat.le_of_ble_eq_true rfl) (by first | exact Nat.le_of_ble_eq_true rfl | omega) ?_
              refine PP.if_eq (tgt := 88) (by first | omega | assumption | exact b2i_R _ | (unfold R32; omega)) dX5_stands_81 (by decide) (fun h81 => ?_) (fun h81 => ?_)
              · refine PP.iconst dX5_stands_88 ?_
                refine PP.iret dX5_stands_89 rfl ?_
                rw [if_neg (by omega), if_pos hs37_1]
                refine ⟨_, rfl, ?_, hA⟩
                have := b2i_01 (lkS T (rP row) (rF row) j)
                omega
              · refine PP.iconst dX5_stands_84 ?_
                refine PP.goto (tgt := 89) dX5_stands_85 (by decide) ?_
                refine PP.iret dX5_stands_89 rfl ?_
                rw [if_neg (by omega), if_pos hs37_1]
                refine ⟨_, rfl, ?_, hA⟩
                have := b2i_01 (lkS T (rP row) (rF row) j)
                omega
            by_cases hs37_2 : what = 2
            · refine PP.tabI (i := 2) (off := 53) (tgt := 90) (by omega) (by omega) (by decide) (by first | omega | assumption | exact b2i_R _ | (unfold R32; omega)) dX5_stands_37 rfl (by decide) ?_
              refine PP.aload_n dX5_stands_90 rfl ?_
              refine PP.getfR dX5_stands_91 fl_X5_23 sc0 rfl ?_
              refine PP.iload_n dX5_stands_94 rfl ?_
              refine PP.callVi (ok_strikes DK14 w3 a3 hj) dX5_stands_95 vl_X5_185 sc14 rfl rfl rfl rfl (Nat.le_of_ble_eq_true rfl) (by first | exact Nat.le_of_ble_eq_true rfl | omega) ?_
              refine PP.if_eq (tgt := 105) (by first | omega | assumption | exact b2i_R _ | (unfold R32; omega)) dX5_stands_98 (by decide) (fun h98 => ?_) (fun h98 => ?_)
              · refine PP.iconst dX5_stands_105 ?_
                refine PP.iret dX5_stands_106 rfl ?_
                rw [if_neg (by omega), if_neg (by omega), if_pos hs37_2]
                refine ⟨_, rfl, ?_, hA⟩
                have := b2i_01 (kstS T j)
                omega
              · refine PP.iconst dX5_stands_101 ?_
                refine PP.goto (tgt := 106) dX5_stands_102 (by decide) ?_
                refine PP.iret dX5_stands_106 rfl ?_
                rw [if_neg (by omega), if_neg (by omega), if_pos hs37_2]
                refine ⟨_, rfl, ?_, hA⟩
                have := b2i_01 (kstS T j)
                omega
            refine PP.tabO (tgt := 107) (by omega) (by first | omega | assumption | exact b2i_R _ | (unfold R32; omega)) dX5_stands_37 (by decide) ?_
            refine PP.aload_n dX5_stands_107 rfl ?_
            refine PP.getfR dX5_stands_108 fl_X5_32 sc0 rfl ?_
            refine PP.aload_n dX5_stands_111 rfl ?_
            refine PP.getfR dX5_stands_112 fl_X5_32 sc0 rfl ?_
            refine PP.getfI dX5_stands_115 fl_X5_173 sc20 rfl ?_
            refine PP.eqI a4.2.2 ?_
            refine PP.callVi (ok_cleanBits hC (w := row 0) (by omega)) dX5_stands_118 vl_X5_188 sc20 rfl rfl rfl rfl (Nat.le_of_ble_eq_true rfl) (by first | exact Nat.le_of_ble_eq_true rfl | omega) ?_
            refine PP.iload_n dX5_stands_121 rfl ?_
            refine PP.ishrR (z := ((msk (clS T n (rP row) (rF row) (row 0)) n / 2 ^ j) : Nat)) (shr_msk hn7 (by omega)) dX5_stands_122 ?_
            refine PP.iconst dX5_stands_123 ?_
            refine PP.iandR (z := (b2i (clS T n (rP row) (rF row) (row 0) j))) (and_bit hj) dX5_stands_124 ?_
            refine PP.iret dX5_stands_125 rfl ?_
            rw [if_neg (by omega), if_neg (by omega), if_neg (by omega)]
            exact ⟨_, rfl, rfl, hA⟩
          · refine PP.bipush dX5_stands_33 (by decide) ?_
            refine PP.iret dX5_stands_35 rfl ?_
            rw [if_neg (by omega), if_pos (hin0.mp (b2i_0.mp h30))]
            exact ⟨_, rfl, rfl, hA⟩
        · refine PP.iconst dX5_stands_20 ?_
          refine PP.iret dX5_stands_21 rfl ?_
          rw [if_pos (by omega)]
          exact ⟨_, rfl, rfl, hA⟩
  · rw [if_pos (fun h => ht h.1)]
    refine PP.aload_n dX5_stands_0 rfl ?_
    refine PP.getfR dX5_stands_1 fl_X5_23 sc0 rfl ?_
    refine PP.iload_n dX5_stands_4 rfl ?_
    refine PP.callVi (ok_has DK14 w3 a3 hx) dX5_stands_5 vl_X5_110 sc14 rfl rfl rfl rfl (Nat.le_of_ble_eq_true rfl) (by first | exact Nat.le_of_ble_eq_true rfl | omega) ?_
    refine PP.if_eq (tgt := 20) (by first | omega | exact b2i_R _) dX5_stands_8 (by decide) (fun h8 => ?_) (fun h8 => ?_)
    · refine PP.iconst dX5_stands_20 ?_
      refine PP.iret dX5_stands_21 rfl ?_
      exact ⟨_, rfl, rfl, hA⟩
    · rw [decide_eq_false ht] at h8; exact absurd rfl h8
def plP (T row : Nat → Int) (t : Nat) : Bool := inS (rP row) t && decide (T (4 + t) = 1) && !lkS T (rP row) (rF row) t
theorem c_pooled {σ : Sg} {A : ST} (hA : RepC σ A) (hW : WF A) : OK SHc mX5_pooled 20 [vR 0] σ (RP (fun v τ => v = qPooled A ∧ RepC τ A)) := by
  obtain ⟨len, txt, T, n, row, und, kep, sn⟩ := A
  obtain ⟨a1, a2, a3, a4, a5, a6, a7, a8, a9⟩ := RepC_e.mp hA
  obtain ⟨w1, w2, w3, w4, w5, w6, w7, w8, w9⟩ := WF_e.mp hW
  have hn7 := w3.2.1
  have hC := RC_of w3 w5 a3 a4
  obtain ⟨d0, d1, d2, d3, -⟩ := id a3
  have hws := wsh_m w5
  have hst := w5.2.1
  show OK SHc mX5_pooled 20 [vR 0] σ (RP (fun v τ => v = ((msk (plP T row) n : Nat) : Int) ∧ RepC τ (len, txt, T, n, row, und, kep, sn)))
  refine OK.enter (L' := [vR 0, vN, vN]) (by decide +kernel) (by simp [ent0]) rfl ?_
  refine PP.rg (fun hg => ?_)
  have key : ∀ o, o ≤ n → PP SHc mX5_pooled 20 4 [vR 0, vI (msk (plP T row) o : Nat), vI (o : Int)] [] σ (RP (fun v τ => v = ((msk (plP T row) n : Nat) : Int) ∧ RepC τ (len, txt, T, n, row, und, kep, sn))) := by
    refine loop_dn n ?_ ?_
    · refine PP.iload_n dX5_pooled_4 rfl ?_
      refine PP.aload_n dX5_pooled_5 rfl ?_
      refine PP.getfR dX5_pooled_6 fl_X5_23 sc0 rfl ?_
      refine PP.getfI dX5_pooled_9 fl_X5_87 sc14 rfl ?_
      refine PP.icmp_ge (tgt := 62) (by first | omega | exact hg _ _ | (unfold R32; omega)) (by first | omega | exact hg _ _ | (unfold R32; omega)) dX5_pooled_12 (by decide) (fun h12 => ?_) (fun h12 => ?_)
      · refine PP.iload_n dX5_pooled_62 rfl ?_
        refine PP.iret dX5_pooled_63 rfl ?_
        exact ⟨_, rfl, rfl, hA⟩
      · omega
    · intro o ho ih
      have g1 := (DR14 a3 o ho).1
      refine PP.iload_n dX5_pooled_4 rfl ?_
      refine PP.aload_n dX5_pooled_5 rfl ?_
      refine PP.getfR dX5_pooled_6 fl_X5_23 sc0 rfl ?_
      refine PP.getfI dX5_pooled_9 fl_X5_87 sc14 rfl ?_
      refine PP.icmp_ge (tgt := 62) (by first | omega | exact hg _ _ | exact b2i_R _ | (unfold R32; omega)) (by first | omega | exact hg _ _ | exact b2i_R _ | (unfold R32; omega)) dX5_pooled_12 (by decide) (fun h12 => ?_) (fun h12 => ?_)
      · omega
      · refine PP.aload_n dX5_pooled_15 rfl ?_
        refine PP.getfR dX5_pooled_16 fl_X5_32 sc0 rfl ?_
        refine PP.iload_n dX5_pooled_19 rfl ?_
        refine PP.callVi (ok_in hC (t := o) (by omega)) dX5_pooled_20 vl_X5_126 sc20 rfl rfl rfl rfl (Nat.le_of_ble_eq_true rfl) (by first | exact Nat.le_of_ble_eq_true rfl | omega) ?_
        refine PP.if_eq (tgt := 56) (by first | omega | exact hg _ _ | exact b2i_R _ | (unfold R32; omega)) dX5_pooled_23 (by decide) (fun h23 => ?_) (fun h23 => ?_)
        · refine PP.iinc (L' := [_, _, _]) dX5_pooled_56 rfl rfl rfl ?_
          refine PP.goto (tgt := 4) dX5_pooled_59 (by decide) ?_
          first
          | (rw [msk_s1 (by simp only [plP]; rw [b2i_n.mp h23, b2i_0.mp h47, decide_eq_true (by omega)]; rfl)] at ih; exact ih)
          | (rw [msk_s0 (by simp only [plP]; rw [b2i_n.mp h47]; simp)] at ih; exact ih)
          | (rw [msk_s0 (by simp only [plP]; rw [decide_eq_false (by omega)]; simp)] at ih; exact ih)
          | (rw [msk_s0 (by simp only [plP]; rw [b2i_0.mp h23]; rfl)] at ih; exact ih)
        · refine PP.aload_n dX5_pooled_26 rfl ?_
          refine PP.getfR dX5_pooled_27 fl_X5_23 sc0 rfl ?_
          refine PP.getfR dX5_pooled_30 fl_X5_114 sc14 rfl ?_
          refine PP.iload_n dX5_pooled_33 rfl ?_
          refine PP.ialoadN (n := o) sc15 (by first | decide | omega) (by first | rfl | omega) (by first | omega | exact hg _ _ | exact b2i_R _ | (unfold R32; omega)) dX5_pooled_34 ?_
          refine PP.iconst dX5_pooled_35 ?_
          refine PP.icmp_ne (tgt := 56) (by first | omega | exact hg _ _ | exact b2i_R _ | (unfold R32; omega)) (by first | omega | exact hg _ _ | exact b2i_R _ | (unfold R32; omega)) dX5_pooled_36 (by decide) (fun h36 => ?_) (fun h36 => ?_)
          · refine PP.iinc (L' := [_, _, _]) dX5_pooled_56 rfl rfl rfl ?_
            refine PP.goto (tgt := 4) dX5_pooled_59 (by decide) ?_
            first
            | (rw [msk_s1 (by simp only [plP]; rw [b2i_n.mp h23, b2i_0.mp h47, decide_eq_true (by omega)]; rfl)] at ih; exact ih)
            | (rw [msk_s0 (by simp only [plP]; rw [b2i_n.mp h47]; simp)] at ih; exact ih)
            | (rw [msk_s0 (by simp only [plP]; rw [decide_eq_false (by omega)]; simp)] at ih; exact ih)
            | (rw [msk_s0 (by simp only [plP]; rw [b2i_0.mp h23]; rfl)] at ih; exact ih)
          · refine PP.aload_n dX5_pooled_39 rfl ?_
            refine PP.getfR dX5_pooled_40 fl_X5_32 sc0 rfl ?_
            refine PP.iload_n dX5_pooled_43 rfl ?_
            refine PP.callVi (ok_looksIn hC ho (inS_t.mp (b2i_n.mp h23))) dX5_pooled_44 vl_X5_182 sc20 rfl rfl rfl rfl (Nat.le_of_ble_eq_true rfl) (by first | exact Nat.le_of_ble_eq_true rfl | omega) ?_
            refine PP.if_ne (tgt := 56) (by first | omega | exact hg _ _ | exact b2i_R _ | (unfold R32; omega)) dX5_pooled_47 (by decide) (fun h47 => ?_) (fun h47 => ?_)
            · refine PP.iinc (L' := [_, _, _]) dX5_pooled_56 rfl rfl rfl ?_
              refine PP.goto (tgt := 4) dX5_pooled_59 (by decide) ?_
              first
              | (rw [msk_s1 (by simp only [plP]; rw [b2i_n.mp h23, b2i_0.mp h47, decide_eq_true (by omega)]; rfl)] at ih; exact ih)
              | (rw [msk_s0 (by simp only [plP]; rw [b2i_n.mp h47]; simp)] at ih; exact ih)
              | (rw [msk_s0 (by simp only [plP]; rw [decide_eq_false (by omega)]; simp)] at ih; exact ih)
              | (rw [msk_s0 (by simp only [plP]; rw [b2i_0.mp h23]; rfl)] at ih; exact ih)
            · refine PP.iload_n dX5_pooled_50 rfl ?_
              refine PP.iconst dX5_pooled_51 ?_
              refine PP.iload_n dX5_pooled_52 rfl ?_
              refine PP.ishlR (z := ((2 ^ o) : Nat)) (shl1_o (by omega)) dX5_pooled_53 ?_
              refine PP.iorR (z := ((msk (plP T row) o + 2 ^ o) : Nat)) (ior_msk _ _) dX5_pooled_54 ?_
              refine PP.istore_n (L' := [_, _, _]) dX5_pooled_55 (Nat.le_of_ble_eq_true rfl) rfl rfl ?_
              refine PP.iinc (L' := [_, _, _]) dX5_pooled_56 rfl rfl rfl ?_
              refine PP.goto (tgt := 4) dX5_pooled_59 (by decide) ?_
              first
              | (rw [msk_s1 (by simp only [plP]; rw [b2i_n.mp h23, b2i_0.mp h47, decide_eq_true (by omega)]; rfl)] at ih; exact ih)
              | (rw [msk_s0 (by simp only [plP]; rw [b2i_n.mp h47]; simp)] at ih; exact ih)
              | (rw [msk_s0 (by simp only [plP]; rw [decide_eq_false (by omega)]; simp)] at ih; exact ih)
              | (rw [msk_s0 (by simp only [plP]; rw [b2i_0.mp h23]; rfl)] at ih; exact ih)
  refine PP.iconst dX5_pooled_0 ?_
  refine PP.istore_n (L' := [_, _, _]) dX5_pooled_1 (Nat.le_of_ble_eq_true rfl) rfl rfl ?_
  refine PP.iconst dX5_pooled_2 ?_
  refine PP.istore_n (L' := [_, _, _]) dX5_pooled_3 (Nat.le_of_ble_eq_true rfl) rfl rfl ?_
  exact key 0 (by omega)
theorem room_l {σ : Sg} {len : Nat} {txt T : Nat → Int} {n : Nat} {row : Nat → Int} {und kep : List (Nat → Int)} {sn : Nat → Int} {j S : Nat} {fp : Nat → Bool} (hA : RepC σ (len, txt, T, n, row, und, kep, sn)) (hC : RC σ 20 14 T n (rP row) (rF row)) (hj : j < n) (d0 : σ 14 0 = (S : Int)) (hS : S ≤ 14) (hfo : ∀ o : Nat, fitS T n (rP row) j (o : Int) = fp o) : ∀ o, o ≤ S → PP SHc mX5_room 20 42 [vR 0, vI (j : Int), vI (msk fp o : Nat), vI (o : Int)] [] σ (RP (fun v τ => v = ((msk fp S : Nat) : Int) ∧ RepC τ (len, txt, T, n, row, und, kep, sn))) := by
  refine loop_dn S ?_ ?_
  · refine PP.iload_n dX5_room_42 rfl ?_
    refine PP.aload_n dX5_room_43 rfl ?_
    refine PP.getfR dX5_room_44 fl_X5_23 sc0 rfl ?_
    refine PP.getfI dX5_room_47 fl_X5_191 sc14 rfl ?_
    refine PP.icmp_ge (tgt := 77) (by first | omega | (unfold R32; omega)) (by first | omega | (unfold R32; omega)) dX5_room_50 (by decide) (fun h50 => ?_) (fun h50 => ?_)
    · refine PP.iload_n dX5_room_77 rfl ?_
      refine PP.iret dX5_room_78 rfl ?_
      exact ⟨_, rfl, rfl, hA⟩
    · omega
  · intro o ho ih
    refine PP.iload_n dX5_room_42 rfl ?_
    refine PP.aload_n dX5_room_43 rfl ?_
    refine PP.getfR dX5_room_44 fl_X5_23 sc0 rfl ?_
    refine PP.getfI dX5_room_47 fl_X5_191 sc14 rfl ?_
    refine PP.icmp_ge (tgt := 77) (by first | omega | exact b2i_R _ | (unfold R32; omega)) (by first | omega | exact b2i_R _ | (unfold R32; omega)) dX5_room_50 (by decide) (fun h50 => ?_) (fun h50 => ?_)
    · omega
    · refine PP.aload_n dX5_room_53 rfl ?_
      refine PP.getfR dX5_room_54 fl_X5_32 sc0 rfl ?_
      refine PP.iload_n dX5_room_57 rfl ?_
      refine PP.iload_n dX5_room_58 rfl ?_
      refine PP.callVi (ok_fits hC hj (by omega)) dX5_room_59 vl_X5_148 sc20 rfl rfl rfl rfl (Nat.le_of_ble_eq_true rfl) (by first | exact Nat.le_of_ble_eq_true rfl | omega) ?_
      refine PP.if_eq (tgt := 71) (by first | omega | exact b2i_R _ | (unfold R32; omega)) dX5_room_62 (by decide) (fun h62 => ?_) (fun h62 => ?_)
      · refine PP.iinc (L' := [_, _, _, _]) dX5_room_71 rfl rfl rfl ?_
        refine PP.goto (tgt := 42) dX5_room_74 (by decide) ?_
        rw [hfo] at h62
        first
          | (rw [msk_s1 (b2i_n.mp h62)] at ih; exact ih)
          | (rw [msk_s0 (b2i_0.mp h62)] at ih; exact ih)
      · refine PP.iload_n dX5_room_65 rfl ?_
        refine PP.iconst dX5_room_66 ?_
        refine PP.iload_n dX5_room_67 rfl ?_
        refine PP.ishlR (z := ((2 ^ o) : Nat)) (shl1_o (by omega)) dX5_room_68 ?_
        refine PP.iorR (z := ((msk fp o + 2 ^ o) : Nat)) (ior_msk _ _) dX5_room_69 ?_
        refine PP.istore_n (L' := [_, _, _, _]) dX5_room_70 (Nat.le_of_ble_eq_true rfl) rfl rfl ?_
        refine PP.iinc (L' := [_, _, _, _]) dX5_room_71 rfl rfl rfl ?_
        refine PP.goto (tgt := 42) dX5_room_74 (by decide) ?_
        rw [hfo] at h62
        first
          | (rw [msk_s1 (b2i_n.mp h62)] at ih; exact ih)
          | (rw [msk_s0 (b2i_0.mp h62)] at ih; exact ih)
theorem c_room {σ : Sg} {A : ST} {t : Int} (hA : RepC σ A) (hW : WF A) (hx : R32 t) : OK SHc mX5_room 20 [vR 0, vI t] σ (RP (fun v τ => v = qRoom A t ∧ RepC τ A)) := by
  obtain ⟨len, txt, T, n, row, und, kep, sn⟩ := A
  obtain ⟨a1, a2, a3, a4, a5, a6, a7, a8, a9⟩ := RepC_e.mp hA
  obtain ⟨w1, w2, w3, w4, w5, w6, w7, w8, w9⟩ := WF_e.mp hW
  have hn7 := w3.2.1
  have hC := RC_of w3 w5 a3 a4
  obtain ⟨d0, d1, d2, d3, -⟩ := id a3
  have hws := wsh_m w5
  have hst := w5.2.1
  simp only [qRoom, isT]
  refine OK.enter (L' := [vR 0, vI t, vN, vN]) (by decide +kernel) (by simp [ent0]) rfl ?_
  refine PP.rg (fun hg => ?_)
  by_cases ht : 0 ≤ t ∧ t < (n : Int)
  · obtain ⟨j, rfl⟩ : ∃ j : Nat, t = (j : Int) := ⟨t.toNat, by omega⟩
    have hj : j < n := by omega
    have hin : inS (rP row) j = true ↔ 0 ≤ row (2 + j) := inS_t
    have hin0 : inS (rP row) j = false ↔ row (2 + j) < 0 := by rw [← Bool.not_eq_true, hin]; omega
    rw [if_neg (fun h => h ht), Int.toNat_natCast]
    have hsl := w3.2.2.1
    obtain ⟨S, hS⟩ : ∃ S : Nat, T 0 = (S : Int) := ⟨(T 0).toNat, by omega⟩
    rw [hS, Int.toNat_natCast]
    rw [hS] at d0 hsl
    generalize hfp : (fun s : Nat => fitS T n (rP row) j (s : Int)) = fp
    have hfo : ∀ o : Nat, fitS T n (rP row) j (o : Int) = fp o := fun o => by rw [← hfp]
    refine PP.aload_n dX5_room_0 rfl ?_
    refine PP.getfR dX5_room_1 fl_X5_23 sc0 rfl ?_
    refine PP.iload_n dX5_room_4 rfl ?_
    refine PP.callVi (ok_has DK14 w3 a3 hx) dX5_room_5 vl_X5_110 sc14 rfl rfl rfl rfl (Nat.le_of_ble_eq_true rfl) (by first | exact Nat.le_of_ble_eq_true rfl | omega) ?_
    refine PP.if_ne (tgt := 13) (by first | omega | assumption | exact b2i_R _ | (unfold R32; omega)) dX5_room_8 (by decide) (fun h8 => ?_) (fun h8 => ?_)
    · refine PP.aload_n dX5_room_13 rfl ?_
      refine PP.getfR dX5_room_14 fl_X5_32 sc0 rfl ?_
      refine PP.iload_n dX5_room_17 rfl ?_
      refine PP.callVi (ok_in hC (t := j) (by omega)) dX5_room_18 vl_X5_126 sc20 rfl rfl rfl rfl (Nat.le_of_ble_eq_true rfl) (by first | exact Nat.le_of_ble_eq_true rfl | omega) ?_
      refine PP.if_ne (tgt := 35) (by first | omega | assumption | exact b2i_R _ | (unfold R32; omega)) dX5_room_21 (by decide) (fun h21 => ?_) (fun h21 => ?_)
      · refine PP.bipush dX5_room_35 (by decide) ?_
        refine PP.iret dX5_room_37 rfl ?_
        rw [if_pos (by first | exact Or.inl (hin.mp (b2i_n.mp h21)) | exact Or.inr (b2i_n.mp h32))]
        exact ⟨_, rfl, rfl, hA⟩
      · refine PP.aload_n dX5_room_24 rfl ?_
        refine PP.getfR dX5_room_25 fl_X5_32 sc0 rfl ?_
        refine PP.iload_n dX5_room_28 rfl ?_
        refine PP.callVi (ok_isWashed (p := wsh row) (n := n) RK20 (by rw [a4.2.1, hws]) hn7 hj) dX5_room_29 vl_X5_135 sc20 rfl rfl rfl rfl (Nat.le_of_ble_eq_true rfl) (by first | exact Nat.le_of_ble_eq_true rfl | omega) ?_
        refine PP.if_eq (tgt := 38) (by first | omega | assumption | exact b2i_R _ | (unfold R32; omega)) dX5_room_32 (by decide) (fun h32 => ?_) (fun h32 => ?_)
        · have q1 := hin0.mp (b2i_0.mp h21)
          have q2 := b2i_0.mp h32
          rw [if_neg (by rw [q2]; simp; omega)]
          refine PP.iconst dX5_room_38 ?_
          refine PP.istore_n (L' := [_, _, _, _]) dX5_room_39 (Nat.le_of_ble_eq_true rfl) rfl rfl ?_
          refine PP.iconst dX5_room_40 ?_
          refine PP.istore_n (L' := [_, _, _, _]) dX5_room_41 (Nat.le_of_ble_eq_true rfl) rfl rfl ?_
          exact room_l hA hC hj d0 (by omega) hfo 0 (by omega)
        · refine PP.bipush dX5_room_35 (by decide) ?_
          refine PP.iret dX5_room_37 rfl ?_
          rw [if_pos (by first | exact Or.inl (hin.mp (b2i_n.mp h21)) | exact Or.inr (b2i_n.mp h32))]
          exact ⟨_, rfl, rfl, hA⟩
    · rw [decide_eq_true ht] at h8; cases h8
  · rw [if_pos ht]
    refine PP.aload_n dX5_room_0 rfl ?_
    refine PP.getfR dX5_room_1 fl_X5_23 sc0 rfl ?_
    refine PP.iload_n dX5_room_4 rfl ?_
    refine PP.callVi (ok_has DK14 w3 a3 hx) dX5_room_5 vl_X5_110 sc14 rfl rfl rfl rfl (Nat.le_of_ble_eq_true rfl) (by first | exact Nat.le_of_ble_eq_true rfl | omega) ?_
    refine PP.if_ne (tgt := 13) (by first | omega | exact b2i_R _) dX5_room_8 (by decide) (fun h8 => ?_) (fun h8 => ?_)
    · rw [decide_eq_false ht] at h8; exact absurd rfl h8
    · refine PP.iconst dX5_room_11 ?_
      refine PP.iret dX5_room_12 rfl ?_
      exact ⟨_, rfl, rfl, hA⟩
