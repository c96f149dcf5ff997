/-! the model: what would be -/
theorem x_clean {σ : Sg} {A : ST} (hA : RepM σ A) (hW : WF A) {d : Nat} (hd : 6 ≤ d) : OK SHm mX6_clean d [vR 0] σ (RP (fun v τ => v = qClean A ∧ RepM τ A ∧ (∀ c, c ≠ 10 → c ≠ 11 → c ≠ 12 → τ c = σ c) ∧ MS τ A.2.2.1 (rP A.2.2.2.2.1) (rF A.2.2.2.2.1))) := by
  obtain ⟨len, txt, T, n, row, und, kep, sn⟩ := A
  obtain ⟨b1, b2, b3, b4, b5, b6, b7⟩ := RepM_e.mp hA
  obtain ⟨w1, w2, w3, w4, w5, w6, w7, w8, w9⟩ := WF_e.mp hW
  have hn7 := w3.2.1
  have hsl := w3.2.2.1
  have hws := wsh_m w5
  have hst := w5.2.1
  have t3 : σ 2 3 = (n : Int) := (b3 3 (by decide)).trans w3.1
  have t0 := b3 0 (by decide)
  have r0 := b4 0 (by decide)
  have r1 : σ 4 1 = ((msk (wsh row) n : Nat) : Int) := (b4 1 (by decide)).trans hws
  simp only [qClean]
  refine OK.enter (L' := [vR 0]) (by decide +kernel) (by simp [ent0]) rfl ?_
  refine PP.aload_n dX6_clean_0 rfl ?_
  refine PP.callVnP (m_standUp w3 b3 w5 b4) dX6_clean_1 vl_X6_158 sm0 rfl rfl rfl rfl (Nat.le_of_ble_eq_true rfl) (by first | exact Nat.le_of_ble_eq_true rfl | omega) (fun τ1 hq1 => ?_)
  obtain ⟨p1, p2⟩ := hq1
  refine PP.aload_n dX6_clean_4 rfl ?_
  refine PP.aload_n dX6_clean_5 rfl ?_
  refine PP.getfR dX6_clean_6 fl_X6_19 sm0 rfl ?_
  refine PP.iconst dX6_clean_9 ?_
  refine PP.ialoadN (n := 0) sm4 (by first | decide | omega) (by first | rfl | omega) (by first | omega | exact hg _ _ | (unfold R32; omega)) dX6_clean_10 ?_
  refine PP.eqI (y := row 0) (by rw [p1 4 (by decide) (by decide) (by decide)]; exact r0) ?_
  refine PP.callVi (m_cleanBy (w := row 0) (MC_up w3 w5 (mT_cong b3 (p1 2 (by decide) (by decide) (by decide))) p2) (by omega)) dX6_clean_11 vl_X6_182 sm0 rfl rfl rfl rfl (Nat.le_of_ble_eq_true rfl) (by first | exact Nat.le_of_ble_eq_true rfl | omega) ?_
  refine PP.iret dX6_clean_14 rfl ?_
  exact ⟨_, rfl, rfl, RepM_9 hA (fun c hc => p1 c (by omega) (by omega) (by omega)), p1, p2⟩
theorem x_stands {σ : Sg} {A : ST} {t what : Int} (hA : RepM σ A) (hW : WF A) (hx : R32 t) (hx2 : R32 what) : OK SHm mX6_stands 20 [vR 0, vI t, vI what] σ (RP (fun v τ => v = qStands A t what ∧ RepM τ A)) := by
  obtain ⟨len, txt, T, n, row, und, kep, sn⟩ := A
  obtain ⟨b1, b2, b3, b4, b5, b6, b7⟩ := RepM_e.mp hA
  obtain ⟨w1, w2, w3, w4, w5, w6, w7, w8, w9⟩ := WF_e.mp hW
  have hn7 := w3.2.1
  have hsl := w3.2.2.1
  have hws := wsh_m w5
  have hst := w5.2.1
  have t3 : σ 2 3 = (n : Int) := (b3 3 (by decide)).trans w3.1
  have t0 := b3 0 (by decide)
  have r0 := b4 0 (by decide)
  have r1 : σ 4 1 = ((msk (wsh row) n : Nat) : Int) := (b4 1 (by decide)).trans hws
  simp only [qStands, isT]
  refine OK.enter (L' := [vR 0, vI t, vI what, vN]) (by decide +kernel) (by simp [ent0]) rfl ?_
  by_cases ht : (0 ≤ t ∧ t < (n : Int)) ∧ 0 ≤ what ∧ what ≤ 3
  · obtain ⟨j, rfl⟩ : ∃ j : Nat, t = (j : Int) := ⟨t.toNat, by omega⟩
    have hj : j < n := by omega
    have q2 := b4 (2 + j) (by omega)
    have q9 := b4 (9 + j) (by omega)
    have hrg := wfR_rng w3 w5 hj
    obtain ⟨x1, x2, x3, x4⟩ := w3.2.2.2.2.2.1 j hj
    rw [if_neg (fun h => h ht), Int.toNat_natCast]
    have l01 := b2i_01 (lkS T (rP row) (rF row) j)
    have k01 := b2i_01 (stS T (rP row) j)
    have c01 := b2i_01 (clS T n (rP row) (rF row) (row 0) j)
    have hsh := shS_le T n (rP row) j
    clear hrg x1 x2 x3 x4
    refine PP.aload_n dX6_stands_0 rfl ?_
    refine PP.iload_n dX6_stands_1 rfl ?_
    refine PP.callVi (m_isThing w3 b3 hx) dX6_stands_2 vl_X6_150 sm0 rfl rfl rfl rfl (Nat.le_of_ble_eq_true rfl) (by first | exact Nat.le_of_ble_eq_true rfl | omega) ?_
    refine PP.if_eq (tgt := 20) (by first | omega | assumption | exact b2i_R _ | (unfold R32; omega)) dX6_stands_5 (by decide) (fun h5 => ?_) (fun h5 => ?_)
    · rw [decide_eq_true ht.1] at h5; cases h5
    · refine PP.iload_n dX6_stands_8 rfl ?_
      refine PP.i2l (by first | omega | assumption | exact b2i_R _ | (unfold R32; omega)) dX6_stands_9 ?_
      refine PP.lconst (z := 0) dX6_stands_10 (by decide) ?_
      refine PP.ldc2 (z := 3) dX6_stands_11 bw867 ?_
      refine PP.callSi (m_in hx2 (by unfold R32; omega) (by unfold R32; omega)) dX6_stands_14 sl_X6_70 rfl rfl (Nat.le_of_ble_eq_true rfl) (by first | exact Nat.le_of_ble_eq_true rfl | omega) ?_
      refine PP.if_ne (tgt := 22) (by first | omega | assumption | exact b2i_R _ | (unfold R32; omega)) dX6_stands_17 (by decide) (fun h17 => ?_) (fun h17 => ?_)
      · refine PP.aload_n dX6_stands_22 rfl ?_
        refine PP.callVnP (m_standUp w3 b3 w5 b4) dX6_stands_23 vl_X6_158 sm0 rfl rfl rfl rfl (Nat.le_of_ble_eq_true rfl) (by first | exact Nat.le_of_ble_eq_true rfl | omega) (fun τ23 hq23 => ?_)
        obtain ⟨p1, p2⟩ := hq23
        have hMC := MC_up w3 w5 (mT_cong b3 (p1 2 (by decide) (by decide) (by decide))) p2
        have e10 : τ23 10 j = row (2 + j) := (p2 j (by omega)).1
        have hr10 : -4 ≤ row (2 + j) ∧ row (2 + j) ≤ 14 := by have := wfR_rng w3 w5 hj; have := (w3.2.2.2.2.2.1 j hj).2.1; omega
        have e40 : τ23 4 0 = row 0 := by rw [p1 4 (by decide) (by decide) (by decide)]; exact r0
        have hA' : RepM τ23 (len, txt, T, n, row, und, kep, sn) := RepM_9 hA (fun c hc => p1 c (by omega) (by omega) (by omega))
        refine PP.aload_n dX6_stands_26 rfl ?_
        refine PP.getfR dX6_stands_27 fl_X6_37 sm0 rfl ?_
        refine PP.iload_n dX6_stands_30 rfl ?_
        refine PP.ialoadN (n := j) sm10 (by first | decide | omega) (by first | rfl | omega) (by first | omega | assumption | exact b2i_R _ | (unfold R32; omega)) dX6_stands_31 ?_
        refine PP.if_ge (tgt := 38) (by first | omega | assumption | exact b2i_R _ | (unfold R32; omega)) dX6_stands_32 (by decide) (fun h32 => ?_) (fun h32 => ?_)
        · rw [if_neg (by omega)]
          have hp : 0 ≤ rP row j := by show 0 ≤ row (2 + j); omega
          have hks : stS T (rP row) j = kstS T j := by unfold stS; rw [decide_eq_true hp, Bool.and_true]
          refine PP.iload_n dX6_stands_38 rfl ?_
          refine PP.iconst dX6_stands_39 ?_
          refine PP.icmp_ne (tgt := 51) (by first | omega | assumption | exact b2i_R _ | (unfold R32; omega)) (by first | omega | assumption | exact b2i_R _ | (unfold R32; omega)) dX6_stands_40 (by decide) (fun h40 => ?_) (fun h40 => ?_)
          · refine PP.iload_n dX6_stands_51 rfl ?_
            refine PP.iconst dX6_stands_52 ?_
            refine PP.icmp_ne (tgt := 64) (by first | omega | assumption | exact b2i_R _ | (unfold R32; omega)) (by first | omega | assumption | exact b2i_R _ | (unfold R32; omega)) dX6_stands_53 (by decide) (fun h53 => ?_) (fun h53 => ?_)
            · refine PP.aload_n dX6_stands_64 rfl ?_
              refine PP.iload_n dX6_stands_65 rfl ?_
              refine PP.aload_n dX6_stands_66 rfl ?_
              refine PP.getfR dX6_stands_67 fl_X6_19 sm0 rfl ?_
              refine PP.iconst dX6_stands_70 ?_
              refine PP.ialoadN (n := 0) sm4 (by first | decide | omega) (by first | rfl | omega) (by first | omega | assumption | exact b2i_R _ | (unfold R32; omega)) dX6_stands_71 ?_
              refine PP.eqI e40 ?_
              refine PP.callVi (m_comesClean (w := row 0) hMC hj (by omega)) dX6_stands_72 vl_X6_146 sm0 rfl rfl rfl rfl (Nat.le_of_ble_eq_true rfl) (by first | exact Nat.le_of_ble_eq_true rfl | omega) ?_
              refine PP.istore_n (L' := [_, _, _, _]) dX6_stands_75 (Nat.le_of_ble_eq_true rfl) rfl rfl ?_
              refine PP.iload_n dX6_stands_76 rfl ?_
              refine PP.if_ne (tgt := 88) (by first | omega | assumption | exact b2i_R _ | (unfold R32; omega)) dX6_stands_77 (by decide) (fun h77 => ?_) (fun h77 => ?_)
              · refine PP.iload_n dX6_stands_88 rfl ?_
                refine PP.if_eq (tgt := 96) (by first | omega | assumption | exact b2i_R _ | (unfold R32; omega)) dX6_stands_89 (by decide) (fun h89 => ?_) (fun h89 => ?_)
                · refine PP.iconst dX6_stands_96 ?_
                  refine PP.iret dX6_stands_97 rfl ?_
                  first
                  | (rw [if_pos (by omega)]; exact ⟨_, rfl, rfl, hA'⟩)
                  | (rw [if_neg (by omega), if_pos (by omega)]; exact ⟨_, rfl, by omega, hA'⟩)
                  | (rw [if_neg (by omega), if_neg (by omega), if_pos (by omega), ← hks]; exact ⟨_, rfl, by omega, hA'⟩)
                  | (rw [if_neg (by omega), if_neg (by omega), if_neg (by omega)]; exact ⟨_, rfl, by omega, hA'⟩)
                · refine PP.iconst dX6_stands_92 ?_
                  refine PP.goto (tgt := 97) dX6_stands_93 (by decide) ?_
                  refine PP.iret dX6_stands_97 rfl ?_
                  first
                  | (rw [if_pos (by omega)]; exact ⟨_, rfl, rfl, hA'⟩)
                  | (rw [if_neg (by omega), if_pos (by omega)]; exact ⟨_, rfl, by omega, hA'⟩)
                  | (rw [if_neg (by omega), if_neg (by omega), if_pos (by omega), ← hks]; exact ⟨_, rfl, by omega, hA'⟩)
                  | (rw [if_neg (by omega), if_neg (by omega), if_neg (by omega)]; exact ⟨_, rfl, by omega, hA'⟩)
              · refine PP.aload_n dX6_stands_80 rfl ?_
                refine PP.iload_n dX6_stands_81 rfl ?_
                refine PP.callVi (m_shadowOf hMC hj hp) dX6_stands_82 vl_X6_140 sm0 rfl rfl rfl rfl (Nat.le_of_ble_eq_true rfl) (by first | exact Nat.le_of_ble_eq_true rfl | omega) ?_
                refine PP.goto (tgt := 97) dX6_stands_85 (by decide) ?_
                refine PP.iret dX6_stands_97 rfl ?_
                first
                | (rw [if_pos (by omega)]; exact ⟨_, rfl, rfl, hA'⟩)
                | (rw [if_neg (by omega), if_pos (by omega)]; exact ⟨_, rfl, by omega, hA'⟩)
                | (rw [if_neg (by omega), if_neg (by omega), if_pos (by omega), ← hks]; exact ⟨_, rfl, by omega, hA'⟩)
                | (rw [if_neg (by omega), if_neg (by omega), if_neg (by omega)]; exact ⟨_, rfl, by omega, hA'⟩)
            · refine PP.aload_n dX6_stands_56 rfl ?_
              refine PP.iload_n dX6_stands_57 rfl ?_
              refine PP.callVi (m_strikes hMC hj) dX6_stands_58 vl_X6_131 sm0 rfl rfl rfl rfl (Nat.le_of_ble_eq_true rfl) (by first | exact Nat.le_of_ble_eq_true rfl | omega) ?_
              refine PP.goto (tgt := 75) dX6_stands_61 (by decide) ?_
              refine PP.istore_n (L' := [_, _, _, _]) dX6_stands_75 (Nat.le_of_ble_eq_true rfl) rfl rfl ?_
              refine PP.iload_n dX6_stands_76 rfl ?_
              refine PP.if_ne (tgt := 88) (by first | omega | assumption | exact b2i_R _ | (unfold R32; omega)) dX6_stands_77 (by decide) (fun h77 => ?_) (fun h77 => ?_)
              · refine PP.iload_n dX6_stands_88 rfl ?_
                refine PP.if_eq (tgt := 96) (by first | omega | assumption | exact b2i_R _ | (unfold R32; omega)) dX6_stands_89 (by decide) (fun h89 => ?_) (fun h89 => ?_)
                · refine PP.iconst dX6_stands_96 ?_
                  refine PP.iret dX6_stands_97 rfl ?_
                  first
                  | (rw [if_pos (by omega)]; exact ⟨_, rfl, rfl, hA'⟩)
                  | (rw [if_neg (by omega), if_pos (by omega)]; exact ⟨_, rfl, by omega, hA'⟩)
                  | (rw [if_neg (by omega), if_neg (by omega), if_pos (by omega), ← hks]; exact ⟨_, rfl, by omega, hA'⟩)
                  | (rw [if_neg (by omega), if_neg (by omega), if_neg (by omega)]; exact ⟨_, rfl, by omega, hA'⟩)
                · refine PP.iconst dX6_stands_92 ?_
                  refine PP.goto (tgt := 97) dX6_stands_93 (by decide) ?_
                  refine PP.iret dX6_stands_97 rfl ?_
                  first
                  | (rw [if_pos (by omega)]; exact ⟨_, rfl, rfl, hA'⟩)
                  | (rw [if_neg (by omega), if_pos (by omega)]; exact ⟨_, rfl, by omega, hA'⟩)
                  | (rw [if_neg (by omega), if_neg (by omega), if_pos (by omega), ← hks]; exact ⟨_, rfl, by omega, hA'⟩)
                  | (rw [if_neg (by omega), if_neg (by omega), if_neg (by omega)]; exact ⟨_, rfl, by omega, hA'⟩)
              · refine PP.aload_n dX6_stands_80 rfl ?_
                refine PP.iload_n dX6_stands_81 rfl ?_
                refine PP.callVi (m_shadowOf hMC hj hp) dX6_stands_82 vl_X6_140 sm0 rfl rfl rfl rfl (Nat.le_of_ble_eq_true rfl) (by first | exact Nat.le_of_ble_eq_true rfl | omega) ?_
                refine PP.goto (tgt := 97) dX6_stands_85 (by decide) ?_
                refine PP.iret dX6_stands_97 rfl ?_
                first
                | (rw [if_pos (by omega)]; exact ⟨_, rfl, rfl, hA'⟩)
                | (rw [if_neg (by omega), if_pos (by omega)]; exact ⟨_, rfl, by omega, hA'⟩)
                | (rw [if_neg (by omega), if_neg (by omega), if_pos (by omega), ← hks]; exact ⟨_, rfl, by omega, hA'⟩)
                | (rw [if_neg (by omega), if_neg (by omega), if_neg (by omega)]; exact ⟨_, rfl, by omega, hA'⟩)
          · refine PP.aload_n dX6_stands_43 rfl ?_
            refine PP.iload_n dX6_stands_44 rfl ?_
            refine PP.callVi (m_looksIn hMC hj) dX6_stands_45 vl_X6_134 sm0 rfl rfl rfl rfl (Nat.le_of_ble_eq_true rfl) (by first | exact Nat.le_of_ble_eq_true rfl | omega) ?_
            refine PP.goto (tgt := 75) dX6_stands_48 (by decide) ?_
            refine PP.istore_n (L' := [_, _, _, _]) dX6_stands_75 (Nat.le_of_ble_eq_true rfl) rfl rfl ?_
            refine PP.iload_n dX6_stands_76 rfl ?_
            refine PP.if_ne (tgt := 88) (by first | omega | assumption | exact b2i_R _ | (unfold R32; omega)) dX6_stands_77 (by decide) (fun h77 => ?_) (fun h77 => ?_)
            · refine PP.iload_n dX6_stands_88 rfl ?_
              refine PP.if_eq (tgt := 96) (by first | omega | assumption | exact b2i_R _ | (unfold R32; omega)) dX6_stands_89 (by decide) (fun h89 => ?_) (fun h89 => ?_)
              · refine PP.iconst dX6_stands_96 ?_
                refine PP.iret dX6_stands_97 rfl ?_
                first
                | (rw [if_pos (by omega)]; exact ⟨_, rfl, rfl, hA'⟩)
                | (rw [if_neg (by omega), if_pos (by omega)]; exact ⟨_, rfl, by omega, hA'⟩)
                | (rw [if_neg (by omega), if_neg (by omega), if_pos (by omega), ← hks]; exact ⟨_, rfl, by omega, hA'⟩)
                | (rw [if_neg (by omega), if_neg (by omega), if_neg (by omega)]; exact ⟨_, rfl, by omega, hA'⟩)
              · refine PP.iconst dX6_stands_92 ?_
                refine PP.goto (tgt := 97) dX6_stands_93 (by decide) ?_
                refine PP.iret dX6_stands_97 rfl ?_
                first
                | (rw [if_pos (by omega)]; exact ⟨_, rfl, rfl, hA'⟩)
                | (rw [if_neg (by omega), if_pos (by omega)]; exact ⟨_, rfl, by omega, hA'⟩)
                | (rw [if_neg (by omega), if_neg (by omega), if_pos (by omega), ← hks]; exact ⟨_, rfl, by omega, hA'⟩)
                | (rw [if_neg (by omega), if_neg (by omega), if_neg (by omega)]; exact ⟨_, rfl, by omega, hA'⟩)
            · refine PP.aload_n dX6_stands_80 rfl ?_
              refine PP.iload_n dX6_stands_81 rfl ?_
              refine PP.callVi (m_shadowOf hMC hj hp) dX6_stands_82 vl_X6_140 sm0 rfl rfl rfl rfl (Nat.le_of_ble_eq_true rfl) (by first | exact Nat.le_of_ble_eq_true rfl | omega) ?_
              refine PP.goto (tgt := 97) dX6_stands_85 (by decide) ?_
              refine PP.iret dX6_stands_97 rfl ?_
              first
              | (rw [if_pos (by omega)]; exact ⟨_, rfl, rfl, hA'⟩)
              | (rw [if_neg (by omega), if_pos (by omega)]; exact ⟨_, rfl, by omega, hA'⟩)
              | (rw [if_neg (by omega), if_neg (by omega), if_pos (by omega), ← hks]; exact ⟨_, rfl, by omega, hA'⟩)
              | (rw [if_neg (by omega), if_neg (by omega), if_neg (by omega)]; exact ⟨_, rfl, by omega, hA'⟩)
        · refine PP.bipush dX6_stands_35 (by decide) ?_
          refine PP.iret dX6_stands_37 rfl ?_
          rw [if_pos (by omega)]
          exact ⟨_, rfl, rfl, hA'⟩
      · rw [decide_eq_true ht.2] at h17; cases h17
  · rw [if_pos ht]
    refine PP.aload_n dX6_stands_0 rfl ?_
    refine PP.iload_n dX6_stands_1 rfl ?_
    refine PP.callVi (m_isThing w3 b3 hx) dX6_stands_2 vl_X6_150 sm0 rfl rfl rfl rfl (Nat.le_of_ble_eq_true rfl) (by first | exact Nat.le_of_ble_eq_true rfl | omega) ?_
    refine PP.if_eq (tgt := 20) (by first | omega | assumption | exact b2i_R _ | (unfold R32; omega)) dX6_stands_5 (by decide) (fun h5 => ?_) (fun h5 => ?_)
    · refine PP.iconst dX6_stands_20 ?_
      refine PP.iret dX6_stands_21 rfl ?_
      exact ⟨_, rfl, rfl, hA⟩
    · refine PP.iload_n dX6_stands_8 rfl ?_
      refine PP.i2l (by first | omega | assumption | exact b2i_R _ | (unfold R32; omega)) dX6_stands_9 ?_
      refine PP.lconst (z := 0) dX6_stands_10 (by decide) ?_
      refine PP.ldc2 (z := 3) dX6_stands_11 bw867 ?_
      refine PP.callSi (m_in hx2 (by unfold R32; omega) (by unfold R32; omega)) dX6_stands_14 sl_X6_70 rfl rfl (Nat.le_of_ble_eq_true rfl) (by first | exact Nat.le_of_ble_eq_true rfl | omega) ?_
      refine PP.if_ne (tgt := 22) (by first | omega | assumption | exact b2i_R _ | (unfold R32; omega)) dX6_stands_17 (by decide) (fun h17 => ?_) (fun h17 => ?_)
      · exact absurd ⟨of_decide_eq_true (b2i_n.mp h5), of_decide_eq_true (b2i_n.mp h17)⟩ ht
      · refine PP.iconst dX6_stands_20 ?_
        refine PP.iret dX6_stands_21 rfl ?_
        exact ⟨_, rfl, rfl, hA⟩
theorem x_pooled {σ : Sg} {A : ST} (hA : RepM σ A) (hW : WF A) : OK SHm mX6_pooled 20 [vR 0] σ (RP (fun v τ => v = qPooled A ∧ RepM τ A)) := by
  obtain ⟨len, txt, T, n, row, und, kep, sn⟩ := A
  obtain ⟨b1, b2, b3, b4, b5, b6, b7⟩ := RepM_e.mp hA
  obtain ⟨w1, w2, w3, w4, w5, w6, w7, w8, w9⟩ := WF_e.mp hW
  have hn7 := w3.2.1
  have hsl := w3.2.2.1
  have hws := wsh_m w5
  have hst := w5.2.1
  have t3 : σ 2 3 = (n : Int) := (b3 3 (by decide)).trans w3.1
  have t0 := b3 0 (by decide)
  have r0 := b4 0 (by decide)
  have r1 : σ 4 1 = ((msk (wsh row) n : Nat) : Int) := (b4 1 (by decide)).trans hws
  show OK SHm mX6_pooled 20 [vR 0] σ (RP (fun v τ => v = ((msk (plP T row) n : Nat) : Int) ∧ RepM τ (len, txt, T, n, row, und, kep, sn)))
  refine OK.enter (L' := [vR 0, vN, vN]) (by decide +kernel) (by simp [ent0]) rfl ?_
  have key : ∀ σ1 : Sg, RepM σ1 (len, txt, T, n, row, und, kep, sn) → MC σ1 T n (rP row) (rF row) → ∀ o, o ≤ n → PP SHm mX6_pooled 20 8 [vR 0, vI (msk (plP T row) o : Nat), vI (o : Int)] [] σ1 (RP (fun v τ => v = ((msk (plP T row) n : Nat) : Int) ∧ RepM τ (len, txt, T, n, row, und, kep, sn))) := by
    intro σ1 hA1 hc
    have t3 : σ1 2 3 = (n : Int) := (hc.2.2.1 3 (by decide)).trans w3.1
    refine loop_dn n ?_ ?_
    · refine PP.iload_n dX6_pooled_8 rfl ?_
      refine PP.aload_n dX6_pooled_9 rfl ?_
      refine PP.getfR dX6_pooled_10 fl_X6_13 sm0 rfl ?_
      refine PP.iconst dX6_pooled_13 ?_
      refine PP.ialoadN (n := 3) sm2 (by first | decide | omega) (by first | rfl | omega) (by first | omega | (unfold R32; omega)) dX6_pooled_14 ?_
      refine PP.icmp_ge (tgt := 63) (by first | omega | (unfold R32; omega)) (by first | omega | (unfold R32; omega)) dX6_pooled_15 (by decide) (fun h15 => ?_) (fun h15 => ?_)
      · refine PP.iload_n dX6_pooled_63 rfl ?_
        refine PP.iret dX6_pooled_64 rfl ?_
        exact ⟨_, rfl, rfl, hA1⟩
      · omega
    · intro o ho ih
      have g1 := hc.2.2.1 (4 + o) (by omega)
      have v1 := (w3.2.2.2.2.2.1 o ho).1
      have f1 := (hc.2.2.2 o (by omega)).1
      have eP : rP row o = row (2 + o) := rfl
      have hrg := wfR_rng w3 w5 ho
      have v2 := (w3.2.2.2.2.2.1 o ho).2.1
      have hin : inS (rP row) o = true ↔ 0 ≤ row (2 + o) := inS_t
      have y : inS (rP row) o = true → T (4 + o) = 1 → lkS T (rP row) (rF row) o = false → plP T row o = true := fun a b c => by simp only [plP]; rw [a, c, decide_eq_true b]; rfl
      have n1 : inS (rP row) o = false → plP T row o = false := fun a => by simp only [plP]; rw [a]; rfl
      have n2 : ¬ T (4 + o) = 1 → plP T row o = false := fun a => by simp only [plP]; rw [decide_eq_false a]; simp
      have n3 : lkS T (rP row) (rF row) o = true → plP T row o = false := fun a => by simp only [plP]; rw [a]; simp
      refine PP.iload_n dX6_pooled_8 rfl ?_
      refine PP.aload_n dX6_pooled_9 rfl ?_
      refine PP.getfR dX6_pooled_10 fl_X6_13 sm0 rfl ?_
      refine PP.iconst dX6_pooled_13 ?_
      refine PP.ialoadN (n := 3) sm2 (by first | decide | omega) (by first | rfl | omega) (by first | omega | exact b2i_R _ | (unfold R32; omega)) dX6_pooled_14 ?_
      refine PP.icmp_ge (tgt := 63) (by first | omega | exact b2i_R _ | (unfold R32; omega)) (by first | omega | exact b2i_R _ | (unfold R32; omega)) dX6_pooled_15 (by decide) (fun h15 => ?_) (fun h15 => ?_)
      · omega
      · refine PP.iload_n dX6_pooled_18 rfl ?_
        refine PP.aload_n dX6_pooled_19 rfl ?_
        refine PP.getfR dX6_pooled_20 fl_X6_13 sm0 rfl ?_
        refine PP.iconst dX6_pooled_23 ?_
        refine PP.iload_n dX6_pooled_24 rfl ?_
        refine PP.iadd dX6_pooled_25 ?_
        refine PP.ialoadN (n := (4 + o)) sm2 (by first | decide | omega) (by first | rfl | omega) (by first | omega | exact b2i_R _ | (unfold R32; omega)) dX6_pooled_26 ?_
        refine PP.iconst dX6_pooled_27 ?_
        refine PP.icmp_ne (tgt := 54) (by first | omega | exact b2i_R _ | (unfold R32; omega)) (by first | omega | exact b2i_R _ | (unfold R32; omega)) dX6_pooled_28 (by decide) (fun h28 => ?_) (fun h28 => ?_)
        · have hpo : plP T row o = false := by first | exact n3 (b2i_n.mp h45) | exact n1 (bf hin (by omega)) | exact n2 (by omega)
          refine PP.iconst dX6_pooled_54 ?_
          refine PP.iorR (z := ((msk (plP T row) (o + 1)) : Nat)) (by first | (rw [msk_s1 hpo]; exact ior_msk _ _) | (rw [msk_s0 hpo]; exact ior_0 _)) dX6_pooled_55 ?_
          refine PP.istore_n (L' := [_, _, _]) dX6_pooled_56 (Nat.le_of_ble_eq_true rfl) rfl rfl ?_
          refine PP.iinc (L' := [_, _, _]) dX6_pooled_57 rfl rfl rfl ?_
          refine PP.goto (tgt := 8) dX6_pooled_60 (by decide) ?_
          exact ih
        · refine PP.aload_n dX6_pooled_31 rfl ?_
          refine PP.getfR dX6_pooled_32 fl_X6_37 sm0 rfl ?_
          refine PP.iload_n dX6_pooled_35 rfl ?_
          refine PP.ialoadN (n := o) sm10 (by first | decide | omega) (by first | rfl | omega) (by first | omega | exact b2i_R _ | (unfold R32; omega)) dX6_pooled_36 ?_
          refine PP.if_lt (tgt := 54) (by first | omega | exact b2i_R _ | (unfold R32; omega)) dX6_pooled_37 (by decide) (fun h37 => ?_) (fun h37 => ?_)
          · have hpo : plP T row o = false := by first | exact n3 (b2i_n.mp h45) | exact n1 (bf hin (by omega)) | exact n2 (by omega)
            refine PP.iconst dX6_pooled_54 ?_
            refine PP.iorR (z := ((msk (plP T row) (o + 1)) : Nat)) (by first | (rw [msk_s1 hpo]; exact ior_msk _ _) | (rw [msk_s0 hpo]; exact ior_0 _)) dX6_pooled_55 ?_
            refine PP.istore_n (L' := [_, _, _]) dX6_pooled_56 (Nat.le_of_ble_eq_true rfl) rfl rfl ?_
            refine PP.iinc (L' := [_, _, _]) dX6_pooled_57 rfl rfl rfl ?_
            refine PP.goto (tgt := 8) dX6_pooled_60 (by decide) ?_
            exact ih
          · refine PP.aload_n dX6_pooled_40 rfl ?_
            refine PP.iload_n dX6_pooled_41 rfl ?_
            refine PP.callVi (m_looksIn hc ho) dX6_pooled_42 vl_X6_134 sm0 rfl rfl rfl rfl (Nat.le_of_ble_eq_true rfl) (by first | exact Nat.le_of_ble_eq_true rfl | omega) ?_
            refine PP.if_ne (tgt := 54) (by first | omega | exact b2i_R _ | (unfold R32; omega)) dX6_pooled_45 (by decide) (fun h45 => ?_) (fun h45 => ?_)
            · have hpo : plP T row o = false := by first | exact n3 (b2i_n.mp h45) | exact n1 (bf hin (by omega)) | exact n2 (by omega)
              refine PP.iconst dX6_pooled_54 ?_
              refine PP.iorR (z := ((msk (plP T row) (o + 1)) : Nat)) (by first | (rw [msk_s1 hpo]; exact ior_msk _ _) | (rw [msk_s0 hpo]; exact ior_0 _)) dX6_pooled_55 ?_
              refine PP.istore_n (L' := [_, _, _]) dX6_pooled_56 (Nat.le_of_ble_eq_true rfl) rfl rfl ?_
              refine PP.iinc (L' := [_, _, _]) dX6_pooled_57 rfl rfl rfl ?_
              refine PP.goto (tgt := 8) dX6_pooled_60 (by decide) ?_
              exact ih
            · have hpo := y (bt hin (by omega)) (by omega) (b2i_0.mp h45)
              refine PP.iconst dX6_pooled_48 ?_
              refine PP.iload_n dX6_pooled_49 rfl ?_
              refine PP.ishlR (z := ((2 ^ o) : Nat)) (shl1_o (by omega)) dX6_pooled_50 ?_
              refine PP.goto (tgt := 55) dX6_pooled_51 (by decide) ?_
              refine PP.iorR (z := ((msk (plP T row) (o + 1)) : Nat)) (by first | (rw [msk_s1 hpo]; exact ior_msk _ _) | (rw [msk_s0 hpo]; exact ior_0 _)) dX6_pooled_55 ?_
              refine PP.istore_n (L' := [_, _, _]) dX6_pooled_56 (Nat.le_of_ble_eq_true rfl) rfl rfl ?_
              refine PP.iinc (L' := [_, _, _]) dX6_pooled_57 rfl rfl rfl ?_
              refine PP.goto (tgt := 8) dX6_pooled_60 (by decide) ?_
              exact ih
  refine PP.aload_n dX6_pooled_0 rfl ?_
  refine PP.callVnP (m_standUp w3 b3 w5 b4) dX6_pooled_1 vl_X6_158 sm0 rfl rfl rfl rfl (Nat.le_of_ble_eq_true rfl) (by first | exact Nat.le_of_ble_eq_true rfl | omega) (fun τ1 hq1 => ?_)
  obtain ⟨p1, p2⟩ := hq1
  refine PP.iconst dX6_pooled_4 ?_
  refine PP.istore_n (L' := [_, _, _]) dX6_pooled_5 (Nat.le_of_ble_eq_true rfl) rfl rfl ?_
  refine PP.iconst dX6_pooled_6 ?_
  refine PP.istore_n (L' := [_, _, _]) dX6_pooled_7 (Nat.le_of_ble_eq_true rfl) rfl rfl ?_
  exact key _ (RepM_9 hA (fun c hc => p1 c (by omega) (by omega) (by omega))) (MC_up w3 w5 (mT_cong b3 (p1 2 (by decide) (by decide) (by decide))) p2) 0 (by omega)
theorem x_room {σ : Sg} {A : ST} {t : Int} (hA : RepM σ A) (hW : WF A) (hx : R32 t) : OK SHm mX6_room 20 [vR 0, vI t] σ (RP (fun v τ => v = qRoom A t ∧ RepM τ A)) := by
  obtain ⟨len, txt, T, n, row, und, kep, sn⟩ := A
  obtain ⟨b1, b2, b3, b4, b5, b6, b7⟩ := RepM_e.mp hA
  obtain ⟨w1, w2, w3, w4, w5, w6, w7, w8, w9⟩ := WF_e.mp hW
  have hn7 := w3.2.1
  have hsl := w3.2.2.1
  have hws := wsh_m w5
  have hst := w5.2.1
  have t3 : σ 2 3 = (n : Int) := (b3 3 (by decide)).trans w3.1
  have t0 := b3 0 (by decide)
  have r0 := b4 0 (by decide)
  have r1 : σ 4 1 = ((msk (wsh row) n : Nat) : Int) := (b4 1 (by decide)).trans hws
  simp only [qRoom, isT]
  refine OK.enter (L' := [vR 0, vI t, vN, vN]) (by decide +kernel) (by simp [ent0]) rfl ?_
  by_cases ht : 0 ≤ t ∧ t < (n : Int)
  · obtain ⟨j, rfl⟩ : ∃ j : Nat, t = (j : Int) := ⟨t.toNat, by omega⟩
    have hj : j < n := by omega
    have q2 := b4 (2 + j) (by omega)
    have q9 := b4 (9 + j) (by omega)
    have hrg := wfR_rng w3 w5 hj
    obtain ⟨x1, x2, x3, x4⟩ := w3.2.2.2.2.2.1 j hj
    rw [if_neg (fun h => h ht), Int.toNat_natCast]
    obtain ⟨S, hS⟩ : ∃ S : Nat, T 0 = (S : Int) := ⟨(T 0).toNat, by omega⟩
    rw [hS, Int.toNat_natCast]
    generalize hfp : (fun s : Nat => fitS T n (rP row) j (s : Int)) = fp
    have hfo : ∀ o : Nat, fitS T n (rP row) j (o : Int) = fp o := fun o => by rw [← hfp]
    have key : ∀ σ1 : Sg, RepM σ1 (len, txt, T, n, row, und, kep, sn) → MC σ1 T n (rP row) (rF row) → ∀ o, o ≤ S → PP SHm mX6_room 20 43 [vR 0, vI (j : Int), vI (msk fp o : Nat), vI (o : Int)] [] σ1 (RP (fun v τ => v = ((msk fp S : Nat) : Int) ∧ RepM τ (len, txt, T, n, row, und, kep, sn))) := by
      intro σ1 hA1 hc
      have t0' : σ1 2 0 = (S : Int) := (hc.2.2.1 0 (by decide)).trans hS
      refine loop_dn S ?_ ?_
      · refine PP.iload_n dX6_room_43 rfl ?_
        refine PP.aload_n dX6_room_44 rfl ?_
        refine PP.getfR dX6_room_45 fl_X6_13 sm0 rfl ?_
        refine PP.iconst dX6_room_48 ?_
        refine PP.ialoadN (n := 0) sm2 (by first | decide | omega) (by first | rfl | omega) (by first | omega | (unfold R32; omega)) dX6_room_49 ?_
        refine PP.icmp_ge (tgt := 78) (by first | omega | (unfold R32; omega)) (by first | omega | (unfold R32; omega)) dX6_room_50 (by decide) (fun h50 => ?_) (fun h50 => ?_)
        · refine PP.iload_n dX6_room_78 rfl ?_
          refine PP.iret dX6_room_79 rfl ?_
          exact ⟨_, rfl, rfl, hA1⟩
        · omega
      · intro o ho ih
        refine PP.iload_n dX6_room_43 rfl ?_
        refine PP.aload_n dX6_room_44 rfl ?_
        refine PP.getfR dX6_room_45 fl_X6_13 sm0 rfl ?_
        refine PP.iconst dX6_room_48 ?_
        refine PP.ialoadN (n := 0) sm2 (by first | decide | omega) (by first | rfl | omega) (by first | omega | exact b2i_R _ | (unfold R32; omega)) dX6_room_49 ?_
        refine PP.icmp_ge (tgt := 78) (by first | omega | exact b2i_R _ | (unfold R32; omega)) (by first | omega | exact b2i_R _ | (unfold R32; omega)) dX6_room_50 (by decide) (fun h50 => ?_) (fun h50 => ?_)
        · omega
        · refine PP.iload_n dX6_room_53 rfl ?_
          refine PP.aload_n dX6_room_54 rfl ?_
          refine PP.iload_n dX6_room_55 rfl ?_
          refine PP.iload_n dX6_room_56 rfl ?_
          refine PP.callVi (m_hasRoom hc hj (by omega)) dX6_room_57 vl_X6_170 sm0 rfl rfl rfl rfl (Nat.le_of_ble_eq_true rfl) (by first | exact Nat.le_of_ble_eq_true rfl | omega) ?_
          refine PP.if_eq (tgt := 69) (by first | omega | exact b2i_R _ | (unfold R32; omega)) dX6_room_60 (by decide) (fun h60 => ?_) (fun h60 => ?_)
          · have hpo : fp o = false := by rw [← hfo]; exact b2i_0.mp h60
            refine PP.iconst dX6_room_69 ?_
            refine PP.iorR (z := ((msk fp (o + 1)) : Nat)) (by first | (rw [msk_s1 hpo]; exact ior_msk _ _) | (rw [msk_s0 hpo]; exact ior_0 _)) dX6_room_70 ?_
            refine PP.istore_n (L' := [_, _, _, _]) dX6_room_71 (Nat.le_of_ble_eq_true rfl) rfl rfl ?_
            refine PP.iinc (L' := [_, _, _, _]) dX6_room_72 rfl rfl rfl ?_
            refine PP.goto (tgt := 43) dX6_room_75 (by decide) ?_
            exact ih
          · have hpo : fp o = true := by rw [← hfo]; exact b2i_n.mp h60
            refine PP.iconst dX6_room_63 ?_
            refine PP.iload_n dX6_room_64 rfl ?_
            refine PP.ishlR (z := ((2 ^ o) : Nat)) (shl1_o (by omega)) dX6_room_65 ?_
            refine PP.goto (tgt := 70) dX6_room_66 (by decide) ?_
            refine PP.iorR (z := ((msk fp (o + 1)) : Nat)) (by first | (rw [msk_s1 hpo]; exact ior_msk _ _) | (rw [msk_s0 hpo]; exact ior_0 _)) dX6_room_70 ?_
            refine PP.istore_n (L' := [_, _, _, _]) dX6_room_71 (Nat.le_of_ble_eq_true rfl) rfl rfl ?_
            refine PP.iinc (L' := [_, _, _, _]) dX6_room_72 rfl rfl rfl ?_
            refine PP.goto (tgt := 43) dX6_room_75 (by decide) ?_
            exact ih
    refine PP.aload_n dX6_room_0 rfl ?_
    refine PP.iload_n dX6_room_1 rfl ?_
    refine PP.callVi (m_isThing w3 b3 hx) dX6_room_2 vl_X6_150 sm0 rfl rfl rfl rfl (Nat.le_of_ble_eq_true rfl) (by first | exact Nat.le_of_ble_eq_true rfl | omega) ?_
    refine PP.if_ne (tgt := 10) (by first | omega | assumption | exact b2i_R _ | (unfold R32; omega)) dX6_room_5 (by decide) (fun h5 => ?_) (fun h5 => ?_)
    · refine PP.aload_n dX6_room_10 rfl ?_
      refine PP.callVnP (m_standUp w3 b3 w5 b4) dX6_room_11 vl_X6_158 sm0 rfl rfl rfl rfl (Nat.le_of_ble_eq_true rfl) (by first | exact Nat.le_of_ble_eq_true rfl | omega) (fun τ11 hq11 => ?_)
      obtain ⟨p1, p2⟩ := hq11
      have e10 : τ11 10 j = row (2 + j) := (p2 j (by omega)).1
      have e41 : τ11 4 1 = ((msk (wsh row) n : Nat) : Int) := by rw [p1 4 (by decide) (by decide) (by decide)]; exact r1
      have hA' : RepM τ11 (len, txt, T, n, row, und, kep, sn) := RepM_9 hA (fun c hc => p1 c (by omega) (by omega) (by omega))
      refine PP.aload_n dX6_room_14 rfl ?_
      refine PP.getfR dX6_room_15 fl_X6_37 sm0 rfl ?_
      refine PP.iload_n dX6_room_18 rfl ?_
      refine PP.ialoadN (n := j) sm10 (by first | decide | omega) (by first | rfl | omega) (by first | omega | assumption | exact b2i_R _ | (unfold R32; omega)) dX6_room_19 ?_
      refine PP.if_ge (tgt := 36) (by first | omega | assumption | exact b2i_R _ | (unfold R32; omega)) dX6_room_20 (by decide) (fun h20 => ?_) (fun h20 => ?_)
      · refine PP.bipush dX6_room_36 (by decide) ?_
        refine PP.iret dX6_room_38 rfl ?_
        rw [if_pos (by first | exact Or.inr (b2i_n.mp h33) | exact Or.inl (by omega))]
        exact ⟨_, rfl, rfl, hA'⟩
      · refine PP.aload_n dX6_room_23 rfl ?_
        refine PP.getfR dX6_room_24 fl_X6_19 sm0 rfl ?_
        refine PP.iconst dX6_room_27 ?_
        refine PP.ialoadN (n := 1) sm4 (by first | decide | omega) (by first | rfl | omega) (by first | omega | assumption | exact b2i_R _ | (unfold R32; omega)) dX6_room_28 ?_
        refine PP.eqI e41 ?_
        refine PP.iload_n dX6_room_29 rfl ?_
        refine PP.callSi (m_has hn7 hj) dX6_room_30 sl_X6_167 rfl rfl (Nat.le_of_ble_eq_true rfl) (by first | exact Nat.le_of_ble_eq_true rfl | omega) ?_
        refine PP.if_eq (tgt := 39) (by first | omega | assumption | exact b2i_R _ | (unfold R32; omega)) dX6_room_33 (by decide) (fun h33 => ?_) (fun h33 => ?_)
        · refine PP.iconst dX6_room_39 ?_
          refine PP.istore_n (L' := [_, _, _, _]) dX6_room_40 (Nat.le_of_ble_eq_true rfl) rfl rfl ?_
          refine PP.iconst dX6_room_41 ?_
          refine PP.istore_n (L' := [_, _, _, _]) dX6_room_42 (Nat.le_of_ble_eq_true rfl) rfl rfl ?_
          rw [if_neg (fun q => q.elim (fun q => by omega) (fun q => absurd q (by rw [b2i_0.mp h33]; decide)))]
          exact key _ hA' (MC_up w3 w5 (mT_cong b3 (p1 2 (by decide) (by decide) (by decide))) p2) 0 (by omega)
        · refine PP.bipush dX6_room_36 (by decide) ?_
          refine PP.iret dX6_room_38 rfl ?_
          rw [if_pos (by first | exact Or.inr (b2i_n.mp h33) | exact Or.inl (by omega))]
          exact ⟨_, rfl, rfl, hA'⟩
    · rw [decide_eq_true ht] at h5; cases h5
  · rw [if_pos ht]
    refine PP.aload_n dX6_room_0 rfl ?_
    refine PP.iload_n dX6_room_1 rfl ?_
    refine PP.callVi (m_isThing w3 b3 hx) dX6_room_2 vl_X6_150 sm0 rfl rfl rfl rfl (Nat.le_of_ble_eq_true rfl) (by first | exact Nat.le_of_ble_eq_true rfl | omega) ?_
    refine PP.if_ne (tgt := 10) (by first | omega | exact b2i_R _) dX6_room_5 (by decide) (fun h5 => ?_) (fun h5 => ?_)
    · rw [decide_eq_false ht] at h5; exact absurd rfl h5
    · refine PP.iconst dX6_room_8 ?_
      refine PP.iret dX6_room_9 rfl ?_
      exact ⟨_, rfl, rfl, hA⟩
theorem x_weakest {σ : Sg} {A : ST} (hA : RepM σ A) (hW : WF A) : OK SHm mX6_weakest 20 [vR 0] σ (RP (fun v τ => v = qWeakest A ∧ RepM τ A)) := by
  obtain ⟨len, txt, T, n, row, und, kep, sn⟩ := A
  obtain ⟨b1, b2, b3, b4, b5, b6, b7⟩ := RepM_e.mp hA
  obtain ⟨w1, w2, w3, w4, w5, w6, w7, w8, w9⟩ := WF_e.mp hW
  have hn7 := w3.2.1
  have hsl := w3.2.2.1
  have hws := wsh_m w5
  have hst := w5.2.1
  have t3 : σ 2 3 = (n : Int) := (b3 3 (by decide)).trans w3.1
  have t0 := b3 0 (by decide)
  have r0 := b4 0 (by decide)
  have r1 : σ 4 1 = ((msk (wsh row) n : Nat) : Int) := (b4 1 (by decide)).trans hws
  simp only [qWeakest]
  have h7 := msk_128 (inS (rP row)) hn7
  refine OK.enter (L' := [vR 0, vN]) (by decide +kernel) (by simp [ent0]) rfl ?_
  have key : ∀ σ1 : Sg, RepM σ1 (len, txt, T, n, row, und, kep, sn) → MC σ1 T n (rP row) (rF row) → ∀ (k : Nat) (p : Int), p + k = 10 → 1 ≤ p → PP SHm mX6_weakest 20 6 [vR 0, vI p] [] σ1 (RP (fun v τ => v = wkS T n (rP row) (rF row) k p ∧ RepM τ (len, txt, T, n, row, und, kep, sn))) := by
    intro σ1 hA1 hc k
    induction k with
    | zero =>
      intro p hp h1
      refine PP.iload_n dX6_weakest_6 rfl ?_
      refine PP.bipush dX6_weakest_7 (by decide) ?_
      refine PP.icmp_ge (tgt := 39) (by first | omega | (unfold R32; omega)) (by first | omega | (unfold R32; omega)) dX6_weakest_9 (by decide) (fun h9 => ?_) (fun h9 => ?_)
      · refine PP.bipush dX6_weakest_39 (by decide) ?_
        refine PP.iret dX6_weakest_41 rfl ?_
        exact ⟨_, rfl, rfl, hA1⟩
      · omega
    | succ k ih =>
      intro p hp h1
      have h7' := msk_128 (clS T n (rP row) (rF row) p) hn7
      rw [wkS]
      refine PP.iload_n dX6_weakest_6 rfl ?_
      refine PP.bipush dX6_weakest_7 (by decide) ?_
      refine PP.icmp_ge (tgt := 39) (by first | omega | (unfold R32; omega)) (by first | omega | (unfold R32; omega)) dX6_weakest_9 (by decide) (fun h9 => ?_) (fun h9 => ?_)
      · omega
      · refine PP.aload_n dX6_weakest_12 rfl ?_
        refine PP.callVi (m_inside hc) dX6_weakest_13 vl_X6_161 sm0 rfl rfl rfl rfl (Nat.le_of_ble_eq_true rfl) (by first | exact Nat.le_of_ble_eq_true rfl | omega) ?_
        refine PP.if_eq (tgt := 33) (by first | omega | (unfold R32; omega)) dX6_weakest_16 (by decide) (fun h16 => ?_) (fun h16 => ?_)
        · refine PP.iinc (L' := [_, _]) dX6_weakest_33 rfl rfl rfl ?_
          refine PP.goto (tgt := 6) dX6_weakest_36 (by decide) ?_
          rw [if_neg (by omega)]
          exact ih (p + 1) (by omega) (by omega)
        · refine PP.aload_n dX6_weakest_19 rfl ?_
          refine PP.iload_n dX6_weakest_20 rfl ?_
          refine PP.callVi (m_cleanBy hc (w := p) (by omega)) dX6_weakest_21 vl_X6_182 sm0 rfl rfl rfl rfl (Nat.le_of_ble_eq_true rfl) (by first | exact Nat.le_of_ble_eq_true rfl | omega) ?_
          refine PP.aload_n dX6_weakest_24 rfl ?_
          refine PP.callVi (m_inside hc) dX6_weakest_25 vl_X6_161 sm0 rfl rfl rfl rfl (Nat.le_of_ble_eq_true rfl) (by first | exact Nat.le_of_ble_eq_true rfl | omega) ?_
          refine PP.icmp_ne (tgt := 33) (by first | omega | (unfold R32; omega)) (by first | omega | (unfold R32; omega)) dX6_weakest_28 (by decide) (fun h28 => ?_) (fun h28 => ?_)
          · refine PP.iinc (L' := [_, _]) dX6_weakest_33 rfl rfl rfl ?_
            refine PP.goto (tgt := 6) dX6_weakest_36 (by decide) ?_
            rw [if_neg (by omega)]
            exact ih (p + 1) (by omega) (by omega)
          · refine PP.iload_n dX6_weakest_31 rfl ?_
            refine PP.iret dX6_weakest_32 rfl ?_
            rw [if_pos ⟨by omega, by omega⟩]
            exact ⟨_, rfl, rfl, hA1⟩
  refine PP.aload_n dX6_weakest_0 rfl ?_
  refine PP.callVnP (m_standUp w3 b3 w5 b4) dX6_weakest_1 vl_X6_158 sm0 rfl rfl rfl rfl (Nat.le_of_ble_eq_true rfl) (by first | exact Nat.le_of_ble_eq_true rfl | omega) (fun τ1 hq1 => ?_)
  obtain ⟨p1, p2⟩ := hq1
  refine PP.iconst dX6_weakest_4 ?_
  refine PP.istore_n (L' := [_, _]) dX6_weakest_5 (Nat.le_of_ble_eq_true rfl) rfl rfl ?_
  exact key _ (RepM_9 hA (fun c hc => p1 c (by omega) (by omega) (by omega))) (MC_up w3 w5 (mT_cong b3 (p1 2 (by decide) (by decide) (by decide))) p2) 9 1 (by omega) (by omega)
