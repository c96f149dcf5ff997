/-! the model: places, by hand, strong -/
theorem wfP_uf {T : Nat → Int} {n t : Nat} {P F : Nat → Int} {s f : Int} (h : wfP T n P F) (ht : t < n) (hs : (s = -4 ∧ f = -4) ∨ (0 ≤ s ∧ s + T (11 + t) ≤ T 0 ∧ (f = 0 ∨ f = 1))) : wfP T n (uf P t s) (uf F t f) := by
  refine ⟨fun u hu => ?_, fun u hu h7 => ?_⟩
  · by_cases e : u = t
    · subst e; rw [uf_at, uf_at]; exact hs
    · rw [uf_ne e, uf_ne e]; exact h.1 u hu
  · rw [uf_ne (by omega), uf_ne (by omega)]; exact h.2 u hu h7
theorem MC_put {σ : Sg} {T : Nat → Int} {n t : Nat} {P F : Nat → Int} {s f : Int} (h : MC σ T n P F) (ht : t < n) (hs : (s = -4 ∧ f = -4) ∨ (0 ≤ s ∧ s + T (11 + t) ≤ T 0 ∧ (f = 0 ∨ f = 1))) : MC (ptU σ T t s f) T n (uf P t s) (uf F t f) :=
  ⟨h.1, wfP_uf h.2.1 ht hs, mT_cong h.2.2.1 (ptU_ne (by decide) (by decide) (by decide)), MS_put h.2.2.2⟩
theorem pl_rng {T : Nat → Int} {n : Nat} {P F : Nat → Int} {w : Int} {j : Nat} (hn : n ≤ 7) : ∀ c, -4 ≤ (plB T n P F w j c).2 ∧ (plB T n P F w j c).2 ≤ 7
  | 0 => ⟨by simp [plB], by simp [plB]⟩
  | c + 1 => by
    have h1 := pl_rng (T := T) (P := P) (F := F) (w := w) (j := j) hn c
    have := cnt_le (clS T n (uf P j ((c / 2 : Nat) : Int)) (uf F j ((c % 2 : Nat) : Int)) w) n
    rw [plB]
    split
    · simp only []; omega
    · exact h1
theorem uf_self {P : Nat → Int} {t : Nat} : uf P t (P t) = P := by
  funext u
  by_cases e : u = t
  · subst e; rw [uf_at]
  · rw [uf_ne e]
theorem x_place {σ : Sg} {A : ST} {t what : Int} (hA : RepM σ A) (hW : WF A) (hx : R32 t) (hx2 : R32 what) : OK SHm mX6_place 20 [vR 0, vI t, vI what] σ (RP (fun v τ => v = qPlace A t what ∧ RepM τ A)) := by
  obtain ⟨len, txt, T, n, row, und, kep, sn⟩ := A
  obtain ⟨b1, b2, b3, b4, b5, b6, b7⟩ := RepM_e.mp hA
  obtain ⟨w1, w2, w3, w4, w5, w6, w7, w8, w9⟩ := WF_e.mp hW
  have hn7 := w3.2.1
  have hsl := w3.2.2.1
  have hws := wsh_m w5
  have hst := w5.2.1
  have t3 : σ 2 3 = (n : Int) := (b3 3 (by decide)).trans w3.1
  have t0 := b3 0 (by decide)
  have r0 := b4 0 (by decide)
  have r1 : σ 4 1 = ((msk (wsh row) n : Nat) : Int) := (b4 1 (by decide)).trans hws
  simp only [qPlace, isT, isZ]
  refine OK.enter (L' := [vR 0, vI t, vI what, vN, vN, vN, vN]) (by decide +kernel) (by simp [ent0]) rfl ?_
  by_cases ht : (0 ≤ t ∧ t < (n : Int)) ∧ (what = 0 ∨ what = 1)
  · obtain ⟨j, rfl⟩ : ∃ j : Nat, t = (j : Int) := ⟨t.toNat, by omega⟩
    have hj : j < n := by omega
    obtain ⟨x1, x2, x3, x4⟩ := w3.2.2.2.2.2.1 j hj
    rw [if_neg (fun h => h ht), Int.toNat_natCast]
    obtain ⟨S, hS⟩ : ∃ S : Nat, T 0 = (S : Int) := ⟨(T 0).toNat, by omega⟩
    rw [hS, Int.toNat_natCast]
    have key : ∀ c, c ≤ 2 * S → ∀ (σ1 : Sg) (z f : Int), MC σ1 T n (uf (rP row) j z) (uf (rF row) j f) → (∀ c, c ≠ 10 → c ≠ 11 → c ≠ 12 → σ1 c = σ c) → PP SHm mX6_place 20 50 [vR 0, vI (j : Int), vI what, vI (plB T n (rP row) (rF row) (row 0) j c).1, vI (plB T n (rP row) (rF row) (row 0) j c).2, vI (c : Int), vN] [] σ1 (RP (fun v τ => v = (if what = 0 then (plB T n (rP row) (rF row) (row 0) j (2 * S)).1 else (plB T n (rP row) (rF row) (row 0) j (2 * S)).2) ∧ RepM τ (len, txt, T, n, row, und, kep, sn))) := by
      refine loop_dn (2 * S) ?_ ?_
      · intro σ1 z f hC hfr
        have d0 : σ1 2 0 = (S : Int) := (hC.2.2.1 0 (by decide)).trans hS
        refine PP.iload dX6_place_50 rfl ?_
        refine PP.iconst dX6_place_52 ?_
        refine PP.aload_n dX6_place_53 rfl ?_
        refine PP.getfR dX6_place_54 fl_X6_13 sm0 rfl ?_
        refine PP.iconst dX6_place_57 ?_
        refine PP.ialoadN (n := 0) sm2 (by first | decide | omega) (by first | rfl | omega) (by first | omega | (unfold R32; omega)) dX6_place_58 ?_
        refine PP.imul dX6_place_59 ?_
        refine PP.icmp_ge (tgt := 139) (by first | omega | (unfold R32; omega)) (by first | omega | (unfold R32; omega)) dX6_place_60 (by decide) (fun h60 => ?_) (fun h60 => ?_)
        · refine PP.iload_n dX6_place_139 rfl ?_
          refine PP.if_ne (tgt := 147) (by first | omega | (unfold R32; omega)) dX6_place_140 (by decide) (fun h140 => ?_) (fun h140 => ?_)
          · refine PP.iload dX6_place_147 rfl ?_
            refine PP.iret dX6_place_149 rfl ?_
            first
            | (rw [if_pos (by omega)]; exact ⟨_, rfl, rfl, RepM_9 hA (fun c hc => hfr c (by omega) (by omega) (by omega))⟩)
            | (rw [if_neg (by omega)]; exact ⟨_, rfl, rfl, RepM_9 hA (fun c hc => hfr c (by omega) (by omega) (by omega))⟩)
          · refine PP.iload_n dX6_place_143 rfl ?_
            refine PP.goto (tgt := 149) dX6_place_144 (by decide) ?_
            refine PP.iret dX6_place_149 rfl ?_
            first
            | (rw [if_pos (by omega)]; exact ⟨_, rfl, rfl, RepM_9 hA (fun c hc => hfr c (by omega) (by omega) (by omega))⟩)
            | (rw [if_neg (by omega)]; exact ⟨_, rfl, rfl, RepM_9 hA (fun c hc => hfr c (by omega) (by omega) (by omega))⟩)
        · omega
      · intro c hc ih σ1 z f hC hfr
        have d0 : σ1 2 0 = (S : Int) := (hC.2.2.1 0 (by decide)).trans hS
        have e40 : σ1 4 0 = row 0 := by rw [hfr 4 (by decide) (by decide) (by decide)]; exact r0
        have ef : fitS T n (uf (rP row) j z) j ((c / 2 : Nat) : Int) = fitS T n (rP row) j ((c / 2 : Nat) : Int) := fitS_uf
        have hcl := cnt_le (clS T n (uf (rP row) j ((c / 2 : Nat) : Int)) (uf (rF row) j ((c % 2 : Nat) : Int)) (row 0)) n
        have hbr := pl_rng (T := T) (P := rP row) (F := rF row) (w := row 0) (j := j) hn7 c
        have h7 := msk_128 (clS T n (uf (rP row) j ((c / 2 : Nat) : Int)) (uf (rF row) j ((c % 2 : Nat) : Int)) (row 0)) hn7
        rw [plB] at ih
        refine PP.iload dX6_place_50 rfl ?_
        refine PP.iconst dX6_place_52 ?_
        refine PP.aload_n dX6_place_53 rfl ?_
        refine PP.getfR dX6_place_54 fl_X6_13 sm0 rfl ?_
        refine PP.iconst dX6_place_57 ?_
        refine PP.ialoadN (n := 0) sm2 (by first | decide | omega) (by first | rfl | omega) (by first | omega | exact b2i_R _ | (unfold R32; omega)) dX6_place_58 ?_
        refine PP.imul dX6_place_59 ?_
        refine PP.icmp_ge (tgt := 139) (by first | omega | exact b2i_R _ | (unfold R32; omega)) (by first | omega | exact b2i_R _ | (unfold R32; omega)) dX6_place_60 (by decide) (fun h60 => ?_) (fun h60 => ?_)
        · omega
        · refine PP.aload_n dX6_place_63 rfl ?_
          refine PP.iload_n dX6_place_64 rfl ?_
          refine PP.iload dX6_place_65 rfl ?_
          refine PP.iconst dX6_place_67 ?_
          refine PP.idiv (by first | omega | exact b2i_R _ | (unfold R32; omega)) (by first | omega | exact b2i_R _ | (unfold R32; omega)) (by first | omega | exact b2i_R _ | (unfold R32; omega)) (by first | omega | exact b2i_R _ | (unfold R32; omega)) dX6_place_68 ?_
          refine PP.eqI (y := ((c / 2 : Nat) : Int)) (by omega) ?_
          refine PP.callVi (m_hasRoom hC hj (s := ((c / 2 : Nat) : Int)) (by omega)) dX6_place_69 vl_X6_170 sm0 rfl rfl rfl rfl (Nat.le_of_ble_eq_true rfl) (by first | exact Nat.le_of_ble_eq_true rfl | omega) ?_
          refine PP.if_eq (tgt := 133) (by first | omega | exact b2i_R _ | (unfold R32; omega)) dX6_place_72 (by decide) (fun h72 => ?_) (fun h72 => ?_)
          · refine PP.iinc (L' := [_, _, _, _, _, _, _]) dX6_place_133 rfl rfl rfl ?_
            refine PP.goto (tgt := 50) dX6_place_136 (by decide) ?_
            refine PP.frg 6 (L' := [_, _, _, _, _, _, _]) rfl ?_
            first
              | (rw [if_neg (fun q => by rw [← ef, b2i_0.mp h72] at q; exact absurd q.1 (by decide))] at ih
                 exact ih σ1 z f hC hfr)
              | (exfalso; omega)
              | (rw [if_neg (fun q => absurd q.2 (by omega))] at ih
                 exact ih _ _ _ hC2 (fun c h0 h1 h2 => by rw [ptU_ne h0 h1 h2]; exact hfr c h0 h1 h2))
              | (rw [if_pos ⟨hfit, by omega⟩] at ih
                 exact ih _ _ _ hC2 (fun c h0 h1 h2 => by rw [ptU_ne h0 h1 h2]; exact hfr c h0 h1 h2))
          · have hfit := b2i_n.mp h72
            rw [ef] at hfit
            have hft := (fitS_t.mp hfit).1
            have hC2 := MC_put hC (s := ((c / 2 : Nat) : Int)) (f := ((c % 2 : Nat) : Int)) hj (Or.inr ⟨by omega, hft, by omega⟩)
            rw [uf_uf, uf_uf] at hC2
            refine PP.aload_n dX6_place_75 rfl ?_
            refine PP.iload_n dX6_place_76 rfl ?_
            refine PP.iload dX6_place_77 rfl ?_
            refine PP.iconst dX6_place_79 ?_
            refine PP.idiv (by first | omega | exact b2i_R _ | (unfold R32; omega)) (by first | omega | exact b2i_R _ | (unfold R32; omega)) (by first | omega | exact b2i_R _ | (unfold R32; omega)) (by first | omega | exact b2i_R _ | (unfold R32; omega)) dX6_place_80 ?_
            refine PP.eqI (y := ((c / 2 : Nat) : Int)) (by omega) ?_
            refine PP.iload dX6_place_81 rfl ?_
            refine PP.iconst dX6_place_83 ?_
            refine PP.irem (by first | omega | exact b2i_R _ | (unfold R32; omega)) (by first | omega | exact b2i_R _ | (unfold R32; omega)) (by first | omega | exact b2i_R _ | (unfold R32; omega)) (by first | omega | exact b2i_R _ | (unfold R32; omega)) dX6_place_84 ?_
            refine PP.eqI (y := ((c % 2 : Nat) : Int)) (by omega) ?_
            refine PP.callVn (m_put w3 hC.2.2.1 (t := j) (by omega) (by unfold R32; omega) (Or.inr ⟨by omega, x2⟩)) dX6_place_85 vl_X6_127 sm0 rfl rfl rfl rfl (Nat.le_of_ble_eq_true rfl) (by first | exact Nat.le_of_ble_eq_true rfl | omega) ?_
            refine PP.aload_n dX6_place_88 rfl ?_
            refine PP.aload_n dX6_place_89 rfl ?_
            refine PP.getfR dX6_place_90 fl_X6_19 sm0 rfl ?_
            refine PP.iconst dX6_place_93 ?_
            refine PP.ialoadN (n := 0) sm4 (by first | decide | omega) (by first | rfl | omega) (by first | omega | exact b2i_R _ | (unfold R32; omega)) dX6_place_94 ?_
            refine PP.eqI (y := row 0) (by rw [ptU_ne (by decide) (by decide) (by decide)]; exact e40) ?_
            refine PP.callVi (m_cleanBy hC2 (w := row 0) (by omega)) dX6_place_95 vl_X6_182 sm0 rfl rfl rfl rfl (Nat.le_of_ble_eq_true rfl) (by first | exact Nat.le_of_ble_eq_true rfl | omega) ?_
            refine PP.callSi (m_ones h7) dX6_place_98 sl_X6_164 rfl rfl (Nat.le_of_ble_eq_true rfl) (by first | exact Nat.le_of_ble_eq_true rfl | omega) ?_
            refine PP.eqI (y := ((cnt (clS T n (uf (rP row) j ((c / 2 : Nat) : Int)) (uf (rF row) j ((c % 2 : Nat) : Int)) (row 0)) n : Nat) : Int)) (by rw [pc7_msk hn7]) ?_
            refine PP.istore (L' := [_, _, _, _, _, _, _]) dX6_place_101 (Nat.le_of_ble_eq_true rfl) rfl rfl ?_
            refine PP.iload dX6_place_103 rfl ?_
            refine PP.iload dX6_place_105 rfl ?_
            refine PP.icmp_le (tgt := 115) (by first | omega | exact b2i_R _ | (unfold R32; omega)) (by first | omega | exact b2i_R _ | (unfold R32; omega)) dX6_place_107 (by decide) (fun h107 => ?_) (fun h107 => ?_)
            · refine PP.iload_n dX6_place_115 rfl ?_
              refine PP.istore_n (L' := [_, _, _, _, _, _, _]) dX6_place_116 (Nat.le_of_ble_eq_true rfl) rfl rfl ?_
              refine PP.iload dX6_place_117 rfl ?_
              refine PP.iload dX6_place_119 rfl ?_
              refine PP.icmp_le (tgt := 129) (by first | omega | exact b2i_R _ | (unfold R32; omega)) (by first | omega | exact b2i_R _ | (unfold R32; omega)) dX6_place_121 (by decide) (fun h121 => ?_) (fun h121 => ?_)
              · refine PP.iload dX6_place_129 rfl ?_
                refine PP.istore (L' := [_, _, _, _, _, _, _]) dX6_place_131 (Nat.le_of_ble_eq_true rfl) rfl rfl ?_
                refine PP.iinc (L' := [_, _, _, _, _, _, _]) dX6_place_133 rfl rfl rfl ?_
                refine PP.goto (tgt := 50) dX6_place_136 (by decide) ?_
                refine PP.frg 6 (L' := [_, _, _, _, _, _, _]) rfl ?_
                first
                  | (rw [if_neg (fun q => by rw [← ef, b2i_0.mp h72] at q; exact absurd q.1 (by decide))] at ih
                     exact ih σ1 z f hC hfr)
                  | (exfalso; omega)
                  | (rw [if_neg (fun q => absurd q.2 (by omega))] at ih
                     exact ih _ _ _ hC2 (fun c h0 h1 h2 => by rw [ptU_ne h0 h1 h2]; exact hfr c h0 h1 h2))
                  | (rw [if_pos ⟨hfit, by omega⟩] at ih
                     exact ih _ _ _ hC2 (fun c h0 h1 h2 => by rw [ptU_ne h0 h1 h2]; exact hfr c h0 h1 h2))
              · refine PP.iload dX6_place_124 rfl ?_
                refine PP.goto (tgt := 131) dX6_place_126 (by decide) ?_
                refine PP.istore (L' := [_, _, _, _, _, _, _]) dX6_place_131 (Nat.le_of_ble_eq_true rfl) rfl rfl ?_
                refine PP.iinc (L' := [_, _, _, _, _, _, _]) dX6_place_133 rfl rfl rfl ?_
                refine PP.goto (tgt := 50) dX6_place_136 (by decide) ?_
                refine PP.frg 6 (L' := [_, _, _, _, _, _, _]) rfl ?_
                first
                  | (rw [if_neg (fun q => by rw [← ef, b2i_0.mp h72] at q; exact absurd q.1 (by decide))] at ih
                     exact ih σ1 z f hC hfr)
                  | (exfalso; omega)
                  | (rw [if_neg (fun q => absurd q.2 (by omega))] at ih
                     exact ih _ _ _ hC2 (fun c h0 h1 h2 => by rw [ptU_ne h0 h1 h2]; exact hfr c h0 h1 h2))
                  | (rw [if_pos ⟨hfit, by omega⟩] at ih
                     exact ih _ _ _ hC2 (fun c h0 h1 h2 => by rw [ptU_ne h0 h1 h2]; exact hfr c h0 h1 h2))
            · refine PP.iload dX6_place_110 rfl ?_
              refine PP.goto (tgt := 116) dX6_place_112 (by decide) ?_
              refine PP.istore_n (L' := [_, _, _, _, _, _, _]) dX6_place_116 (Nat.le_of_ble_eq_true rfl) rfl rfl ?_
              refine PP.iload dX6_place_117 rfl ?_
              refine PP.iload dX6_place_119 rfl ?_
              refine PP.icmp_le (tgt := 129) (by first | omega | exact b2i_R _ | (unfold R32; omega)) (by first | omega | exact b2i_R _ | (unfold R32; omega)) dX6_place_121 (by decide) (fun h121 => ?_) (fun h121 => ?_)
              · refine PP.iload dX6_place_129 rfl ?_
                refine PP.istore (L' := [_, _, _, _, _, _, _]) dX6_place_131 (Nat.le_of_ble_eq_true rfl) rfl rfl ?_
                refine PP.iinc (L' := [_, _, _, _, _, _, _]) dX6_place_133 rfl rfl rfl ?_
                refine PP.goto (tgt := 50) dX6_place_136 (by decide) ?_
                refine PP.frg 6 (L' := [_, _, _, _, _, _, _]) rfl ?_
                first
                  | (rw [if_neg (fun q => by rw [← ef, b2i_0.mp h72] at q; exact absurd q.1 (by decide))] at ih
                     exact ih σ1 z f hC hfr)
                  | (exfalso; omega)
                  | (rw [if_neg (fun q => absurd q.2 (by omega))] at ih
                     exact ih _ _ _ hC2 (fun c h0 h1 h2 => by rw [ptU_ne h0 h1 h2]; exact hfr c h0 h1 h2))
                  | (rw [if_pos ⟨hfit, by omega⟩] at ih
                     exact ih _ _ _ hC2 (fun c h0 h1 h2 => by rw [ptU_ne h0 h1 h2]; exact hfr c h0 h1 h2))
              · refine PP.iload dX6_place_124 rfl ?_
                refine PP.goto (tgt := 131) dX6_place_126 (by decide) ?_
                refine PP.istore (L' := [_, _, _, _, _, _, _]) dX6_place_131 (Nat.le_of_ble_eq_true rfl) rfl rfl ?_
                refine PP.iinc (L' := [_, _, _, _, _, _, _]) dX6_place_133 rfl rfl rfl ?_
                refine PP.goto (tgt := 50) dX6_place_136 (by decide) ?_
                refine PP.frg 6 (L' := [_, _, _, _, _, _, _]) rfl ?_
                first
                  | (rw [if_neg (fun q => by rw [← ef, b2i_0.mp h72] at q; exact absurd q.1 (by decide))] at ih
                     exact ih σ1 z f hC hfr)
                  | (exfalso; omega)
                  | (rw [if_neg (fun q => absurd q.2 (by omega))] at ih
                     exact ih _ _ _ hC2 (fun c h0 h1 h2 => by rw [ptU_ne h0 h1 h2]; exact hfr c h0 h1 h2))
                  | (rw [if_pos ⟨hfit, by omega⟩] at ih
                     exact ih _ _ _ hC2 (fun c h0 h1 h2 => by rw [ptU_ne h0 h1 h2]; exact hfr c h0 h1 h2))
    refine PP.aload_n dX6_place_0 rfl ?_
    refine PP.iload_n dX6_place_1 rfl ?_
    refine PP.callVi (m_isThing w3 b3 hx) dX6_place_2 vl_X6_150 sm0 rfl rfl rfl rfl (Nat.le_of_ble_eq_true rfl) (by first | exact Nat.le_of_ble_eq_true rfl | omega) ?_
    refine PP.if_eq (tgt := 18) (by first | omega | assumption | exact b2i_R _ | (unfold R32; omega)) dX6_place_5 (by decide) (fun h5 => ?_) (fun h5 => ?_)
    · rw [decide_eq_true ht.1] at h5; cases h5
    · refine PP.iload_n dX6_place_8 rfl ?_
      refine PP.i2l (by first | omega | assumption | exact b2i_R _ | (unfold R32; omega)) dX6_place_9 ?_
      refine PP.lconst (z := 0) dX6_place_10 (by decide) ?_
      refine PP.lconst (z := 1) dX6_place_11 (by decide) ?_
      refine PP.callSi (m_in hx2 (by unfold R32; omega) (by unfold R32; omega)) dX6_place_12 sl_X6_70 rfl rfl (Nat.le_of_ble_eq_true rfl) (by first | exact Nat.le_of_ble_eq_true rfl | omega) ?_
      refine PP.if_ne (tgt := 20) (by first | omega | assumption | exact b2i_R _ | (unfold R32; omega)) dX6_place_15 (by decide) (fun h15 => ?_) (fun h15 => ?_)
      · refine PP.aload_n dX6_place_20 rfl ?_
        refine PP.getfR dX6_place_21 fl_X6_19 sm0 rfl ?_
        refine PP.iconst dX6_place_24 ?_
        refine PP.ialoadN (n := 1) sm4 (by first | decide | omega) (by first | rfl | omega) (by first | omega | assumption | exact b2i_R _ | (unfold R32; omega)) dX6_place_25 ?_
        refine PP.eqI r1 ?_
        refine PP.iload_n dX6_place_26 rfl ?_
        refine PP.callSi (m_has hn7 hj) dX6_place_27 sl_X6_167 rfl rfl (Nat.le_of_ble_eq_true rfl) (by first | exact Nat.le_of_ble_eq_true rfl | omega) ?_
        refine PP.if_eq (tgt := 36) (by first | omega | assumption | exact b2i_R _ | (unfold R32; omega)) dX6_place_30 (by decide) (fun h30 => ?_) (fun h30 => ?_)
        · rw [if_neg (by rw [b2i_0.mp h30]; decide)]
          refine PP.aload_n dX6_place_36 rfl ?_
          refine PP.callVnP (m_standUp w3 b3 w5 b4) dX6_place_37 vl_X6_158 sm0 rfl rfl rfl rfl (Nat.le_of_ble_eq_true rfl) (by first | exact Nat.le_of_ble_eq_true rfl | omega) (fun τ37 hq37 => ?_)
          obtain ⟨p1, p2⟩ := hq37
          refine PP.bipush dX6_place_40 (by decide) ?_
          refine PP.istore_n (L' := [_, _, _, _, _, _, _]) dX6_place_42 (Nat.le_of_ble_eq_true rfl) rfl rfl ?_
          refine PP.bipush dX6_place_43 (by decide) ?_
          refine PP.istore (L' := [_, _, _, _, _, _, _]) dX6_place_45 (Nat.le_of_ble_eq_true rfl) rfl rfl ?_
          refine PP.iconst dX6_place_47 ?_
          refine PP.istore (L' := [_, _, _, _, _, _, _]) dX6_place_48 (Nat.le_of_ble_eq_true rfl) rfl rfl ?_
          exact key 0 (by omega) _ (rP row j) (rF row j) (by rw [uf_self, uf_self]; exact MC_up w3 w5 (mT_cong b3 (p1 2 (by decide) (by decide) (by decide))) p2) p1
        · refine PP.bipush dX6_place_33 (by decide) ?_
          refine PP.iret dX6_place_35 rfl ?_
          rw [if_pos (b2i_n.mp h30)]
          exact ⟨_, rfl, rfl, hA⟩
      · rw [decide_eq_true (by omega)] at h15; cases h15
  · rw [if_pos ht]
    refine PP.aload_n dX6_place_0 rfl ?_
    refine PP.iload_n dX6_place_1 rfl ?_
    refine PP.callVi (m_isThing w3 b3 hx) dX6_place_2 vl_X6_150 sm0 rfl rfl rfl rfl (Nat.le_of_ble_eq_true rfl) (by first | exact Nat.le_of_ble_eq_true rfl | omega) ?_
    refine PP.if_eq (tgt := 18) (by first | omega | assumption | exact b2i_R _ | (unfold R32; omega)) dX6_place_5 (by decide) (fun h5 => ?_) (fun h5 => ?_)
    · refine PP.iconst dX6_place_18 ?_
      refine PP.iret dX6_place_19 rfl ?_
      exact ⟨_, rfl, rfl, hA⟩
    · refine PP.iload_n dX6_place_8 rfl ?_
      refine PP.i2l (by first | omega | assumption | exact b2i_R _ | (unfold R32; omega)) dX6_place_9 ?_
      refine PP.lconst (z := 0) dX6_place_10 (by decide) ?_
      refine PP.lconst (z := 1) dX6_place_11 (by decide) ?_
      refine PP.callSi (m_in hx2 (by unfold R32; omega) (by unfold R32; omega)) dX6_place_12 sl_X6_70 rfl rfl (Nat.le_of_ble_eq_true rfl) (by first | exact Nat.le_of_ble_eq_true rfl | omega) ?_
      refine PP.if_ne (tgt := 20) (by first | omega | assumption | exact b2i_R _ | (unfold R32; omega)) dX6_place_15 (by decide) (fun h15 => ?_) (fun h15 => ?_)
      · exact absurd ⟨of_decide_eq_true (b2i_n.mp h5), by have := of_decide_eq_true (b2i_n.mp h15); omega⟩ ht
      · refine PP.iconst dX6_place_18 ?_
        refine PP.iret dX6_place_19 rfl ?_
        exact ⟨_, rfl, rfl, hA⟩
theorem x_byHand {σ : Sg} {A : ST} {what : Int} (hA : RepM σ A) (hW : WF A) (hx : R32 what) : OK SHm mX6_byHand 20 [vR 0, vI what] σ (RP (fun v τ => v = qByHand A what ∧ RepM τ A)) := by
  have hcln := @x_clean σ A hA hW 6 (Nat.le_refl _)
  obtain ⟨len, txt, T, n, row, und, kep, sn⟩ := A
  obtain ⟨b1, b2, b3, b4, b5, b6, b7⟩ := RepM_e.mp hA
  obtain ⟨w1, w2, w3, w4, w5, w6, w7, w8, w9⟩ := WF_e.mp hW
  have hn7 := w3.2.1
  have hsl := w3.2.2.1
  have hws := wsh_m w5
  have hst := w5.2.1
  have t3 : σ 2 3 = (n : Int) := (b3 3 (by decide)).trans w3.1
  have t0 := b3 0 (by decide)
  have r0 := b4 0 (by decide)
  have r1 : σ 4 1 = ((msk (wsh row) n : Nat) : Int) := (b4 1 (by decide)).trans hws
  simp only [qByHand, isZ]
  simp only [qClean] at hcln
  refine OK.enter (L' := [vR 0, vI what, vN, vN, vN, vN, vN]) (by decide +kernel) (by simp [ent0]) rfl ?_
  have key : (what = 0 ∨ what = 1) → ∀ o, o ≤ n → ∀ σ1 : Sg, (∀ c, c ≠ 10 → c ≠ 11 → c ≠ 12 → σ1 c = σ c) → PP SHm mX6_byHand 20 27 [vR 0, vI what, vI (msk (clS T n (rP row) (rF row) (row 0)) n : Nat), vI (hdB T n (rP row) (rF row) (row 0) o).1, vI (hdB T n (rP row) (rF row) (row 0) o).2, vI (o : Int), vN] [] σ1 (RP (fun v τ => v = (if what = 0 then (hdB T n (rP row) (rF row) (row 0) n).1 else (hdB T n (rP row) (rF row) (row 0) n).2) ∧ RepM τ (len, txt, T, n, row, und, kep, sn))) := by
    intro hz
    refine loop_dn n ?_ ?_
    · intro σ1 hfr
      have d3' : σ1 2 3 = (n : Int) := by rw [hfr 2 (by decide) (by decide) (by decide)]; exact t3
      refine PP.iload dX6_byHand_27 rfl ?_
      refine PP.aload_n dX6_byHand_29 rfl ?_
      refine PP.getfR dX6_byHand_30 fl_X6_13 sm0 rfl ?_
      refine PP.iconst dX6_byHand_33 ?_
      refine PP.ialoadN (n := 3) sm2 (by first | decide | omega) (by first | rfl | omega) (by first | omega | (unfold R32; omega)) dX6_byHand_34 ?_
      refine PP.icmp_ge (tgt := 124) (by first | omega | (unfold R32; omega)) (by first | omega | (unfold R32; omega)) dX6_byHand_35 (by decide) (fun h35 => ?_) (fun h35 => ?_)
      · refine PP.iload_n dX6_byHand_124 rfl ?_
        refine PP.if_ne (tgt := 132) (by first | omega | (unfold R32; omega)) dX6_byHand_125 (by decide) (fun h125 => ?_) (fun h125 => ?_)
        · refine PP.iload dX6_byHand_132 rfl ?_
          refine PP.iret dX6_byHand_134 rfl ?_
          first
          | (rw [if_pos (by omega)]; exact ⟨_, rfl, rfl, RepM_9 hA (fun c hc => hfr c (by omega) (by omega) (by omega))⟩)
          | (rw [if_neg (by omega)]; exact ⟨_, rfl, rfl, RepM_9 hA (fun c hc => hfr c (by omega) (by omega) (by omega))⟩)
        · refine PP.iload_n dX6_byHand_128 rfl ?_
          refine PP.goto (tgt := 134) dX6_byHand_129 (by decide) ?_
          refine PP.iret dX6_byHand_134 rfl ?_
          first
          | (rw [if_pos (by omega)]; exact ⟨_, rfl, rfl, RepM_9 hA (fun c hc => hfr c (by omega) (by omega) (by omega))⟩)
          | (rw [if_neg (by omega)]; exact ⟨_, rfl, rfl, RepM_9 hA (fun c hc => hfr c (by omega) (by omega) (by omega))⟩)
      · omega
    · intro o ho ih σ1 hfr
      have d3' : σ1 2 3 = (n : Int) := by rw [hfr 2 (by decide) (by decide) (by decide)]; exact t3
      have hT1 : mT σ1 T := mT_cong b3 (hfr 2 (by decide) (by decide) (by decide))
      have hN1 : ∀ k, k < 16 → σ1 4 k = row k := fun k hk => by rw [hfr 4 (by decide) (by decide) (by decide)]; exact b4 k hk
      have n2 := hN1 (2 + o) (by omega)
      have eP : rP row o = row (2 + o) := rfl
      have hrg : -4 ≤ row (2 + o) ∧ row (2 + o) ≤ 14 := by have := wfR_rng w3 w5 ho; have := (w3.2.2.2.2.2.1 o ho).2.1; omega
      have hbr := hd_rng (T := T) (P := rP row) (F := rF row) (w := row 0) hn7 o
      have hcl := cnt_le (clS T n (uf (rP row) o (-4)) (uf (rF row) o (-4)) (row 0)) n
      have h7 := msk_128 (clS T n (uf (rP row) o (-4)) (uf (rF row) o (-4)) (row 0)) hn7
      rw [hdB] at ih
      have ihN : ¬ ((0 ≤ rP row o ∧ clS T n (rP row) (rF row) (row 0) o = false) ∧ (hdB T n (rP row) (rF row) (row 0) o).2 < (cnt (clS T n (uf (rP row) o (-4)) (uf (rF row) o (-4)) (row 0)) n : Nat)) → ∀ σ1 : Sg, (∀ c, c ≠ 10 → c ≠ 11 → c ≠ 12 → σ1 c = σ c) → PP SHm mX6_byHand 20 27 [vR 0, vI what, vI (msk (clS T n (rP row) (rF row) (row 0)) n : Nat), vI (hdB T n (rP row) (rF row) (row 0) o).1, vI (hdB T n (rP row) (rF row) (row 0) o).2, vI ((o : Int) + 1), vN] [] σ1 (RP (fun v τ => v = (if what = 0 then (hdB T n (rP row) (rF row) (row 0) n).1 else (hdB T n (rP row) (rF row) (row 0) n).2) ∧ RepM τ (len, txt, T, n, row, und, kep, sn))) := fun h => by rw [if_neg h] at ih; exact ih
      have ihY : ((0 ≤ rP row o ∧ clS T n (rP row) (rF row) (row 0) o = false) ∧ (hdB T n (rP row) (rF row) (row 0) o).2 < (cnt (clS T n (uf (rP row) o (-4)) (uf (rF row) o (-4)) (row 0)) n : Nat)) → ∀ σ1 : Sg, (∀ c, c ≠ 10 → c ≠ 11 → c ≠ 12 → σ1 c = σ c) → PP SHm mX6_byHand 20 27 [vR 0, vI what, vI (msk (clS T n (rP row) (rF row) (row 0)) n : Nat), vI (o : Int), vI (cnt (clS T n (uf (rP row) o (-4)) (uf (rF row) o (-4)) (row 0)) n : Nat), vI ((o : Int) + 1), vN] [] σ1 (RP (fun v τ => v = (if what = 0 then (hdB T n (rP row) (rF row) (row 0) n).1 else (hdB T n (rP row) (rF row) (row 0) n).2) ∧ RepM τ (len, txt, T, n, row, und, kep, sn))) := fun h => by rw [if_pos h] at ih; exact ih
      clear ih
      refine PP.iload dX6_byHand_27 rfl ?_
      refine PP.aload_n dX6_byHand_29 rfl ?_
      refine PP.getfR dX6_byHand_30 fl_X6_13 sm0 rfl ?_
      refine PP.iconst dX6_byHand_33 ?_
      refine PP.ialoadN (n := 3) sm2 (by first | decide | omega) (by first | rfl | omega) (by first | omega | exact b2i_R _ | (unfold R32; omega)) dX6_byHand_34 ?_
      refine PP.icmp_ge (tgt := 124) (by first | omega | exact b2i_R _ | (unfold R32; omega)) (by first | omega | exact b2i_R _ | (unfold R32; omega)) dX6_byHand_35 (by decide) (fun h35 => ?_) (fun h35 => ?_)
      · omega
      · refine PP.aload_n dX6_byHand_38 rfl ?_
        refine PP.getfR dX6_byHand_39 fl_X6_19 sm0 rfl ?_
        refine PP.iconst dX6_byHand_42 ?_
        refine PP.iload dX6_byHand_43 rfl ?_
        refine PP.iadd dX6_byHand_45 ?_
        refine PP.ialoadN (n := (2 + o)) sm4 (by first | decide | omega) (by first | rfl | omega) (by first | omega | exact b2i_R _ | (unfold R32; omega)) dX6_byHand_46 ?_
        refine PP.if_lt (tgt := 118) (by first | omega | exact b2i_R _ | (unfold R32; omega)) dX6_byHand_47 (by decide) (fun h47 => ?_) (fun h47 => ?_)
        · refine PP.iinc (L' := [_, _, _, _, _, _, _]) dX6_byHand_118 rfl rfl rfl ?_
          refine PP.goto (tgt := 27) dX6_byHand_121 (by decide) ?_
          refine PP.frg 6 (L' := [_, _, _, _, _, _, _]) rfl ?_
          first
            | exact ihN (fun q => h56 (b2i_0.mpr q.1.2)) σ1 hfr
            | exact ihY ⟨⟨by omega, b2i_0.mp h56⟩, h92⟩ _ (fun c h0 h1 h2 => by rw [ptU_ne h0 h1 h2, p1 c h0 h1 h2]; exact hfr c h0 h1 h2)
            | exact ihN (fun q => absurd q.2 (by omega)) _ (fun c h0 h1 h2 => by rw [ptU_ne h0 h1 h2, p1 c h0 h1 h2]; exact hfr c h0 h1 h2)
            | (exfalso; omega)
            | exact ihN (fun q => absurd q.1.1 (by omega)) σ1 hfr
        · refine PP.iload_n dX6_byHand_50 rfl ?_
          refine PP.iload dX6_byHand_51 rfl ?_
          refine PP.callSi (m_has hn7 ho) dX6_byHand_53 sl_X6_167 rfl rfl (Nat.le_of_ble_eq_true rfl) (by first | exact Nat.le_of_ble_eq_true rfl | omega) ?_
          refine PP.if_ne (tgt := 118) (by first | omega | exact b2i_R _ | (unfold R32; omega)) dX6_byHand_56 (by decide) (fun h56 => ?_) (fun h56 => ?_)
          · refine PP.iinc (L' := [_, _, _, _, _, _, _]) dX6_byHand_118 rfl rfl rfl ?_
            refine PP.goto (tgt := 27) dX6_byHand_121 (by decide) ?_
            refine PP.frg 6 (L' := [_, _, _, _, _, _, _]) rfl ?_
            first
              | exact ihN (fun q => h56 (b2i_0.mpr q.1.2)) σ1 hfr
              | exact ihY ⟨⟨by omega, b2i_0.mp h56⟩, h92⟩ _ (fun c h0 h1 h2 => by rw [ptU_ne h0 h1 h2, p1 c h0 h1 h2]; exact hfr c h0 h1 h2)
              | exact ihN (fun q => absurd q.2 (by omega)) _ (fun c h0 h1 h2 => by rw [ptU_ne h0 h1 h2, p1 c h0 h1 h2]; exact hfr c h0 h1 h2)
              | (exfalso; omega)
              | exact ihN (fun q => absurd q.1.1 (by omega)) σ1 hfr
          · refine PP.aload_n dX6_byHand_59 rfl ?_
            refine PP.callVnP (m_standUp w3 hT1 w5 hN1) dX6_byHand_60 vl_X6_158 sm0 rfl rfl rfl rfl (Nat.le_of_ble_eq_true rfl) (by first | exact Nat.le_of_ble_eq_true rfl | omega) (fun τ60 hq60 => ?_)
            obtain ⟨p1, p2⟩ := hq60
            have hC := MC_up w3 w5 (mT_cong hT1 (p1 2 (by decide) (by decide) (by decide))) p2
            have hC2 := MC_put hC (s := -4) (f := -4) ho (Or.inl ⟨rfl, rfl⟩)
            have e40 : τ60 4 0 = row 0 := by rw [p1 4 (by decide) (by decide) (by decide)]; exact hN1 0 (by decide)
            refine PP.aload_n dX6_byHand_63 rfl ?_
            refine PP.iload dX6_byHand_64 rfl ?_
            refine PP.bipush dX6_byHand_66 (by decide) ?_
            refine PP.bipush dX6_byHand_68 (by decide) ?_
            refine PP.callVn (m_put w3 hC.2.2.1 (t := o) (s := -4) (f := -4) (by omega) (by unfold R32; omega) (Or.inl rfl)) dX6_byHand_70 vl_X6_127 sm0 rfl rfl rfl rfl (Nat.le_of_ble_eq_true rfl) (by first | exact Nat.le_of_ble_eq_true rfl | omega) ?_
            refine PP.aload_n dX6_byHand_73 rfl ?_
            refine PP.aload_n dX6_byHand_74 rfl ?_
            refine PP.getfR dX6_byHand_75 fl_X6_19 sm0 rfl ?_
            refine PP.iconst dX6_byHand_78 ?_
            refine PP.ialoadN (n := 0) sm4 (by first | decide | omega) (by first | rfl | omega) (by first | omega | exact b2i_R _ | (unfold R32; omega)) dX6_byHand_79 ?_
            refine PP.eqI (y := row 0) (by rw [ptU_ne (by decide) (by decide) (by decide)]; exact e40) ?_
            refine PP.callVi (m_cleanBy hC2 (w := row 0) (by omega)) dX6_byHand_80 vl_X6_182 sm0 rfl rfl rfl rfl (Nat.le_of_ble_eq_true rfl) (by first | exact Nat.le_of_ble_eq_true rfl | omega) ?_
            refine PP.callSi (m_ones h7) dX6_byHand_83 sl_X6_164 rfl rfl (Nat.le_of_ble_eq_true rfl) (by first | exact Nat.le_of_ble_eq_true rfl | omega) ?_
            refine PP.eqI (y := ((cnt (clS T n (uf (rP row) o (-4)) (uf (rF row) o (-4)) (row 0)) n : Nat) : Int)) (by rw [pc7_msk hn7]) ?_
            refine PP.istore (L' := [_, _, _, _, _, _, _]) dX6_byHand_86 (Nat.le_of_ble_eq_true rfl) rfl rfl ?_
            refine PP.iload dX6_byHand_88 rfl ?_
            refine PP.iload dX6_byHand_90 rfl ?_
            refine PP.icmp_le (tgt := 100) (by first | omega | exact b2i_R _ | (unfold R32; omega)) (by first | omega | exact b2i_R _ | (unfold R32; omega)) dX6_byHand_92 (by decide) (fun h92 => ?_) (fun h92 => ?_)
            · refine PP.iload_n dX6_byHand_100 rfl ?_
              refine PP.istore_n (L' := [_, _, _, _, _, _, _]) dX6_byHand_101 (Nat.le_of_ble_eq_true rfl) rfl rfl ?_
              refine PP.iload dX6_byHand_102 rfl ?_
              refine PP.iload dX6_byHand_104 rfl ?_
              refine PP.icmp_le (tgt := 114) (by first | omega | exact b2i_R _ | (unfold R32; omega)) (by first | omega | exact b2i_R _ | (unfold R32; omega)) dX6_byHand_106 (by decide) (fun h106 => ?_) (fun h106 => ?_)
              · refine PP.iload dX6_byHand_114 rfl ?_
                refine PP.istore (L' := [_, _, _, _, _, _, _]) dX6_byHand_116 (Nat.le_of_ble_eq_true rfl) rfl rfl ?_
                refine PP.iinc (L' := [_, _, _, _, _, _, _]) dX6_byHand_118 rfl rfl rfl ?_
                refine PP.goto (tgt := 27) dX6_byHand_121 (by decide) ?_
                refine PP.frg 6 (L' := [_, _, _, _, _, _, _]) rfl ?_
                first
                  | exact ihN (fun q => h56 (b2i_0.mpr q.1.2)) σ1 hfr
                  | exact ihY ⟨⟨by omega, b2i_0.mp h56⟩, h92⟩ _ (fun c h0 h1 h2 => by rw [ptU_ne h0 h1 h2, p1 c h0 h1 h2]; exact hfr c h0 h1 h2)
                  | exact ihN (fun q => absurd q.2 (by omega)) _ (fun c h0 h1 h2 => by rw [ptU_ne h0 h1 h2, p1 c h0 h1 h2]; exact hfr c h0 h1 h2)
                  | (exfalso; omega)
                  | exact ihN (fun q => absurd q.1.1 (by omega)) σ1 hfr
              · refine PP.iload dX6_byHand_109 rfl ?_
                refine PP.goto (tgt := 116) dX6_byHand_111 (by decide) ?_
                refine PP.istore (L' := [_, _, _, _, _, _, _]) dX6_byHand_116 (Nat.le_of_ble_eq_true rfl) rfl rfl ?_
                refine PP.iinc (L' := [_, _, _, _, _, _, _]) dX6_byHand_118 rfl rfl rfl ?_
                refine PP.goto (tgt := 27) dX6_byHand_121 (by decide) ?_
                refine PP.frg 6 (L' := [_, _, _, _, _, _, _]) rfl ?_
                first
                  | exact ihN (fun q => h56 (b2i_0.mpr q.1.2)) σ1 hfr
                  | exact ihY ⟨⟨by omega, b2i_0.mp h56⟩, h92⟩ _ (fun c h0 h1 h2 => by rw [ptU_ne h0 h1 h2, p1 c h0 h1 h2]; exact hfr c h0 h1 h2)
                  | exact ihN (fun q => absurd q.2 (by omega)) _ (fun c h0 h1 h2 => by rw [ptU_ne h0 h1 h2, p1 c h0 h1 h2]; exact hfr c h0 h1 h2)
                  | (exfalso; omega)
                  | exact ihN (fun q => absurd q.1.1 (by omega)) σ1 hfr
            · refine PP.iload dX6_byHand_95 rfl ?_
              refine PP.goto (tgt := 101) dX6_byHand_97 (by decide) ?_
              refine PP.istore_n (L' := [_, _, _, _, _, _, _]) dX6_byHand_101 (Nat.le_of_ble_eq_true rfl) rfl rfl ?_
              refine PP.iload dX6_byHand_102 rfl ?_
              refine PP.iload dX6_byHand_104 rfl ?_
              refine PP.icmp_le (tgt := 114) (by first | omega | exact b2i_R _ | (unfold R32; omega)) (by first | omega | exact b2i_R _ | (unfold R32; omega)) dX6_byHand_106 (by decide) (fun h106 => ?_) (fun h106 => ?_)
              · refine PP.iload dX6_byHand_114 rfl ?_
                refine PP.istore (L' := [_, _, _, _, _, _, _]) dX6_byHand_116 (Nat.le_of_ble_eq_true rfl) rfl rfl ?_
                refine PP.iinc (L' := [_, _, _, _, _, _, _]) dX6_byHand_118 rfl rfl rfl ?_
                refine PP.goto (tgt := 27) dX6_byHand_121 (by decide) ?_
                refine PP.frg 6 (L' := [_, _, _, _, _, _, _]) rfl ?_
                first
                  | exact ihN (fun q => h56 (b2i_0.mpr q.1.2)) σ1 hfr
                  | exact ihY ⟨⟨by omega, b2i_0.mp h56⟩, h92⟩ _ (fun c h0 h1 h2 => by rw [ptU_ne h0 h1 h2, p1 c h0 h1 h2]; exact hfr c h0 h1 h2)
                  | exact ihN (fun q => absurd q.2 (by omega)) _ (fun c h0 h1 h2 => by rw [ptU_ne h0 h1 h2, p1 c h0 h1 h2]; exact hfr c h0 h1 h2)
                  | (exfalso; omega)
                  | exact ihN (fun q => absurd q.1.1 (by omega)) σ1 hfr
              · refine PP.iload dX6_byHand_109 rfl ?_
                refine PP.goto (tgt := 116) dX6_byHand_111 (by decide) ?_
                refine PP.istore (L' := [_, _, _, _, _, _, _]) dX6_byHand_116 (Nat.le_of_ble_eq_true rfl) rfl rfl ?_
                refine PP.iinc (L' := [_, _, _, _, _, _, _]) dX6_byHand_118 rfl rfl rfl ?_
                refine PP.goto (tgt := 27) dX6_byHand_121 (by decide) ?_
                refine PP.frg 6 (L' := [_, _, _, _, _, _, _]) rfl ?_
                first
                  | exact ihN (fun q => h56 (b2i_0.mpr q.1.2)) σ1 hfr
                  | exact ihY ⟨⟨by omega, b2i_0.mp h56⟩, h92⟩ _ (fun c h0 h1 h2 => by rw [ptU_ne h0 h1 h2, p1 c h0 h1 h2]; exact hfr c h0 h1 h2)
                  | exact ihN (fun q => absurd q.2 (by omega)) _ (fun c h0 h1 h2 => by rw [ptU_ne h0 h1 h2, p1 c h0 h1 h2]; exact hfr c h0 h1 h2)
                  | (exfalso; omega)
                  | exact ihN (fun q => absurd q.1.1 (by omega)) σ1 hfr
  refine PP.iload_n dX6_byHand_0 rfl ?_
  refine PP.i2l (by first | omega | assumption | exact b2i_R _ | (unfold R32; omega)) dX6_byHand_1 ?_
  refine PP.lconst (z := 0) dX6_byHand_2 (by decide) ?_
  refine PP.lconst (z := 1) dX6_byHand_3 (by decide) ?_
  refine PP.callSi (m_in hx (by unfold R32; omega) (by unfold R32; omega)) dX6_byHand_4 sl_X6_70 rfl rfl (Nat.le_of_ble_eq_true rfl) (by first | exact Nat.le_of_ble_eq_true rfl | omega) ?_
  refine PP.if_ne (tgt := 12) (by first | omega | assumption | exact b2i_R _ | (unfold R32; omega)) dX6_byHand_7 (by decide) (fun h7 => ?_) (fun h7 => ?_)
  · have hz := of_decide_eq_true (b2i_n.mp h7)
    rw [if_neg (by omega)]
    refine PP.aload_n dX6_byHand_12 rfl ?_
    refine PP.callViP (hcln) dX6_byHand_13 vl_X6_185 sm0 rfl rfl rfl rfl (Nat.le_of_ble_eq_true rfl) (by first | exact Nat.le_of_ble_eq_true rfl | omega) (fun v13 τ13 hq13 => ?_)
    obtain ⟨rfl, p1, p2, p3⟩ := hq13
    refine PP.istore_n (L' := [_, _, _, _, _, _, _]) dX6_byHand_16 (Nat.le_of_ble_eq_true rfl) rfl rfl ?_
    refine PP.bipush dX6_byHand_17 (by decide) ?_
    refine PP.istore_n (L' := [_, _, _, _, _, _, _]) dX6_byHand_19 (Nat.le_of_ble_eq_true rfl) rfl rfl ?_
    refine PP.bipush dX6_byHand_20 (by decide) ?_
    refine PP.istore (L' := [_, _, _, _, _, _, _]) dX6_byHand_22 (Nat.le_of_ble_eq_true rfl) rfl rfl ?_
    refine PP.iconst dX6_byHand_24 ?_
    refine PP.istore (L' := [_, _, _, _, _, _, _]) dX6_byHand_25 (Nat.le_of_ble_eq_true rfl) rfl rfl ?_
    exact key (by omega) 0 (by omega) _ p2
  · refine PP.iconst dX6_byHand_10 ?_
    refine PP.iret dX6_byHand_11 rfl ?_
    rw [if_pos (by have := of_decide_eq_false (b2i_0.mp h7); omega)]
    exact ⟨_, rfl, rfl, hA⟩
def sgQ (T : Nat → Int) (n : Nat) (P F sn : Nat → Int) (p : Nat) (t : Nat) : Bool := snP sn t && inS P t && (clS T n P F (p : Int) t != snC sn t)
theorem x_strong {σ : Sg} {A : ST} (hA : RepM σ A) (hW : WF A) : OK SHm mX6_strong 20 [vR 0] σ (RP (fun v τ => v = qStrong A ∧ RepM τ A)) := by
  obtain ⟨len, txt, T, n, row, und, kep, sn⟩ := A
  obtain ⟨b1, b2, b3, b4, b5, b6, b7⟩ := RepM_e.mp hA
  obtain ⟨w1, w2, w3, w4, w5, w6, w7, w8, w9⟩ := WF_e.mp hW
  have hn7 := w3.2.1
  have hsl := w3.2.2.1
  have hws := wsh_m w5
  have hst := w5.2.1
  have t3 : σ 2 3 = (n : Int) := (b3 3 (by decide)).trans w3.1
  have t0 := b3 0 (by decide)
  have r0 := b4 0 (by decide)
  have r1 : σ 4 1 = ((msk (wsh row) n : Nat) : Int) := (b4 1 (by decide)).trans hws
  simp only [qStrong]
  refine OK.enter (L' := [vR 0, vN, vN, vN, vN]) (by decide +kernel) (by simp [ent0]) rfl ?_
  have key : ∀ σ1 : Sg, RepM σ1 (len, txt, T, n, row, und, kep, sn) → MC σ1 T n (rP row) (rF row) → ∀ o, o ≤ 10 → 1 ≤ o → PP SHm mX6_strong 20 8 [vR 0, vI (msk (sgS T n (rP row) (rF row) sn) o : Nat), vI (o : Int), vN, vN] [] σ1 (RP (fun v τ => v = ((msk (sgS T n (rP row) (rF row) sn) 10 : Nat) : Int) ∧ RepM τ (len, txt, T, n, row, und, kep, sn))) := by
    intro σ1 hA1 hc
    have t3' : σ1 2 3 = (n : Int) := (hc.2.2.1 3 (by decide)).trans w3.1
    obtain ⟨c1, c2, c3, c4, c5, c6, c7⟩ := RepM_e.mp hA1
    refine loop_dn 10 ?_ ?_
    · intro _
      refine PP.iload_n dX6_strong_8 rfl ?_
      refine PP.bipush dX6_strong_9 (by decide) ?_
      refine PP.icmp_ge (tgt := 112) (by first | omega | (unfold R32; omega)) (by first | omega | (unfold R32; omega)) dX6_strong_11 (by decide) (fun h11 => ?_) (fun h11 => ?_)
      · refine PP.iload_n dX6_strong_112 rfl ?_
        refine PP.iret dX6_strong_113 rfl ?_
        exact ⟨_, rfl, rfl, hA1⟩
      · omega
    · intro o ho ih h1
      have ih := ih (by omega)
      have hsg : sgS T n (rP row) (rF row) sn o = !anyB (sgQ T n (rP row) (rF row) sn o) n := by
        unfold sgS
        rw [decide_eq_true h1, Bool.true_and]
        rfl
      have inn : ∀ u, u ≤ n → PP SHm mX6_strong 20 19 [vR 0, vI (msk (sgS T n (rP row) (rF row) sn) o : Nat), vI (o : Int), vI (b2i (!anyB (sgQ T n (rP row) (rF row) sn o) u)), vI (u : Int)] [] σ1 (RP (fun v τ => v = ((msk (sgS T n (rP row) (rF row) sn) 10 : Nat) : Int) ∧ RepM τ (len, txt, T, n, row, und, kep, sn))) := by
        refine loop_dn n ?_ ?_
        · refine PP.iload dX6_strong_19 rfl ?_
          refine PP.aload_n dX6_strong_21 rfl ?_
          refine PP.getfR dX6_strong_22 fl_X6_13 sm0 rfl ?_
          refine PP.iconst dX6_strong_25 ?_
          refine PP.ialoadN (n := 3) sm2 (by first | decide | omega) (by first | rfl | omega) (by first | omega | exact b2i_R _ | (unfold R32; omega)) dX6_strong_26 ?_
          refine PP.icmp_ge (tgt := 92) (by first | omega | exact b2i_R _ | (unfold R32; omega)) (by first | omega | exact b2i_R _ | (unfold R32; omega)) dX6_strong_27 (by decide) (fun h27 => ?_) (fun h27 => ?_)
          · refine PP.iload_n dX6_strong_92 rfl ?_
            refine PP.iload_n dX6_strong_93 rfl ?_
            refine PP.if_eq (tgt := 103) (by first | omega | exact b2i_R _ | (unfold R32; omega)) dX6_strong_94 (by decide) (fun h94 => ?_) (fun h94 => ?_)
            · refine PP.iconst dX6_strong_103 ?_
              refine PP.iorR (z := ((msk (sgS T n (rP row) (rF row) sn) (o + 1)) : Nat)) (by first | (rw [msk_s1 (hsg.trans (b2i_n.mp h94))]; exact ior_msk _ _) | (rw [msk_s0 (hsg.trans (b2i_0.mp h94))]; exact ior_0 _)) dX6_strong_104 ?_
              refine PP.istore_n (L' := [_, _, _, _, _]) dX6_strong_105 (Nat.le_of_ble_eq_true rfl) rfl rfl ?_
              refine PP.iinc (L' := [_, _, _, _, _]) dX6_strong_106 rfl rfl rfl ?_
              refine PP.goto (tgt := 8) dX6_strong_109 (by decide) ?_
              refine PP.frg 3 (L' := [_, _, _, _, _]) rfl ?_
              refine PP.frg 4 (L' := [_, _, _, _, _]) rfl ?_
              exact ih
            · refine PP.iconst dX6_strong_97 ?_
              refine PP.iload_n dX6_strong_98 rfl ?_
              refine PP.ishlR (z := ((2 ^ o) : Nat)) (shl1_o (by omega)) dX6_strong_99 ?_
              refine PP.goto (tgt := 104) dX6_strong_100 (by decide) ?_
              refine PP.iorR (z := ((msk (sgS T n (rP row) (rF row) sn) (o + 1)) : Nat)) (by first | (rw [msk_s1 (hsg.trans (b2i_n.mp h94))]; exact ior_msk _ _) | (rw [msk_s0 (hsg.trans (b2i_0.mp h94))]; exact ior_0 _)) dX6_strong_104 ?_
              refine PP.istore_n (L' := [_, _, _, _, _]) dX6_strong_105 (Nat.le_of_ble_eq_true rfl) rfl rfl ?_
              refine PP.iinc (L' := [_, _, _, _, _]) dX6_strong_106 rfl rfl rfl ?_
              refine PP.goto (tgt := 8) dX6_strong_109 (by decide) ?_
              refine PP.frg 3 (L' := [_, _, _, _, _]) rfl ?_
              refine PP.frg 4 (L' := [_, _, _, _, _]) rfl ?_
              exact ih
          · omega
        · intro u hu ihu
          have s1 := c7 u (by omega)
          have s2 := w8 u
          have f1 := (hc.2.2.2 u (by omega)).1
          have eP : rP row u = row (2 + u) := rfl
          have hrg : -4 ≤ row (2 + u) ∧ row (2 + u) ≤ 14 := by have := wfR_rng w3 w5 hu; have := (w3.2.2.2.2.2.1 u hu).2.1; omega
          have hin : inS (rP row) u = true ↔ 0 ≤ row (2 + u) := inS_t
          have hsp : snP sn u = true ↔ 0 ≤ sn u := by simp [snP]
          have hsc : snC sn u = true ↔ sn u = 1 := by simp [snC]
          have J : ∀ z, z = b2i (!(anyB (sgQ T n (rP row) (rF row) sn o) u || sgQ T n (rP row) (rF row) sn o u)) → ∀ i3 : Int, PP SHm mX6_strong 20 85 [vR 0, vI (msk (sgS T n (rP row) (rF row) sn) o : Nat), vI (o : Int), vI i3, vI (u : Int)] [vI z] σ1 (RP (fun v τ => v = ((msk (sgS T n (rP row) (rF row) sn) 10 : Nat) : Int) ∧ RepM τ (len, txt, T, n, row, und, kep, sn))) := by
            intro z hz i3
            subst hz
            refine PP.istore_n (L' := [_, _, _, _, _]) dX6_strong_85 (Nat.le_of_ble_eq_true rfl) rfl rfl ?_
            refine PP.iinc (L' := [_, _, _, _, _]) dX6_strong_86 rfl rfl rfl ?_
            refine PP.goto (tgt := 19) dX6_strong_89 (by decide) ?_
            exact ihu
          have y1 : anyB (sgQ T n (rP row) (rF row) sn o) u = true → 0 = b2i (!(anyB (sgQ T n (rP row) (rF row) sn o) u || sgQ T n (rP row) (rF row) sn o u)) := fun a => by rw [a]; rfl
          have y2 : anyB (sgQ T n (rP row) (rF row) sn o) u = false → sgQ T n (rP row) (rF row) sn o u = false → 1 = b2i (!(anyB (sgQ T n (rP row) (rF row) sn o) u || sgQ T n (rP row) (rF row) sn o u)) := fun a b => by rw [a, b]; rfl
          have y3 : sgQ T n (rP row) (rF row) sn o u = true → 0 = b2i (!(anyB (sgQ T n (rP row) (rF row) sn o) u || sgQ T n (rP row) (rF row) sn o u)) := fun a => by rw [a, Bool.or_true]; rfl
          have z1 : snP sn u = false → sgQ T n (rP row) (rF row) sn o u = false := fun a => by unfold sgQ; rw [a]; rfl
          have z2 : inS (rP row) u = false → sgQ T n (rP row) (rF row) sn o u = false := fun a => by unfold sgQ; rw [a]; simp
          have z3 : clS T n (rP row) (rF row) (o : Int) u = snC sn u → sgQ T n (rP row) (rF row) sn o u = false := fun a => by unfold sgQ; rw [a]; simp
          have z4 : snP sn u = true → inS (rP row) u = true → ¬ clS T n (rP row) (rF row) (o : Int) u = snC sn u → sgQ T n (rP row) (rF row) sn o u = true := fun a b c => by unfold sgQ; rw [a, b]; simp [c]
          have gc : b2i (clS T n (rP row) (rF row) (o : Int) u) = b2i (snC sn u) ↔ clS T n (rP row) (rF row) (o : Int) u = snC sn u := by
            cases clS T n (rP row) (rF row) (o : Int) u <;> cases snC sn u <;> simp [b2i]
          have gs1 : sn u = 1 → b2i (snC sn u) = 1 := fun a => b2i_1.mpr (hsc.mpr a)
          have gs0 : ¬ sn u = 1 → b2i (snC sn u) = 0 := fun a => b2i_0.mpr (bf hsc a)
          have an : ¬ b2i (!anyB (sgQ T n (rP row) (rF row) sn o) u) = 0 → anyB (sgQ T n (rP row) (rF row) sn o) u = false := fun a => by have := b2i_n.mp a; simpa using this
          have ay : b2i (!anyB (sgQ T n (rP row) (rF row) sn o) u) = 0 → anyB (sgQ T n (rP row) (rF row) sn o) u = true := fun a => by have := b2i_0.mp a; simpa using this
          refine PP.iload dX6_strong_19 rfl ?_
          refine PP.aload_n dX6_strong_21 rfl ?_
          refine PP.getfR dX6_strong_22 fl_X6_13 sm0 rfl ?_
          refine PP.iconst dX6_strong_25 ?_
          refine PP.ialoadN (n := 3) sm2 (by first | decide | omega) (by first | rfl | omega) (by first | omega | exact b2i_R _ | (unfold R32; omega)) dX6_strong_26 ?_
          refine PP.icmp_ge (tgt := 92) (by first | omega | exact b2i_R _ | (unfold R32; omega)) (by first | omega | exact b2i_R _ | (unfold R32; omega)) dX6_strong_27 (by decide) (fun h27 => ?_) (fun h27 => ?_)
          · omega
          · refine PP.iload_n dX6_strong_30 rfl ?_
            refine PP.if_eq (tgt := 84) (by first | omega | exact b2i_R _ | (unfold R32; omega)) dX6_strong_31 (by decide) (fun h31 => ?_) (fun h31 => ?_)
            · refine PP.iconst dX6_strong_84 ?_
              first
              | exact J _ (y1 (ay h31)) _
              | exact J _ (y2 (an h31) (z3 (gc.mp (by have := gs1 (by omega); omega)))) _
              | exact J _ (y2 (an h31) (z3 (gc.mp (by have := gs0 (by omega); omega)))) _
              | exact J _ (y3 (z4 (bt hsp (by omega)) (bt hin (by omega)) (fun q => by have := gc.mpr q; have := gs1 (by omega); omega))) _
              | exact J _ (y3 (z4 (bt hsp (by omega)) (bt hin (by omega)) (fun q => by have := gc.mpr q; have := gs0 (by omega); omega))) _
              | exact J _ (y2 (an h31) (z2 (bf hin (by omega)))) _
              | exact J _ (y2 (an h31) (z1 (bf hsp (by omega)))) _
            · refine PP.aload_n dX6_strong_34 rfl ?_
              refine PP.getfR dX6_strong_35 fl_X6_31 sm0 rfl ?_
              refine PP.iload dX6_strong_38 rfl ?_
              refine PP.ialoadN (n := u) sm8 (by first | decide | omega) (by first | rfl | omega) (by first | omega | exact b2i_R _ | (unfold R32; omega)) dX6_strong_40 ?_
              refine PP.if_lt (tgt := 80) (by first | omega | exact b2i_R _ | (unfold R32; omega)) dX6_strong_41 (by decide) (fun h41 => ?_) (fun h41 => ?_)
              · refine PP.iconst dX6_strong_80 ?_
                refine PP.goto (tgt := 85) dX6_strong_81 (by decide) ?_
                first
                | exact J _ (y1 (ay h31)) _
                | exact J _ (y2 (an h31) (z3 (gc.mp (by have := gs1 (by omega); omega)))) _
                | exact J _ (y2 (an h31) (z3 (gc.mp (by have := gs0 (by omega); omega)))) _
                | exact J _ (y3 (z4 (bt hsp (by omega)) (bt hin (by omega)) (fun q => by have := gc.mpr q; have := gs1 (by omega); omega))) _
                | exact J _ (y3 (z4 (bt hsp (by omega)) (bt hin (by omega)) (fun q => by have := gc.mpr q; have := gs0 (by omega); omega))) _
                | exact J _ (y2 (an h31) (z2 (bf hin (by omega)))) _
                | exact J _ (y2 (an h31) (z1 (bf hsp (by omega)))) _
              · refine PP.aload_n dX6_strong_44 rfl ?_
                refine PP.getfR dX6_strong_45 fl_X6_37 sm0 rfl ?_
                refine PP.iload dX6_strong_48 rfl ?_
                refine PP.ialoadN (n := u) sm10 (by first | decide | omega) (by first | rfl | omega) (by first | omega | exact b2i_R _ | (unfold R32; omega)) dX6_strong_50 ?_
                refine PP.if_lt (tgt := 80) (by first | omega | exact b2i_R _ | (unfold R32; omega)) dX6_strong_51 (by decide) (fun h51 => ?_) (fun h51 => ?_)
                · refine PP.iconst dX6_strong_80 ?_
                  refine PP.goto (tgt := 85) dX6_strong_81 (by decide) ?_
                  first
                  | exact J _ (y1 (ay h31)) _
                  | exact J _ (y2 (an h31) (z3 (gc.mp (by have := gs1 (by omega); omega)))) _
                  | exact J _ (y2 (an h31) (z3 (gc.mp (by have := gs0 (by omega); omega)))) _
                  | exact J _ (y3 (z4 (bt hsp (by omega)) (bt hin (by omega)) (fun q => by have := gc.mpr q; have := gs1 (by omega); omega))) _
                  | exact J _ (y3 (z4 (bt hsp (by omega)) (bt hin (by omega)) (fun q => by have := gc.mpr q; have := gs0 (by omega); omega))) _
                  | exact J _ (y2 (an h31) (z2 (bf hin (by omega)))) _
                  | exact J _ (y2 (an h31) (z1 (bf hsp (by omega)))) _
                · refine PP.aload_n dX6_strong_54 rfl ?_
                  refine PP.iload dX6_strong_55 rfl ?_
                  refine PP.iload_n dX6_strong_57 rfl ?_
                  refine PP.callVi (m_comesClean (w := (o : Int)) hc hu (by omega)) dX6_strong_58 vl_X6_146 sm0 rfl rfl rfl rfl (Nat.le_of_ble_eq_true rfl) (by first | exact Nat.le_of_ble_eq_true rfl | omega) ?_
                  refine PP.aload_n dX6_strong_61 rfl ?_
                  refine PP.getfR dX6_strong_62 fl_X6_31 sm0 rfl ?_
                  refine PP.iload dX6_strong_65 rfl ?_
                  refine PP.ialoadN (n := u) sm8 (by first | decide | omega) (by first | rfl | omega) (by first | omega | exact b2i_R _ | (unfold R32; omega)) dX6_strong_67 ?_
                  refine PP.iconst dX6_strong_68 ?_
                  refine PP.icmp_ne (tgt := 76) (by first | omega | exact b2i_R _ | (unfold R32; omega)) (by first | omega | exact b2i_R _ | (unfold R32; omega)) dX6_strong_69 (by decide) (fun h69 => ?_) (fun h69 => ?_)
                  · refine PP.iconst dX6_strong_76 ?_
                    refine PP.icmp_ne (tgt := 84) (by first | omega | exact b2i_R _ | (unfold R32; omega)) (by first | omega | exact b2i_R _ | (unfold R32; omega)) dX6_strong_77 (by decide) (fun h77 => ?_) (fun h77 => ?_)
                    · refine PP.iconst dX6_strong_84 ?_
                      first
                      | exact J _ (y1 (ay h31)) _
                      | exact J _ (y2 (an h31) (z3 (gc.mp (by have := gs1 (by omega); omega)))) _
                      | exact J _ (y2 (an h31) (z3 (gc.mp (by have := gs0 (by omega); omega)))) _
                      | exact J _ (y3 (z4 (bt hsp (by omega)) (bt hin (by omega)) (fun q => by have := gc.mpr q; have := gs1 (by omega); omega))) _
                      | exact J _ (y3 (z4 (bt hsp (by omega)) (bt hin (by omega)) (fun q => by have := gc.mpr q; have := gs0 (by omega); omega))) _
                      | exact J _ (y2 (an h31) (z2 (bf hin (by omega)))) _
                      | exact J _ (y2 (an h31) (z1 (bf hsp (by omega)))) _
                    · refine PP.iconst dX6_strong_80 ?_
                      refine PP.goto (tgt := 85) dX6_strong_81 (by decide) ?_
                      first
                      | exact J _ (y1 (ay h31)) _
                      | exact J _ (y2 (an h31) (z3 (gc.mp (by have := gs1 (by omega); omega)))) _
                      | exact J _ (y2 (an h31) (z3 (gc.mp (by have := gs0 (by omega); omega)))) _
                      | exact J _ (y3 (z4 (bt hsp (by omega)) (bt hin (by omega)) (fun q => by have := gc.mpr q; have := gs1 (by omega); omega))) _
                      | exact J _ (y3 (z4 (bt hsp (by omega)) (bt hin (by omega)) (fun q => by have := gc.mpr q; have := gs0 (by omega); omega))) _
                      | exact J _ (y2 (an h31) (z2 (bf hin (by omega)))) _
                      | exact J _ (y2 (an h31) (z1 (bf hsp (by omega)))) _
                  · refine PP.iconst dX6_strong_72 ?_
                    refine PP.goto (tgt := 77) dX6_strong_73 (by decide) ?_
                    refine PP.icmp_ne (tgt := 84) (by first | omega | exact b2i_R _ | (unfold R32; omega)) (by first | omega | exact b2i_R _ | (unfold R32; omega)) dX6_strong_77 (by decide) (fun h77 => ?_) (fun h77 => ?_)
                    · refine PP.iconst dX6_strong_84 ?_
                      first
                      | exact J _ (y1 (ay h31)) _
                      | exact J _ (y2 (an h31) (z3 (gc.mp (by have := gs1 (by omega); omega)))) _
                      | exact J _ (y2 (an h31) (z3 (gc.mp (by have := gs0 (by omega); omega)))) _
                      | exact J _ (y3 (z4 (bt hsp (by omega)) (bt hin (by omega)) (fun q => by have := gc.mpr q; have := gs1 (by omega); omega))) _
                      | exact J _ (y3 (z4 (bt hsp (by omega)) (bt hin (by omega)) (fun q => by have := gc.mpr q; have := gs0 (by omega); omega))) _
                      | exact J _ (y2 (an h31) (z2 (bf hin (by omega)))) _
                      | exact J _ (y2 (an h31) (z1 (bf hsp (by omega)))) _
                    · refine PP.iconst dX6_strong_80 ?_
                      refine PP.goto (tgt := 85) dX6_strong_81 (by decide) ?_
                      first
                      | exact J _ (y1 (ay h31)) _
                      | exact J _ (y2 (an h31) (z3 (gc.mp (by have := gs1 (by omega); omega)))) _
                      | exact J _ (y2 (an h31) (z3 (gc.mp (by have := gs0 (by omega); omega)))) _
                      | exact J _ (y3 (z4 (bt hsp (by omega)) (bt hin (by omega)) (fun q => by have := gc.mpr q; have := gs1 (by omega); omega))) _
                      | exact J _ (y3 (z4 (bt hsp (by omega)) (bt hin (by omega)) (fun q => by have := gc.mpr q; have := gs0 (by omega); omega))) _
                      | exact J _ (y2 (an h31) (z2 (bf hin (by omega)))) _
                      | exact J _ (y2 (an h31) (z1 (bf hsp (by omega)))) _
      refine PP.iload_n dX6_strong_8 rfl ?_
      refine PP.bipush dX6_strong_9 (by decide) ?_
      refine PP.icmp_ge (tgt := 112) (by first | omega | (unfold R32; omega)) (by first | omega | (unfold R32; omega)) dX6_strong_11 (by decide) (fun h11 => ?_) (fun h11 => ?_)
      · omega
      · refine PP.iconst dX6_strong_14 ?_
        refine PP.istore_n (L' := [_, _, _, _, _]) dX6_strong_15 (Nat.le_of_ble_eq_true rfl) rfl rfl ?_
        refine PP.iconst dX6_strong_16 ?_
        refine PP.istore (L' := [_, _, _, _, _]) dX6_strong_17 (Nat.le_of_ble_eq_true rfl) rfl rfl ?_
        exact inn 0 (by omega)
  refine PP.aload_n dX6_strong_0 rfl ?_
  refine PP.callVnP (m_standUp w3 b3 w5 b4) dX6_strong_1 vl_X6_158 sm0 rfl rfl rfl rfl (Nat.le_of_ble_eq_true rfl) (by first | exact Nat.le_of_ble_eq_true rfl | omega) (fun τ1 hq1 => ?_)
  obtain ⟨p1, p2⟩ := hq1
  refine PP.iconst dX6_strong_4 ?_
  refine PP.istore_n (L' := [_, _, _, _, _]) dX6_strong_5 (Nat.le_of_ble_eq_true rfl) rfl rfl ?_
  refine PP.iconst dX6_strong_6 ?_
  refine PP.istore_n (L' := [_, _, _, _, _]) dX6_strong_7 (Nat.le_of_ble_eq_true rfl) rfl rfl ?_
  exact key _ (RepM_9 hA (fun c hc => p1 c (by omega) (by omega) (by omega))) (MC_up w3 w5 (mT_cong b3 (p1 2 (by decide) (by decide) (by decide))) p2) 1 (by omega) (by omega)
