/-! the model: the items of things and places -/
theorem m_thingItem {σ : Sg} {b i0 : Nat} {R : Option (List Int × Nat)} {x : RS} (hb : σ 0 0 = (b : Int)) (hb2 : b ≤ 200) (hx : ∀ j, j < b → 0 ≤ σ 1 j ∧ σ 1 j ≤ 127) (hi : σ 0 12 = (i0 : Int)) (hi2 : i0 ≤ 201) (hR : rdN (σ 1) (b - i0) i0 [] 0 0 = R) (hw : wfS x) (h3 : ∀ k, k < 56 → σ 3 k = x.1 k) : OK SHm mX6_thingItem 4 [vR 0] σ (RP (fun v τ => (∀ c, c ≠ 0 → c ≠ 3 → c ≠ 5 → c ≠ 9 → τ c = σ c) ∧ (∀ j, j ≠ 12 → τ 0 j = σ 0 j) ∧ ((v = 0 ∧ ∀ ns nx, R = some (ns, nx) → ∀ k w h d, ns = [k, w, h, d] → ¬ cTh x k w h d) ∨ (v = 1 ∧ ∃ k w h d nx, R = some ([k, w, h, d], nx) ∧ cTh x k w h d ∧ τ 0 12 = ((nx : Nat) : Int) ∧ (∀ j, j < 56 → τ 3 j = thT x.1 x.2.1 k w h d j) ∧ τ 5 = σ 5)))) := by
  have hn := hw.1.2.1
  have e3 : σ 3 3 = (x.2.1 : Int) := (h3 3 (by decide)).trans hw.1.1
  generalize hnn : x.2.1 = n at *
  refine OK.enter (L' := [vR 0, vN]) (by decide +kernel) (by simp [ent0]) rfl ?_
  refine PP.aload_n dX6_thingItem_0 rfl ?_
  refine PP.getfR dX6_thingItem_1 fl_X6_16 sm0 rfl ?_
  refine PP.iconst dX6_thingItem_4 ?_
  refine PP.ialoadN (n := 3) sm3 (by first | decide | omega) (by first | rfl | omega) (by first | omega | assumption | exact b2i_R _ | (rcases p3 with ⟨q, -⟩ | ⟨q, -⟩ <;> unfold R32 <;> omega) | (unfold R32; omega)) dX6_thingItem_5 ?_
  refine PP.eqI e3 ?_
  refine PP.istore_n (L' := [_, _]) dX6_thingItem_6 (Nat.le_of_ble_eq_true rfl) rfl rfl ?_
  refine PP.aload_n dX6_thingItem_7 rfl ?_
  refine PP.iconst dX6_thingItem_8 ?_
  refine PP.callViP (m_numbers (many := 4) hb hb2 hx hi hi2 (by omega) hR) dX6_thingItem_9 vl_X6_91 sm0 rfl rfl rfl rfl (Nat.le_of_ble_eq_true rfl) (by first | exact Nat.le_of_ble_eq_true rfl | omega) (fun v9 τ9 hq9 => ?_)
  obtain ⟨p1, p2, p3⟩ := hq9
  refine PP.if_eq (tgt := 82) (by first | omega | assumption | exact b2i_R _ | (rcases p3 with ⟨q, -⟩ | ⟨q, -⟩ <;> unfold R32 <;> omega) | (unfold R32; omega)) dX6_thingItem_12 (by decide) (fun h12 => ?_) (fun h12 => ?_)
  · refine PP.iconst dX6_thingItem_82 ?_
    refine PP.zret dX6_thingItem_83 rfl (by decide) ?_
    rcases p3 with ⟨q, p4⟩ | ⟨q, -⟩
    · exact ⟨_, rfl, fun c h0 h3 h5 h9 => p1 c h0 h9, p2, Or.inl ⟨rfl, fun ns nx h k w h' d e => absurd (by rw [e]; rfl) (p4 ns nx h)⟩⟩
    · omega
  · obtain ⟨q, -⟩ | ⟨-, ns, nx, r1, r2, r3, r4⟩ := p3
    · omega
    obtain ⟨k, w, h, d, rfl⟩ := len4 r2
    rw [← hR] at r1
    obtain ⟨z1, z2, z3, z4⟩ := rdN_init r1
    have k0 := z1 k (by simp)
    have k1 := z1 w (by simp)
    have k2 := z1 h (by simp)
    have k3 := z1 d (by simp)
    have y0 := r4 0 k rfl
    have y1 := r4 1 w rfl
    have y2 := r4 2 h rfl
    have y3 := r4 3 d rfl
    rw [hR] at r1
    have bad : ¬ cTh x k w h d → ∀ ns' nx', R = some (ns', nx') → ∀ k' w' h' d', ns' = [k', w', h', d'] → ¬ cTh x k' w' h' d' := fun hb ns' nx' hh k' w' h' d' e => by
      rw [r1] at hh
      cases hh
      cases e
      exact hb
    refine PP.iload_n dX6_thingItem_15 rfl ?_
    refine PP.bipush dX6_thingItem_16 (by decide) ?_
    refine PP.icmp_eq (tgt := 82) (by first | omega | assumption | exact b2i_R _ | (rcases p3 with ⟨q, -⟩ | ⟨q, -⟩ <;> unfold R32 <;> omega) | (unfold R32; omega)) (by first | omega | assumption | exact b2i_R _ | (rcases p3 with ⟨q, -⟩ | ⟨q, -⟩ <;> unfold R32 <;> omega) | (unfold R32; omega)) dX6_thingItem_18 (by decide) (fun h18 => ?_) (fun h18 => ?_)
    · refine PP.iconst dX6_thingItem_82 ?_
      refine PP.zret dX6_thingItem_83 rfl (by first | decide | omega | exact b2i_01 _) ?_
      refine ⟨_, rfl, fun c h0 h3 h5 h9 => p1 c h0 h9, p2, Or.inl ⟨rfl, bad (fun q => ?_)⟩⟩
      obtain ⟨c1, c2, c3, c4, c5⟩ := q
      first
        | (rw [hnn] at c1; omega)
        | omega
        | (have := of_decide_eq_false (b2i_0.mp h79); omega)
        | (have := of_decide_eq_false (b2i_0.mp h62); omega)
        | (have := of_decide_eq_false (b2i_0.mp h45); omega)
    · refine PP.aload_n dX6_thingItem_21 rfl ?_
      refine PP.getfR dX6_thingItem_22 fl_X6_34 sm0 rfl ?_
      refine PP.iconst dX6_thingItem_25 ?_
      refine PP.ialoadN (n := 0) sm9 (by first | decide | omega) (by first | rfl | omega) (by first | omega | assumption | exact b2i_R _ | (rcases p3 with ⟨q, -⟩ | ⟨q, -⟩ <;> unfold R32 <;> omega) | (unfold R32; omega)) dX6_thingItem_26 ?_
      refine PP.iconst dX6_thingItem_27 ?_
      refine PP.icmp_gt (tgt := 82) (by first | omega | assumption | exact b2i_R _ | (rcases p3 with ⟨q, -⟩ | ⟨q, -⟩ <;> unfold R32 <;> omega) | (unfold R32; omega)) (by first | omega | assumption | exact b2i_R _ | (rcases p3 with ⟨q, -⟩ | ⟨q, -⟩ <;> unfold R32 <;> omega) | (unfold R32; omega)) dX6_thingItem_28 (by decide) (fun h28 => ?_) (fun h28 => ?_)
      · refine PP.iconst dX6_thingItem_82 ?_
        refine PP.zret dX6_thingItem_83 rfl (by first | decide | omega | exact b2i_01 _) ?_
        refine ⟨_, rfl, fun c h0 h3 h5 h9 => p1 c h0 h9, p2, Or.inl ⟨rfl, bad (fun q => ?_)⟩⟩
        obtain ⟨c1, c2, c3, c4, c5⟩ := q
        first
          | (rw [hnn] at c1; omega)
          | omega
          | (have := of_decide_eq_false (b2i_0.mp h79); omega)
          | (have := of_decide_eq_false (b2i_0.mp h62); omega)
          | (have := of_decide_eq_false (b2i_0.mp h45); omega)
      · refine PP.aload_n dX6_thingItem_31 rfl ?_
        refine PP.getfR dX6_thingItem_32 fl_X6_34 sm0 rfl ?_
        refine PP.iconst dX6_thingItem_35 ?_
        refine PP.ialoadN (n := 1) sm9 (by first | decide | omega) (by first | rfl | omega) (by first | omega | assumption | exact b2i_R _ | (rcases p3 with ⟨q, -⟩ | ⟨q, -⟩ <;> unfold R32 <;> omega) | (unfold R32; omega)) dX6_thingItem_36 ?_
        refine PP.i2l (by first | omega | assumption | exact b2i_R _ | (rcases p3 with ⟨q, -⟩ | ⟨q, -⟩ <;> unfold R32 <;> omega) | (unfold R32; omega)) dX6_thingItem_37 ?_
        refine PP.lconst (z := 1) dX6_thingItem_38 (by decide) ?_
        refine PP.ldc2 (z := 4) dX6_thingItem_39 bw873 ?_
        refine PP.callSi (m_in (by unfold R32; omega) (by unfold R32; omega) (by unfold R32; omega)) dX6_thingItem_42 sl_X6_70 rfl rfl (Nat.le_of_ble_eq_true rfl) (by first | exact Nat.le_of_ble_eq_true rfl | omega) ?_
        refine PP.if_eq (tgt := 82) (by first | omega | assumption | exact b2i_R _ | (rcases p3 with ⟨q, -⟩ | ⟨q, -⟩ <;> unfold R32 <;> omega) | (unfold R32; omega)) dX6_thingItem_45 (by decide) (fun h45 => ?_) (fun h45 => ?_)
        · refine PP.iconst dX6_thingItem_82 ?_
          refine PP.zret dX6_thingItem_83 rfl (by first | decide | omega | exact b2i_01 _) ?_
          refine ⟨_, rfl, fun c h0 h3 h5 h9 => p1 c h0 h9, p2, Or.inl ⟨rfl, bad (fun q => ?_)⟩⟩
          obtain ⟨c1, c2, c3, c4, c5⟩ := q
          first
            | (rw [hnn] at c1; omega)
            | omega
            | (have := of_decide_eq_false (b2i_0.mp h79); omega)
            | (have := of_decide_eq_false (b2i_0.mp h62); omega)
            | (have := of_decide_eq_false (b2i_0.mp h45); omega)
        · refine PP.aload_n dX6_thingItem_48 rfl ?_
          refine PP.getfR dX6_thingItem_49 fl_X6_34 sm0 rfl ?_
          refine PP.iconst dX6_thingItem_52 ?_
          refine PP.ialoadN (n := 2) sm9 (by first | decide | omega) (by first | rfl | omega) (by first | omega | assumption | exact b2i_R _ | (rcases p3 with ⟨q, -⟩ | ⟨q, -⟩ <;> unfold R32 <;> omega) | (unfold R32; omega)) dX6_thingItem_53 ?_
          refine PP.i2l (by first | omega | assumption | exact b2i_R _ | (rcases p3 with ⟨q, -⟩ | ⟨q, -⟩ <;> unfold R32 <;> omega) | (unfold R32; omega)) dX6_thingItem_54 ?_
          refine PP.lconst (z := 1) dX6_thingItem_55 (by decide) ?_
          refine PP.ldc2 (z := 9) dX6_thingItem_56 bw874 ?_
          refine PP.callSi (m_in (by unfold R32; omega) (by unfold R32; omega) (by unfold R32; omega)) dX6_thingItem_59 sl_X6_70 rfl rfl (Nat.le_of_ble_eq_true rfl) (by first | exact Nat.le_of_ble_eq_true rfl | omega) ?_
          refine PP.if_eq (tgt := 82) (by first | omega | assumption | exact b2i_R _ | (rcases p3 with ⟨q, -⟩ | ⟨q, -⟩ <;> unfold R32 <;> omega) | (unfold R32; omega)) dX6_thingItem_62 (by decide) (fun h62 => ?_) (fun h62 => ?_)
          · refine PP.iconst dX6_thingItem_82 ?_
            refine PP.zret dX6_thingItem_83 rfl (by first | decide | omega | exact b2i_01 _) ?_
            refine ⟨_, rfl, fun c h0 h3 h5 h9 => p1 c h0 h9, p2, Or.inl ⟨rfl, bad (fun q => ?_)⟩⟩
            obtain ⟨c1, c2, c3, c4, c5⟩ := q
            first
              | (rw [hnn] at c1; omega)
              | omega
              | (have := of_decide_eq_false (b2i_0.mp h79); omega)
              | (have := of_decide_eq_false (b2i_0.mp h62); omega)
              | (have := of_decide_eq_false (b2i_0.mp h45); omega)
          · refine PP.aload_n dX6_thingItem_65 rfl ?_
            refine PP.getfR dX6_thingItem_66 fl_X6_34 sm0 rfl ?_
            refine PP.iconst dX6_thingItem_69 ?_
            refine PP.ialoadN (n := 3) sm9 (by first | decide | omega) (by first | rfl | omega) (by first | omega | assumption | exact b2i_R _ | (rcases p3 with ⟨q, -⟩ | ⟨q, -⟩ <;> unfold R32 <;> omega) | (unfold R32; omega)) dX6_thingItem_70 ?_
            refine PP.i2l (by first | omega | assumption | exact b2i_R _ | (rcases p3 with ⟨q, -⟩ | ⟨q, -⟩ <;> unfold R32 <;> omega) | (unfold R32; omega)) dX6_thingItem_71 ?_
            refine PP.lconst (z := 1) dX6_thingItem_72 (by decide) ?_
            refine PP.ldc2 (z := 9) dX6_thingItem_73 bw874 ?_
            refine PP.callSi (m_in (by unfold R32; omega) (by unfold R32; omega) (by unfold R32; omega)) dX6_thingItem_76 sl_X6_70 rfl rfl (Nat.le_of_ble_eq_true rfl) (by first | exact Nat.le_of_ble_eq_true rfl | omega) ?_
            refine PP.if_ne (tgt := 84) (by first | omega | assumption | exact b2i_R _ | (rcases p3 with ⟨q, -⟩ | ⟨q, -⟩ <;> unfold R32 <;> omega) | (unfold R32; omega)) dX6_thingItem_79 (by decide) (fun h79 => ?_) (fun h79 => ?_)
            · have c3 := of_decide_eq_true (b2i_n.mp h45)
              have c4 := of_decide_eq_true (b2i_n.mp h62)
              have c5 := of_decide_eq_true (b2i_n.mp h79)
              refine PP.aload_n dX6_thingItem_84 rfl ?_
              refine PP.getfR dX6_thingItem_85 fl_X6_16 sm0 rfl ?_
              refine PP.iconst dX6_thingItem_88 ?_
              refine PP.iload_n dX6_thingItem_89 rfl ?_
              refine PP.iadd dX6_thingItem_90 ?_
              refine PP.aload_n dX6_thingItem_91 rfl ?_
              refine PP.getfR dX6_thingItem_92 fl_X6_34 sm0 rfl ?_
              refine PP.iconst dX6_thingItem_95 ?_
              refine PP.ialoadN (n := 0) sm9 (by first | decide | omega) (by first | rfl | omega) (by first | omega | assumption | exact b2i_R _ | (rcases p3 with ⟨q, -⟩ | ⟨q, -⟩ <;> unfold R32 <;> omega) | (unfold R32; omega)) dX6_thingItem_96 ?_
              refine PP.eqI y0 ?_
              refine PP.iastoreN (n := (4 + n)) sm3 (by first | decide | omega) (by first | rfl | omega) (by first | omega | assumption | exact b2i_R _ | (rcases p3 with ⟨q, -⟩ | ⟨q, -⟩ <;> unfold R32 <;> omega) | (unfold R32; omega)) (by first | omega | assumption | exact b2i_R _ | (rcases p3 with ⟨q, -⟩ | ⟨q, -⟩ <;> unfold R32 <;> omega) | (unfold R32; omega)) dX6_thingItem_97 ?_
              refine PP.aload_n dX6_thingItem_98 rfl ?_
              refine PP.getfR dX6_thingItem_99 fl_X6_16 sm0 rfl ?_
              refine PP.bipush dX6_thingItem_102 (by decide) ?_
              refine PP.iload_n dX6_thingItem_104 rfl ?_
              refine PP.iadd dX6_thingItem_105 ?_
              refine PP.aload_n dX6_thingItem_106 rfl ?_
              refine PP.getfR dX6_thingItem_107 fl_X6_34 sm0 rfl ?_
              refine PP.iconst dX6_thingItem_110 ?_
              refine PP.ialoadN (n := 1) sm9 (by first | decide | omega) (by first | rfl | omega) (by first | omega | assumption | exact b2i_R _ | (rcases p3 with ⟨q, -⟩ | ⟨q, -⟩ <;> unfold R32 <;> omega) | (unfold R32; omega)) dX6_thingItem_111 ?_
              refine PP.eqI (y := w) (by rw [up_ne (by decide)]; exact y1) ?_
              refine PP.iastoreN (n := (11 + n)) sm3 (by first | decide | omega) (by first | rfl | omega) (by first | omega | assumption | exact b2i_R _ | (rcases p3 with ⟨q, -⟩ | ⟨q, -⟩ <;> unfold R32 <;> omega) | (unfold R32; omega)) (by first | omega | assumption | exact b2i_R _ | (rcases p3 with ⟨q, -⟩ | ⟨q, -⟩ <;> unfold R32 <;> omega) | (unfold R32; omega)) dX6_thingItem_112 ?_
              refine PP.aload_n dX6_thingItem_113 rfl ?_
              refine PP.getfR dX6_thingItem_114 fl_X6_16 sm0 rfl ?_
              refine PP.bipush dX6_thingItem_117 (by decide) ?_
              refine PP.iload_n dX6_thingItem_119 rfl ?_
              refine PP.iadd dX6_thingItem_120 ?_
              refine PP.aload_n dX6_thingItem_121 rfl ?_
              refine PP.getfR dX6_thingItem_122 fl_X6_34 sm0 rfl ?_
              refine PP.iconst dX6_thingItem_125 ?_
              refine PP.ialoadN (n := 2) sm9 (by first | decide | omega) (by first | rfl | omega) (by first | omega | assumption | exact b2i_R _ | (rcases p3 with ⟨q, -⟩ | ⟨q, -⟩ <;> unfold R32 <;> omega) | (unfold R32; omega)) dX6_thingItem_126 ?_
              refine PP.eqI (y := h) (by rw [up_ne (by decide), up_ne (by decide)]; exact y2) ?_
              refine PP.iastoreN (n := (18 + n)) sm3 (by first | decide | omega) (by first | rfl | omega) (by first | omega | assumption | exact b2i_R _ | (rcases p3 with ⟨q, -⟩ | ⟨q, -⟩ <;> unfold R32 <;> omega) | (unfold R32; omega)) (by first | omega | assumption | exact b2i_R _ | (rcases p3 with ⟨q, -⟩ | ⟨q, -⟩ <;> unfold R32 <;> omega) | (unfold R32; omega)) dX6_thingItem_127 ?_
              refine PP.aload_n dX6_thingItem_128 rfl ?_
              refine PP.getfR dX6_thingItem_129 fl_X6_16 sm0 rfl ?_
              refine PP.bipush dX6_thingItem_132 (by decide) ?_
              refine PP.iload_n dX6_thingItem_134 rfl ?_
              refine PP.iadd dX6_thingItem_135 ?_
              refine PP.aload_n dX6_thingItem_136 rfl ?_
              refine PP.getfR dX6_thingItem_137 fl_X6_34 sm0 rfl ?_
              refine PP.iconst dX6_thingItem_140 ?_
              refine PP.ialoadN (n := 3) sm9 (by first | decide | omega) (by first | rfl | omega) (by first | omega | assumption | exact b2i_R _ | (rcases p3 with ⟨q, -⟩ | ⟨q, -⟩ <;> unfold R32 <;> omega) | (unfold R32; omega)) dX6_thingItem_141 ?_
              refine PP.eqI (y := d) (by rw [up_ne (by decide), up_ne (by decide), up_ne (by decide)]; exact y3) ?_
              refine PP.iastoreN (n := (25 + n)) sm3 (by first | decide | omega) (by first | rfl | omega) (by first | omega | assumption | exact b2i_R _ | (rcases p3 with ⟨q, -⟩ | ⟨q, -⟩ <;> unfold R32 <;> omega) | (unfold R32; omega)) (by first | omega | assumption | exact b2i_R _ | (rcases p3 with ⟨q, -⟩ | ⟨q, -⟩ <;> unfold R32 <;> omega) | (unfold R32; omega)) dX6_thingItem_142 ?_
              refine PP.aload_n dX6_thingItem_143 rfl ?_
              refine PP.getfR dX6_thingItem_144 fl_X6_16 sm0 rfl ?_
              refine PP.iconst dX6_thingItem_147 ?_
              refine PP.dup2 rfl rfl dX6_thingItem_148 ?_
              refine PP.ialoadN (n := 3) sm3 (by first | decide | omega) (by first | rfl | omega) (by first | omega | assumption | exact b2i_R _ | (rcases p3 with ⟨q, -⟩ | ⟨q, -⟩ <;> unfold R32 <;> omega) | (unfold R32; omega)) dX6_thingItem_149 ?_
              refine PP.eqI (y := (n : Int)) (by rw [up_j (by omega), up_j (by omega), up_j (by omega), up_j (by omega), p1 3 (by decide) (by decide)]; exact e3) ?_
              refine PP.iconst dX6_thingItem_150 ?_
              refine PP.iadd dX6_thingItem_151 ?_
              refine PP.iastoreN (n := 3) sm3 (by first | decide | omega) (by first | rfl | omega) (by first | omega | assumption | exact b2i_R _ | (rcases p3 with ⟨q, -⟩ | ⟨q, -⟩ <;> unfold R32 <;> omega) | (unfold R32; omega)) (by first | omega | assumption | exact b2i_R _ | (rcases p3 with ⟨q, -⟩ | ⟨q, -⟩ <;> unfold R32 <;> omega) | (unfold R32; omega)) dX6_thingItem_152 ?_
              refine PP.iconst dX6_thingItem_153 ?_
              refine PP.zret dX6_thingItem_154 rfl (by first | decide | omega | exact b2i_01 _) ?_
              refine ⟨_, rfl, fun c h0 h3 h5 h9 => by rw [up_ne h3, up_ne h3, up_ne h3, up_ne h3, up_ne h3]; exact p1 c h0 h9, fun j hj => by rw [up_ne (by decide), up_ne (by decide), up_ne (by decide), up_ne (by decide), up_ne (by decide)]; exact p2 j hj, Or.inr ⟨rfl, k, w, h, d, nx, r1, ⟨by rw [hnn]; omega, by omega, by omega, by omega, by omega⟩, by rw [up_ne (by decide), up_ne (by decide), up_ne (by decide), up_ne (by decide), up_ne (by decide)]; exact r3, fun j hj => ?_, by rw [up_ne (by decide), up_ne (by decide), up_ne (by decide), up_ne (by decide), up_ne (by decide)]; exact p1 5 (by decide) (by decide)⟩⟩
              unfold thT
              by_cases e1 : j = 3
              · subst e1; rw [up_at, uf_at]
              · rw [up_j e1, uf_ne e1]
                by_cases e2 : j = 25 + n
                · subst e2; rw [up_at, uf_at]
                · rw [up_j e2, uf_ne e2]
                  by_cases e4 : j = 18 + n
                  · subst e4; rw [up_at, uf_at]
                  · rw [up_j e4, uf_ne e4]
                    by_cases e5 : j = 11 + n
                    · subst e5; rw [up_at, uf_at]
                    · rw [up_j e5, uf_ne e5]
                      by_cases e6 : j = 4 + n
                      · subst e6; rw [up_at, uf_at]
                      · rw [up_j e6, uf_ne e6, p1 3 (by decide) (by decide)]; exact h3 j hj
            · refine PP.iconst dX6_thingItem_82 ?_
              refine PP.zret dX6_thingItem_83 rfl (by first | decide | omega | exact b2i_01 _) ?_
              refine ⟨_, rfl, fun c h0 h3 h5 h9 => p1 c h0 h9, p2, Or.inl ⟨rfl, bad (fun q => ?_)⟩⟩
              obtain ⟨c1, c2, c3, c4, c5⟩ := q
              first
                | (rw [hnn] at c1; omega)
                | omega
                | (have := of_decide_eq_false (b2i_0.mp h79); omega)
                | (have := of_decide_eq_false (b2i_0.mp h62); omega)
                | (have := of_decide_eq_false (b2i_0.mp h45); omega)
theorem m_plL {σ τ2 : Sg} {R : Option (List Int × Nat)} {T row : Nat → Int} {n t nx : Nat} {fi : Bool} {s f : Int} (wT : wfT T n) (wP : wfP T n (fun t => row (2 + t)) (fun t => row (9 + t))) (h3 : ∀ k, k < 56 → σ 3 k = T k) (h5 : ∀ k, k < 16 → σ 5 k = row k) (p1 : ∀ c, c ≠ 0 → c ≠ 9 → τ2 c = σ c) (p2 : ∀ j, j ≠ 12 → τ2 0 j = σ 0 j) (r1 : R = some ([(t : Int), s, f], nx)) (r3 : τ2 0 12 = (nx : Int)) (k1 : 0 ≤ s ∧ s ≤ 99) (k2 : 0 ≤ f ∧ f ≤ 1) (y0 : τ2 9 0 = (t : Int)) (y1 : τ2 9 1 = s) (y2 : τ2 9 2 = f) (ht : t < n) (hro : row (2 + t) < 0) (bad : ¬ cPl (T, n, row, fi) (t : Int) s f → ∀ ns' nx', R = some (ns', nx') → ∀ t' s' f', ns' = [t', s', f'] → ¬ cPl (T, n, row, fi) t' s' f') : ∀ o, o ≤ 7 → (∀ u, u < o → ¬ (0 ≤ row (2 + u) ∧ row (2 + u) < s + T (11 + t) ∧ s < row (2 + u) + T (11 + u))) → PP SHm mX6_placeItem 4 75 [vR 0, vI (s + T (11 + t)), vI (o : Int), vN] [] τ2 (RP (fun v τ => (∀ c, c ≠ 0 → c ≠ 3 → c ≠ 5 → c ≠ 9 → τ c = σ c) ∧ (∀ j, j ≠ 12 → τ 0 j = σ 0 j) ∧ ((v = 0 ∧ ∀ ns nx, R = some (ns, nx) → ∀ t s f, ns = [t, s, f] → ¬ cPl (T, n, row, fi) t s f) ∨ (v = 1 ∧ ∃ t s f nx, R = some ([t, s, f], nx) ∧ cPl (T, n, row, fi) t s f ∧ τ 0 12 = ((nx : Nat) : Int) ∧ τ 3 = σ 3 ∧ (∀ j, j < 16 → τ 5 j = uf (uf row (2 + t.toNat) s) (9 + t.toNat) f j))))) := by
  have hn := wT.2.1
  have hsl := wT.2.2.1
  have x2 := (wT.2.2.2.2.2.1 t ht).2.1
  refine loop_dn 7 ?_ ?_
  · intro hno
    have e30 : up (up τ2 5 (2 + t) s) 5 (9 + t) f 3 0 = T 0 := by rw [up_ne (by decide), up_ne (by decide), p1 3 (by decide) (by decide)]; exact h3 0 (by decide)
    have e90 : up τ2 5 (2 + t) s 9 0 = (t : Int) := by rw [up_ne (by decide)]; exact y0
    have e92 : up τ2 5 (2 + t) s 9 2 = f := by rw [up_ne (by decide)]; exact y2
    refine PP.iload_n dX6_placeItem_75 rfl ?_
    refine PP.bipush dX6_placeItem_76 (by decide) ?_
    refine PP.icmp_ge (tgt := 127) (by first | omega | (unfold R32; omega)) (by first | omega | (unfold R32; omega)) dX6_placeItem_78 (by decide) (fun h78 => ?_) (fun h78 => ?_)
    · refine PP.aload_n dX6_placeItem_127 rfl ?_
      refine PP.getfR dX6_placeItem_128 fl_X6_22 sm0 rfl ?_
      refine PP.iconst dX6_placeItem_131 ?_
      refine PP.aload_n dX6_placeItem_132 rfl ?_
      refine PP.getfR dX6_placeItem_133 fl_X6_34 sm0 rfl ?_
      refine PP.iconst dX6_placeItem_136 ?_
      refine PP.ialoadN (n := 0) sm9 (by first | decide | omega) (by first | rfl | omega) (by first | omega | (unfold R32; omega)) dX6_placeItem_137 ?_
      refine PP.eqI y0 ?_
      refine PP.iadd dX6_placeItem_138 ?_
      refine PP.aload_n dX6_placeItem_139 rfl ?_
      refine PP.getfR dX6_placeItem_140 fl_X6_34 sm0 rfl ?_
      refine PP.iconst dX6_placeItem_143 ?_
      refine PP.ialoadN (n := 1) sm9 (by first | decide | omega) (by first | rfl | omega) (by first | omega | (unfold R32; omega)) dX6_placeItem_144 ?_
      refine PP.eqI y1 ?_
      refine PP.iastoreN (n := (2 + t)) sm5 (by first | decide | omega) (by omega) (by first | omega | (unfold R32; omega)) (by first | omega | (unfold R32; omega)) dX6_placeItem_145 ?_
      refine PP.aload_n dX6_placeItem_146 rfl ?_
      refine PP.getfR dX6_placeItem_147 fl_X6_22 sm0 rfl ?_
      refine PP.bipush dX6_placeItem_150 (by decide) ?_
      refine PP.aload_n dX6_placeItem_152 rfl ?_
      refine PP.getfR dX6_placeItem_153 fl_X6_34 sm0 rfl ?_
      refine PP.iconst dX6_placeItem_156 ?_
      refine PP.ialoadN (n := 0) sm9 (by first | decide | omega) (by first | rfl | omega) (by first | omega | (unfold R32; omega)) dX6_placeItem_157 ?_
      refine PP.eqI (y := (t : Int)) e90 ?_
      refine PP.iadd dX6_placeItem_158 ?_
      refine PP.aload_n dX6_placeItem_159 rfl ?_
      refine PP.getfR dX6_placeItem_160 fl_X6_34 sm0 rfl ?_
      refine PP.iconst dX6_placeItem_163 ?_
      refine PP.ialoadN (n := 2) sm9 (by first | decide | omega) (by first | rfl | omega) (by first | omega | (unfold R32; omega)) dX6_placeItem_164 ?_
      refine PP.eqI (y := f) e92 ?_
      refine PP.iastoreN (n := (9 + t)) sm5 (by first | decide | omega) (by omega) (by first | omega | (unfold R32; omega)) (by first | omega | (unfold R32; omega)) dX6_placeItem_165 ?_
      refine PP.iload_n dX6_placeItem_166 rfl ?_
      refine PP.aload_n dX6_placeItem_167 rfl ?_
      refine PP.getfR dX6_placeItem_168 fl_X6_16 sm0 rfl ?_
      refine PP.iconst dX6_placeItem_171 ?_
      refine PP.ialoadN (n := 0) sm3 (by first | decide | omega) (by first | rfl | omega) (by first | omega | (unfold R32; omega)) dX6_placeItem_172 ?_
      refine PP.eqI (y := T 0) e30 ?_
      refine PP.icmp_gt (tgt := 180) (by first | omega | (unfold R32; omega)) (by first | omega | (unfold R32; omega)) dX6_placeItem_173 (by decide) (fun h173 => ?_) (fun h173 => ?_)
      · refine PP.iconst dX6_placeItem_180 ?_
        refine PP.zret dX6_placeItem_181 rfl (by first | decide | omega | exact b2i_01 _) ?_
        refine ⟨_, rfl, fun c h0 h3 h5 h9 => by rw [up_ne h5, up_ne h5]; exact p1 c h0 h9, fun j hj => by rw [up_ne (by decide), up_ne (by decide)]; exact p2 j hj, ?_⟩
        have hfit : s + T (11 + t) ≤ T 0 → cPl (T, n, row, fi) (t : Int) s f := fun q => ⟨by simp only []; omega, by omega, by simp only [Int.toNat_natCast]; exact hro, by
          simp only [Int.toNat_natCast]
          exact bt fitS_t ⟨q, fun u hu hh => hno u (by omega) ⟨hh.2.1, hh.2.2.1, hh.2.2.2⟩⟩⟩
        first
          | (refine Or.inr ⟨rfl, t, s, f, nx, r1, hfit (by omega), by rw [up_ne (by decide), up_ne (by decide)]; exact r3, by rw [up_ne (by decide), up_ne (by decide)]; exact p1 3 (by decide) (by decide), fun j hj => ?_⟩
             rw [Int.toNat_natCast]
             by_cases e : j = 9 + t
             · subst e; rw [up_at, uf_at]
             · rw [up_j e, uf_ne e]
               by_cases e2 : j = 2 + t
               · subst e2; rw [up_at, uf_at]
               · rw [up_j e2, uf_ne e2, p1 5 (by decide) (by decide)]; exact h5 j hj)
          | (refine Or.inl ⟨rfl, bad (fun q => ?_)⟩
             have := (fitS_t.mp q.2.2.2).1
             simp only [Int.toNat_natCast] at this
             omega)
      · refine PP.iconst dX6_placeItem_176 ?_
        refine PP.goto (tgt := 181) dX6_placeItem_177 (by decide) ?_
        refine PP.zret dX6_placeItem_181 rfl (by first | decide | omega | exact b2i_01 _) ?_
        refine ⟨_, rfl, fun c h0 h3 h5 h9 => by rw [up_ne h5, up_ne h5]; exact p1 c h0 h9, fun j hj => by rw [up_ne (by decide), up_ne (by decide)]; exact p2 j hj, ?_⟩
        have hfit : s + T (11 + t) ≤ T 0 → cPl (T, n, row, fi) (t : Int) s f := fun q => ⟨by simp only []; omega, by omega, by simp only [Int.toNat_natCast]; exact hro, by
          simp only [Int.toNat_natCast]
          exact bt fitS_t ⟨q, fun u hu hh => hno u (by omega) ⟨hh.2.1, hh.2.2.1, hh.2.2.2⟩⟩⟩
        first
          | (refine Or.inr ⟨rfl, t, s, f, nx, r1, hfit (by omega), by rw [up_ne (by decide), up_ne (by decide)]; exact r3, by rw [up_ne (by decide), up_ne (by decide)]; exact p1 3 (by decide) (by decide), fun j hj => ?_⟩
             rw [Int.toNat_natCast]
             by_cases e : j = 9 + t
             · subst e; rw [up_at, uf_at]
             · rw [up_j e, uf_ne e]
               by_cases e2 : j = 2 + t
               · subst e2; rw [up_at, uf_at]
               · rw [up_j e2, uf_ne e2, p1 5 (by decide) (by decide)]; exact h5 j hj)
          | (refine Or.inl ⟨rfl, bad (fun q => ?_)⟩
             have := (fitS_t.mp q.2.2.2).1
             simp only [Int.toNat_natCast] at this
             omega)
    · omega
  · intro o ho ih hno
    have f5 : τ2 5 (2 + o) = row (2 + o) := by rw [p1 5 (by decide) (by decide)]; exact h5 _ (by omega)
    have f3 : τ2 3 (11 + o) = T (11 + o) := by rw [p1 3 (by decide) (by decide)]; exact h3 _ (by omega)
    have hrr : row (2 + o) = -4 ∨ (o < n ∧ 0 ≤ row (2 + o) ∧ row (2 + o) + T (11 + o) ≤ T 0) := by
      by_cases e : o < n
      · rcases wP.1 o e with q | q
        · exact Or.inl q.1
        · exact Or.inr ⟨e, q.1, q.2.1⟩
      · exact Or.inl (wP.2 o (by omega) ho).1
    have hx2 : o < n → 1 ≤ T (11 + o) ∧ T (11 + o) ≤ 4 := fun e => (wT.2.2.2.2.2.1 o e).2.1
    have nx1 : ¬ (0 ≤ row (2 + o) ∧ row (2 + o) < s + T (11 + t) ∧ s < row (2 + o) + T (11 + o)) → PP SHm mX6_placeItem 4 75 [vR 0, vI (s + T (11 + t)), vI ((o : Int) + 1), vN] [] τ2 (RP (fun v τ => (∀ c, c ≠ 0 → c ≠ 3 → c ≠ 5 → c ≠ 9 → τ c = σ c) ∧ (∀ j, j ≠ 12 → τ 0 j = σ 0 j) ∧ ((v = 0 ∧ ∀ ns nx, R = some (ns, nx) → ∀ t s f, ns = [t, s, f] → ¬ cPl (T, n, row, fi) t s f) ∨ (v = 1 ∧ ∃ t s f nx, R = some ([t, s, f], nx) ∧ cPl (T, n, row, fi) t s f ∧ τ 0 12 = ((nx : Nat) : Int) ∧ τ 3 = σ 3 ∧ (∀ j, j < 16 → τ 5 j = uf (uf row (2 + t.toNat) s) (9 + t.toNat) f j))))) := by
      intro h0
      refine ih (fun u hu => ?_)
      rcases Nat.lt_or_ge u o with h | h
      · exact hno u h
      · have : u = o := by omega
        subst this
        exact h0
    refine PP.iload_n dX6_placeItem_75 rfl ?_
    refine PP.bipush dX6_placeItem_76 (by decide) ?_
    refine PP.icmp_ge (tgt := 127) (by first | omega | (unfold R32; omega)) (by first | omega | (unfold R32; omega)) dX6_placeItem_78 (by decide) (fun h78 => ?_) (fun h78 => ?_)
    · omega
    · refine PP.aload_n dX6_placeItem_81 rfl ?_
      refine PP.getfR dX6_placeItem_82 fl_X6_22 sm0 rfl ?_
      refine PP.iconst dX6_placeItem_85 ?_
      refine PP.iload_n dX6_placeItem_86 rfl ?_
      refine PP.iadd dX6_placeItem_87 ?_
      refine PP.ialoadN (n := (2 + o)) sm5 (by first | decide | omega) (by first | rfl | omega) (by first | omega | (unfold R32; omega)) dX6_placeItem_88 ?_
      refine PP.eqI f5 ?_
      refine PP.istore_n (L' := [_, _, _, _]) dX6_placeItem_89 (Nat.le_of_ble_eq_true rfl) rfl rfl ?_
      refine PP.iload_n dX6_placeItem_90 rfl ?_
      refine PP.if_lt (tgt := 121) (by first | omega | (unfold R32; omega)) dX6_placeItem_91 (by decide) (fun h91 => ?_) (fun h91 => ?_)
      · refine PP.iinc (L' := [_, _, _, _]) dX6_placeItem_121 rfl rfl rfl ?_
        refine PP.goto (tgt := 75) dX6_placeItem_124 (by decide) ?_
        refine PP.frg 3 (L' := [_, _, _, _]) rfl ?_
        first
          | exact nx1 (fun q => absurd q.1 (by omega))
          | exact nx1 (fun q => absurd q.2.1 (by omega))
          | exact nx1 (fun q => absurd q.2.2 (by omega))
      · refine PP.iload_n dX6_placeItem_94 rfl ?_
        refine PP.iload_n dX6_placeItem_95 rfl ?_
        refine PP.icmp_ge (tgt := 121) (by first | omega | (unfold R32; omega)) (by first | omega | (unfold R32; omega)) dX6_placeItem_96 (by decide) (fun h96 => ?_) (fun h96 => ?_)
        · refine PP.iinc (L' := [_, _, _, _]) dX6_placeItem_121 rfl rfl rfl ?_
          refine PP.goto (tgt := 75) dX6_placeItem_124 (by decide) ?_
          refine PP.frg 3 (L' := [_, _, _, _]) rfl ?_
          first
            | exact nx1 (fun q => absurd q.1 (by omega))
            | exact nx1 (fun q => absurd q.2.1 (by omega))
            | exact nx1 (fun q => absurd q.2.2 (by omega))
        · refine PP.aload_n dX6_placeItem_99 rfl ?_
          refine PP.getfR dX6_placeItem_100 fl_X6_34 sm0 rfl ?_
          refine PP.iconst dX6_placeItem_103 ?_
          refine PP.ialoadN (n := 1) sm9 (by first | decide | omega) (by first | rfl | omega) (by first | omega | (unfold R32; omega)) dX6_placeItem_104 ?_
          refine PP.eqI y1 ?_
          refine PP.iload_n dX6_placeItem_105 rfl ?_
          refine PP.aload_n dX6_placeItem_106 rfl ?_
          refine PP.getfR dX6_placeItem_107 fl_X6_16 sm0 rfl ?_
          refine PP.bipush dX6_placeItem_110 (by decide) ?_
          refine PP.iload_n dX6_placeItem_112 rfl ?_
          refine PP.iadd dX6_placeItem_113 ?_
          refine PP.ialoadN (n := (11 + o)) sm3 (by first | decide | omega) (by first | rfl | omega) (by first | omega | (unfold R32; omega)) dX6_placeItem_114 ?_
          refine PP.eqI f3 ?_
          refine PP.iadd dX6_placeItem_115 ?_
          refine PP.icmp_ge (tgt := 121) (by first | omega | (unfold R32; omega)) (by first | omega | (unfold R32; omega)) dX6_placeItem_116 (by decide) (fun h116 => ?_) (fun h116 => ?_)
          · refine PP.iinc (L' := [_, _, _, _]) dX6_placeItem_121 rfl rfl rfl ?_
            refine PP.goto (tgt := 75) dX6_placeItem_124 (by decide) ?_
            refine PP.frg 3 (L' := [_, _, _, _]) rfl ?_
            first
              | exact nx1 (fun q => absurd q.1 (by omega))
              | exact nx1 (fun q => absurd q.2.1 (by omega))
              | exact nx1 (fun q => absurd q.2.2 (by omega))
          · refine PP.iconst dX6_placeItem_119 ?_
            refine PP.zret dX6_placeItem_120 rfl (by first | decide | omega | exact b2i_01 _) ?_
            refine ⟨_, rfl, fun c h0 h3 h5 h9 => p1 c h0 h9, p2, Or.inl ⟨rfl, bad (fun q => ?_)⟩⟩
            have := (fitS_t.mp q.2.2.2).2 o (by simp only []; omega)
            simp only [Int.toNat_natCast] at this
            exact this ⟨fun e => by subst e; omega, by omega, by omega, by omega⟩
theorem m_placeItem {σ : Sg} {b i0 : Nat} {R : Option (List Int × Nat)} {x : RS} (hb : σ 0 0 = (b : Int)) (hb2 : b ≤ 200) (hx : ∀ j, j < b → 0 ≤ σ 1 j ∧ σ 1 j ≤ 127) (hi : σ 0 12 = (i0 : Int)) (hi2 : i0 ≤ 201) (hR : rdN (σ 1) (b - i0) i0 [] 0 0 = R) (hw : wfS x) (h3 : ∀ k, k < 56 → σ 3 k = x.1 k) (hh5 : ∀ k, k < 16 → σ 5 k = x.2.2.1 k) : OK SHm mX6_placeItem 4 [vR 0] σ (RP (fun v τ => (∀ c, c ≠ 0 → c ≠ 3 → c ≠ 5 → c ≠ 9 → τ c = σ c) ∧ (∀ j, j ≠ 12 → τ 0 j = σ 0 j) ∧ ((v = 0 ∧ ∀ ns nx, R = some (ns, nx) → ∀ t s f, ns = [t, s, f] → ¬ cPl x t s f) ∨ (v = 1 ∧ ∃ t s f nx, R = some ([t, s, f], nx) ∧ cPl x t s f ∧ τ 0 12 = ((nx : Nat) : Int) ∧ τ 3 = σ 3 ∧ (∀ j, j < 16 → τ 5 j = uf (uf x.2.2.1 (2 + t.toNat) s) (9 + t.toNat) f j))))) := by
  obtain ⟨T, n, row, fi⟩ := x
  obtain ⟨wT, wP, wr, wr1, -⟩ := hw
  simp only [] at wT wP wr wr1 h3 hh5
  have hn := wT.2.1
  have hsl := wT.2.2.1
  have e3 : σ 3 3 = (n : Int) := (h3 3 (by decide)).trans wT.1
  refine OK.enter (L' := [vR 0, vN, vN, vN]) (by decide +kernel) (by simp [ent0]) rfl ?_
  refine PP.aload_n dX6_placeItem_0 rfl ?_
  refine PP.iconst dX6_placeItem_1 ?_
  refine PP.callViP (m_numbers (many := 3) hb hb2 hx hi hi2 (by omega) hR) dX6_placeItem_2 vl_X6_91 sm0 rfl rfl rfl rfl (Nat.le_of_ble_eq_true rfl) (by first | exact Nat.le_of_ble_eq_true rfl | omega) (fun v2 τ2 hq2 => ?_)
  obtain ⟨p1, p2, p3⟩ := hq2
  refine PP.if_eq (tgt := 49) (by first | omega | assumption | exact b2i_R _ | (rcases p3 with ⟨q, -⟩ | ⟨q, -⟩ <;> unfold R32 <;> omega) | (unfold R32; omega)) dX6_placeItem_5 (by decide) (fun h5 => ?_) (fun h5 => ?_)
  · refine PP.iconst dX6_placeItem_49 ?_
    refine PP.zret dX6_placeItem_50 rfl (by decide) ?_
    rcases p3 with ⟨q, p4⟩ | ⟨q, -⟩
    · exact ⟨_, rfl, fun c h0 h3 h5 h9 => p1 c h0 h9, p2, Or.inl ⟨rfl, fun ns nx h t s f e => absurd (by rw [e]; rfl) (p4 ns nx h)⟩⟩
    · omega
  · obtain ⟨q, -⟩ | ⟨-, ns, nx, r1, r2, r3, r4⟩ := p3
    · omega
    obtain ⟨t', s, f, rfl⟩ := len3 r2
    rw [← hR] at r1
    obtain ⟨z1, z2, z3, z4⟩ := rdN_init r1
    have k0 := z1 t' (by simp)
    obtain ⟨t, rfl⟩ : ∃ t : Nat, t' = (t : Int) := ⟨t'.toNat, by omega⟩
    have k1 := z1 s (by simp)
    have k2 := z1 f (by simp)
    have y0 := r4 0 t rfl
    have y1 := r4 1 s rfl
    have y2 := r4 2 f rfl
    rw [hR] at r1
    clear z1 z2 z3 z4
    have e3' : τ2 3 3 = (n : Int) := by rw [p1 3 (by decide) (by decide)]; exact e3
    have e30 : τ2 3 0 = T 0 := by rw [p1 3 (by decide) (by decide)]; exact h3 0 (by decide)
    have bad : ¬ cPl (T, n, row, fi) (t : Int) s f → ∀ ns' nx', R = some (ns', nx') → ∀ t' s' f', ns' = [t', s', f'] → ¬ cPl (T, n, row, fi) t' s' f' := fun hb ns' nx' hh t' s' f' e => by
      rw [r1] at hh
      cases hh
      cases e
      exact hb
    refine PP.aload_n dX6_placeItem_8 rfl ?_
    refine PP.getfR dX6_placeItem_9 fl_X6_34 sm0 rfl ?_
    refine PP.iconst dX6_placeItem_12 ?_
    refine PP.ialoadN (n := 0) sm9 (by first | decide | omega) (by first | rfl | omega) (by first | omega | assumption | exact b2i_R _ | (rcases p3 with ⟨q, -⟩ | ⟨q, -⟩ <;> unfold R32 <;> omega) | (unfold R32; omega)) dX6_placeItem_13 ?_
    refine PP.aload_n dX6_placeItem_14 rfl ?_
    refine PP.getfR dX6_placeItem_15 fl_X6_16 sm0 rfl ?_
    refine PP.iconst dX6_placeItem_18 ?_
    refine PP.ialoadN (n := 3) sm3 (by first | decide | omega) (by first | rfl | omega) (by first | omega | assumption | exact b2i_R _ | (rcases p3 with ⟨q, -⟩ | ⟨q, -⟩ <;> unfold R32 <;> omega) | (unfold R32; omega)) dX6_placeItem_19 ?_
    refine PP.icmp_ge (tgt := 49) (by first | omega | assumption | exact b2i_R _ | (rcases p3 with ⟨q, -⟩ | ⟨q, -⟩ <;> unfold R32 <;> omega) | (unfold R32; omega)) (by first | omega | assumption | exact b2i_R _ | (rcases p3 with ⟨q, -⟩ | ⟨q, -⟩ <;> unfold R32 <;> omega) | (unfold R32; omega)) dX6_placeItem_20 (by decide) (fun h20 => ?_) (fun h20 => ?_)
    · refine PP.iconst dX6_placeItem_49 ?_
      refine PP.zret dX6_placeItem_50 rfl (by first | decide | omega | exact b2i_01 _) ?_
      refine ⟨_, rfl, fun c h0 h3 h5 h9 => p1 c h0 h9, p2, Or.inl ⟨rfl, bad (fun q => ?_)⟩⟩
      obtain ⟨c1, c2, c3, -⟩ := q
      simp only [Int.toNat_natCast] at c1 c3
      omega
    · refine PP.aload_n dX6_placeItem_23 rfl ?_
      refine PP.getfR dX6_placeItem_24 fl_X6_34 sm0 rfl ?_
      refine PP.iconst dX6_placeItem_27 ?_
      refine PP.ialoadN (n := 2) sm9 (by first | decide | omega) (by first | rfl | omega) (by first | omega | assumption | exact b2i_R _ | (rcases p3 with ⟨q, -⟩ | ⟨q, -⟩ <;> unfold R32 <;> omega) | (unfold R32; omega)) dX6_placeItem_28 ?_
      refine PP.iconst dX6_placeItem_29 ?_
      refine PP.icmp_gt (tgt := 49) (by first | omega | assumption | exact b2i_R _ | (rcases p3 with ⟨q, -⟩ | ⟨q, -⟩ <;> unfold R32 <;> omega) | (unfold R32; omega)) (by first | omega | assumption | exact b2i_R _ | (rcases p3 with ⟨q, -⟩ | ⟨q, -⟩ <;> unfold R32 <;> omega) | (unfold R32; omega)) dX6_placeItem_30 (by decide) (fun h30 => ?_) (fun h30 => ?_)
      · refine PP.iconst dX6_placeItem_49 ?_
        refine PP.zret dX6_placeItem_50 rfl (by first | decide | omega | exact b2i_01 _) ?_
        refine ⟨_, rfl, fun c h0 h3 h5 h9 => p1 c h0 h9, p2, Or.inl ⟨rfl, bad (fun q => ?_)⟩⟩
        obtain ⟨c1, c2, c3, -⟩ := q
        simp only [Int.toNat_natCast] at c1 c3
        omega
      · have ht : t < n := by omega
        have e5 : τ2 5 (2 + t) = row (2 + t) := by rw [p1 5 (by decide) (by decide)]; exact hh5 _ (by omega)
        have e311 : τ2 3 (11 + t) = T (11 + t) := by rw [p1 3 (by decide) (by decide)]; exact h3 _ (by omega)
        have x2 := (wT.2.2.2.2.2.1 t ht).2.1
        have hrg := wP.1 t ht
        simp only [] at hrg
        refine PP.aload_n dX6_placeItem_33 rfl ?_
        refine PP.getfR dX6_placeItem_34 fl_X6_22 sm0 rfl ?_
        refine PP.iconst dX6_placeItem_37 ?_
        refine PP.aload_n dX6_placeItem_38 rfl ?_
        refine PP.getfR dX6_placeItem_39 fl_X6_34 sm0 rfl ?_
        refine PP.iconst dX6_placeItem_42 ?_
        refine PP.ialoadN (n := 0) sm9 (by first | decide | omega) (by first | rfl | omega) (by first | omega | assumption | exact b2i_R _ | (rcases p3 with ⟨q, -⟩ | ⟨q, -⟩ <;> unfold R32 <;> omega) | (unfold R32; omega)) dX6_placeItem_43 ?_
        refine PP.iadd dX6_placeItem_44 ?_
        refine PP.ialoadN (n := (2 + t)) sm5 (by first | decide | omega) (by omega) (by first | omega | assumption | exact b2i_R _ | (rcases p3 with ⟨q, -⟩ | ⟨q, -⟩ <;> unfold R32 <;> omega) | (unfold R32; omega)) dX6_placeItem_45 ?_
        refine PP.if_lt (tgt := 51) (by first | omega | assumption | exact b2i_R _ | (rcases p3 with ⟨q, -⟩ | ⟨q, -⟩ <;> unfold R32 <;> omega) | (unfold R32; omega)) dX6_placeItem_46 (by decide) (fun h46 => ?_) (fun h46 => ?_)
        · refine PP.aload_n dX6_placeItem_51 rfl ?_
          refine PP.getfR dX6_placeItem_52 fl_X6_34 sm0 rfl ?_
          refine PP.iconst dX6_placeItem_55 ?_
          refine PP.ialoadN (n := 1) sm9 (by first | decide | omega) (by first | rfl | omega) (by first | omega | assumption | exact b2i_R _ | (rcases p3 with ⟨q, -⟩ | ⟨q, -⟩ <;> unfold R32 <;> omega) | (unfold R32; omega)) dX6_placeItem_56 ?_
          refine PP.eqI y1 ?_
          refine PP.aload_n dX6_placeItem_57 rfl ?_
          refine PP.getfR dX6_placeItem_58 fl_X6_16 sm0 rfl ?_
          refine PP.bipush dX6_placeItem_61 (by decide) ?_
          refine PP.aload_n dX6_placeItem_63 rfl ?_
          refine PP.getfR dX6_placeItem_64 fl_X6_34 sm0 rfl ?_
          refine PP.iconst dX6_placeItem_67 ?_
          refine PP.ialoadN (n := 0) sm9 (by first | decide | omega) (by first | rfl | omega) (by first | omega | assumption | exact b2i_R _ | (rcases p3 with ⟨q, -⟩ | ⟨q, -⟩ <;> unfold R32 <;> omega) | (unfold R32; omega)) dX6_placeItem_68 ?_
          refine PP.iadd dX6_placeItem_69 ?_
          refine PP.ialoadN (n := (11 + t)) sm3 (by first | decide | omega) (by omega) (by first | omega | assumption | exact b2i_R _ | (rcases p3 with ⟨q, -⟩ | ⟨q, -⟩ <;> unfold R32 <;> omega) | (unfold R32; omega)) dX6_placeItem_70 ?_
          refine PP.eqI e311 ?_
          refine PP.iadd dX6_placeItem_71 ?_
          refine PP.istore_n (L' := [_, _, _, _]) dX6_placeItem_72 (Nat.le_of_ble_eq_true rfl) rfl rfl ?_
          refine PP.iconst dX6_placeItem_73 ?_
          refine PP.istore_n (L' := [_, _, _, _]) dX6_placeItem_74 (Nat.le_of_ble_eq_true rfl) rfl rfl ?_
          exact m_plL wT wP h3 hh5 p1 p2 r1 r3 k1 (by omega) y0 y1 y2 ht (by omega) bad 0 (by omega) (fun u hu => by omega)
        · refine PP.iconst dX6_placeItem_49 ?_
          refine PP.zret dX6_placeItem_50 rfl (by first | decide | omega | exact b2i_01 _) ?_
          refine ⟨_, rfl, fun c h0 h3 h5 h9 => p1 c h0 h9, p2, Or.inl ⟨rfl, bad (fun q => ?_)⟩⟩
          obtain ⟨c1, c2, c3, -⟩ := q
          simp only [Int.toNat_natCast] at c1 c3
          omega
