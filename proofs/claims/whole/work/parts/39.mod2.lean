/-! the model: what comes clean -/
theorem m_hasRoom {σ : Sg} {n t : Nat} {T P F : Nat → Int} {s : Int} (hc : MC σ T n P F) (ht : t < n) (hs : 0 ≤ s ∧ s ≤ 20) : OK SHm mX6_hasRoom 1 [vR 0, vI (t : Int), vI s] σ (RV (b2i (fitS T n P t s)) σ) := by
  obtain ⟨hw, hP, hT, hS⟩ := id hc
  have hn7 := hw.2.1
  have hsl := hw.2.2.1
  have hmi := hw.2.2.2.1
  have har := hw.2.2.2.2.1
  have t0 := hT 0 (by decide)
  have t1 := hT 1 (by decide)
  have t2 := hT 2 (by decide)
  have t3 : σ 2 3 = (n : Int) := (hT 3 (by decide)).trans hw.1
  obtain ⟨w1, w2, w3, w4⟩ := hw.2.2.2.2.2.1 t ht
  have g1 := hT (4 + t) (by omega)
  have g2 := hT (11 + t) (by omega)
  have g3 := hT (18 + t) (by omega)
  have g4 := hT (25 + t) (by omega)
  obtain ⟨e1, e2, e3⟩ := hS t (by omega)
  have hPt := hP.1 t ht
  refine OK.enter (L' := [vR 0, vI (t : Int), vI s, vN]) (by decide +kernel) (by simp [ent0]) rfl ?_
  have key : s + T (11 + t) ≤ T 0 → ∀ o, o ≤ n → (∀ u, u < o → ¬ (¬ u = t ∧ 0 ≤ P u ∧ P u < s + T (11 + t) ∧ s < P u + T (11 + u))) → PP SHm mX6_hasRoom 1 24 [vR 0, vI (t : Int), vI s, vI (o : Int)] [] σ (RV (b2i (fitS T n P t s)) σ) := by
    intro hsz
    refine loop_dn n ?_ ?_
    · intro hno
      refine PP.iload_n dX6_hasRoom_24 rfl ?_
      refine PP.aload_n dX6_hasRoom_25 rfl ?_
      refine PP.getfR dX6_hasRoom_26 fl_X6_13 sm0 rfl ?_
      refine PP.iconst dX6_hasRoom_29 ?_
      refine PP.ialoadN (n := 3) sm2 (by first | decide | omega) (by first | rfl | omega) (by first | omega | (unfold R32; omega)) dX6_hasRoom_30 ?_
      refine PP.icmp_ge (tgt := 96) (by first | omega | (unfold R32; omega)) (by first | omega | (unfold R32; omega)) dX6_hasRoom_31 (by decide) (fun h31 => ?_) (fun h31 => ?_)
      · refine PP.iconst dX6_hasRoom_96 ?_
        refine PP.zret dX6_hasRoom_97 rfl (by first | decide | omega | exact b2i_01 _) ?_
        exact RV1 (bt fitS_t ⟨hsz, hno⟩)
      · omega
    · intro o ho ih hno
      obtain ⟨v1, v2, v3, v4⟩ := hw.2.2.2.2.2.1 o ho
      have k1 := hT (4 + o) (by omega)
      have k2 := hT (11 + o) (by omega)
      have k3 := hT (18 + o) (by omega)
      have k4 := hT (25 + o) (by omega)
      obtain ⟨f1, f2, f3⟩ := hS o (by omega)
      have hPo := hP.1 o ho
      have nx : ¬ (¬ o = t ∧ 0 ≤ P o ∧ P o < s + T (11 + t) ∧ s < P o + T (11 + o)) → PP SHm mX6_hasRoom 1 24 [vR 0, vI (t : Int), vI s, vI ((o : Int) + 1)] [] σ (RV (b2i (fitS T n P t s)) σ) := by
        intro h0
        refine ih (fun u hu => ?_)
        rcases Nat.lt_or_ge u o with h | h
        · exact hno u h
        · have : u = o := by omega
          subst this
          exact h0
      refine PP.iload_n dX6_hasRoom_24 rfl ?_
      refine PP.aload_n dX6_hasRoom_25 rfl ?_
      refine PP.getfR dX6_hasRoom_26 fl_X6_13 sm0 rfl ?_
      refine PP.iconst dX6_hasRoom_29 ?_
      refine PP.ialoadN (n := 3) sm2 (by first | decide | omega) (by first | rfl | omega) (by first | omega | (unfold R32; omega)) dX6_hasRoom_30 ?_
      refine PP.icmp_ge (tgt := 96) (by first | omega | (unfold R32; omega)) (by first | omega | (unfold R32; omega)) dX6_hasRoom_31 (by decide) (fun h31 => ?_) (fun h31 => ?_)
      · omega
      · refine PP.iload_n dX6_hasRoom_34 rfl ?_
        refine PP.iload_n dX6_hasRoom_35 rfl ?_
        refine PP.icmp_eq (tgt := 90) (by first | omega | (unfold R32; omega)) (by first | omega | (unfold R32; omega)) dX6_hasRoom_36 (by decide) (fun h36 => ?_) (fun h36 => ?_)
        · refine PP.iinc (L' := [_, _, _, _]) dX6_hasRoom_90 rfl rfl rfl ?_
          refine PP.goto (tgt := 24) dX6_hasRoom_93 (by decide) ?_
          exact nx (by omega)
        · refine PP.aload_n dX6_hasRoom_39 rfl ?_
          refine PP.getfR dX6_hasRoom_40 fl_X6_37 sm0 rfl ?_
          refine PP.iload_n dX6_hasRoom_43 rfl ?_
          refine PP.ialoadN (n := o) sm10 (by first | decide | omega) (by first | rfl | omega) (by first | omega | (unfold R32; omega)) dX6_hasRoom_44 ?_
          refine PP.if_lt (tgt := 90) (by first | omega | (unfold R32; omega)) dX6_hasRoom_45 (by decide) (fun h45 => ?_) (fun h45 => ?_)
          · refine PP.iinc (L' := [_, _, _, _]) dX6_hasRoom_90 rfl rfl rfl ?_
            refine PP.goto (tgt := 24) dX6_hasRoom_93 (by decide) ?_
            exact nx (by omega)
          · refine PP.aload_n dX6_hasRoom_48 rfl ?_
            refine PP.getfR dX6_hasRoom_49 fl_X6_37 sm0 rfl ?_
            refine PP.iload_n dX6_hasRoom_52 rfl ?_
            refine PP.ialoadN (n := o) sm10 (by first | decide | omega) (by first | rfl | omega) (by first | omega | (unfold R32; omega)) dX6_hasRoom_53 ?_
            refine PP.iload_n dX6_hasRoom_54 rfl ?_
            refine PP.aload_n dX6_hasRoom_55 rfl ?_
            refine PP.getfR dX6_hasRoom_56 fl_X6_13 sm0 rfl ?_
            refine PP.bipush dX6_hasRoom_59 (by decide) ?_
            refine PP.iload_n dX6_hasRoom_61 rfl ?_
            refine PP.iadd dX6_hasRoom_62 ?_
            refine PP.ialoadN (n := (11 + t)) sm2 (by first | decide | omega) (by first | rfl | omega) (by first | omega | (unfold R32; omega)) dX6_hasRoom_63 ?_
            refine PP.iadd dX6_hasRoom_64 ?_
            refine PP.icmp_ge (tgt := 90) (by first | omega | (unfold R32; omega)) (by first | omega | (unfold R32; omega)) dX6_hasRoom_65 (by decide) (fun h65 => ?_) (fun h65 => ?_)
            · refine PP.iinc (L' := [_, _, _, _]) dX6_hasRoom_90 rfl rfl rfl ?_
              refine PP.goto (tgt := 24) dX6_hasRoom_93 (by decide) ?_
              exact nx (by omega)
            · refine PP.iload_n dX6_hasRoom_68 rfl ?_
              refine PP.aload_n dX6_hasRoom_69 rfl ?_
              refine PP.getfR dX6_hasRoom_70 fl_X6_37 sm0 rfl ?_
              refine PP.iload_n dX6_hasRoom_73 rfl ?_
              refine PP.ialoadN (n := o) sm10 (by first | decide | omega) (by first | rfl | omega) (by first | omega | (unfold R32; omega)) dX6_hasRoom_74 ?_
              refine PP.aload_n dX6_hasRoom_75 rfl ?_
              refine PP.getfR dX6_hasRoom_76 fl_X6_13 sm0 rfl ?_
              refine PP.bipush dX6_hasRoom_79 (by decide) ?_
              refine PP.iload_n dX6_hasRoom_81 rfl ?_
              refine PP.iadd dX6_hasRoom_82 ?_
              refine PP.ialoadN (n := (11 + o)) sm2 (by first | decide | omega) (by first | rfl | omega) (by first | omega | (unfold R32; omega)) dX6_hasRoom_83 ?_
              refine PP.iadd dX6_hasRoom_84 ?_
              refine PP.icmp_ge (tgt := 90) (by first | omega | (unfold R32; omega)) (by first | omega | (unfold R32; omega)) dX6_hasRoom_85 (by decide) (fun h85 => ?_) (fun h85 => ?_)
              · refine PP.iinc (L' := [_, _, _, _]) dX6_hasRoom_90 rfl rfl rfl ?_
                refine PP.goto (tgt := 24) dX6_hasRoom_93 (by decide) ?_
                exact nx (by omega)
              · refine PP.iconst dX6_hasRoom_88 ?_
                refine PP.zret dX6_hasRoom_89 rfl (by first | decide | omega | exact b2i_01 _) ?_
                exact RV0 (bf fitS_t (fun h => h.2 o ho ⟨by omega, by omega, by omega, by omega⟩))
  refine PP.iload_n dX6_hasRoom_0 rfl ?_
  refine PP.aload_n dX6_hasRoom_1 rfl ?_
  refine PP.getfR dX6_hasRoom_2 fl_X6_13 sm0 rfl ?_
  refine PP.bipush dX6_hasRoom_5 (by decide) ?_
  refine PP.iload_n dX6_hasRoom_7 rfl ?_
  refine PP.iadd dX6_hasRoom_8 ?_
  refine PP.ialoadN (n := (11 + t)) sm2 (by first | decide | omega) (by first | rfl | omega) (by first | omega | (unfold R32; omega)) dX6_hasRoom_9 ?_
  refine PP.iadd dX6_hasRoom_10 ?_
  refine PP.aload_n dX6_hasRoom_11 rfl ?_
  refine PP.getfR dX6_hasRoom_12 fl_X6_13 sm0 rfl ?_
  refine PP.iconst dX6_hasRoom_15 ?_
  refine PP.ialoadN (n := 0) sm2 (by first | decide | omega) (by first | rfl | omega) (by first | omega | (unfold R32; omega)) dX6_hasRoom_16 ?_
  refine PP.icmp_le (tgt := 22) (by first | omega | (unfold R32; omega)) (by first | omega | (unfold R32; omega)) dX6_hasRoom_17 (by decide) (fun h17 => ?_) (fun h17 => ?_)
  · refine PP.iconst dX6_hasRoom_22 ?_
    refine PP.istore_n (L' := [_, _, _, _]) dX6_hasRoom_23 (Nat.le_of_ble_eq_true rfl) rfl rfl ?_
    exact key (by omega) 0 (by omega) (fun u hu => by omega)
  · refine PP.iconst dX6_hasRoom_20 ?_
    refine PP.zret dX6_hasRoom_21 rfl (by first | decide | omega | exact b2i_01 _) ?_
    exact RV0 (bf fitS_t (fun h => absurd h.1 (by omega)))
theorem sdS_4 (T P : Nat → Int) (t : Nat) : (P t < 0 ∧ sdS T P t = -4) ∨ (0 ≤ P t ∧ (sdS T P t = -1 ∨ sdS T P t = 1 ∨ sdS T P t = 0)) := by
  have := sd_c T P t
  omega
theorem m_looksIn {σ : Sg} {n t : Nat} {T P F : Nat → Int} (hc : MC σ T n P F) (ht : t < n) : OK SHm mX6_looksIn 1 [vR 0, vI (t : Int)] σ (RV (b2i (lkS T P F t)) σ) := by
  obtain ⟨hw, hP, hT, hS⟩ := id hc
  have hn7 := hw.2.1
  have hsl := hw.2.2.1
  have hmi := hw.2.2.2.1
  have har := hw.2.2.2.2.1
  have t0 := hT 0 (by decide)
  have t1 := hT 1 (by decide)
  have t2 := hT 2 (by decide)
  have t3 : σ 2 3 = (n : Int) := (hT 3 (by decide)).trans hw.1
  obtain ⟨w1, w2, w3, w4⟩ := hw.2.2.2.2.2.1 t ht
  have g1 := hT (4 + t) (by omega)
  have g2 := hT (11 + t) (by omega)
  have g3 := hT (18 + t) (by omega)
  have g4 := hT (25 + t) (by omega)
  obtain ⟨e1, e2, e3⟩ := hS t (by omega)
  have hPt := hP.1 t ht
  have e4 := sdS_4 T P t
  refine OK.enter (L' := [vR 0, vI (t : Int)]) (by decide +kernel) (by simp [ent0]) rfl ?_
  refine PP.aload_n dX6_looksIn_0 rfl ?_
  refine PP.getfR dX6_looksIn_1 fl_X6_43 sm0 rfl ?_
  refine PP.iload_n dX6_looksIn_4 rfl ?_
  refine PP.ialoadN (n := t) sm12 (by first | decide | omega) (by first | rfl | omega) (by first | omega | (unfold R32; omega)) dX6_looksIn_5 ?_
  refine PP.if_eq (tgt := 48) (by first | omega | (unfold R32; omega)) dX6_looksIn_6 (by decide) (fun h6 => ?_) (fun h6 => ?_)
  · refine PP.iconst dX6_looksIn_48 ?_
    refine PP.goto (tgt := 53) dX6_looksIn_49 (by decide) ?_
    refine PP.zret dX6_looksIn_53 rfl (by first | decide | omega | exact b2i_01 _) ?_
    first
    | exact RV1 (bt lkS_t (by omega))
    | exact RV0 (bf lkS_t (by omega))
  · refine PP.aload_n dX6_looksIn_9 rfl ?_
    refine PP.getfR dX6_looksIn_10 fl_X6_43 sm0 rfl ?_
    refine PP.iload_n dX6_looksIn_13 rfl ?_
    refine PP.ialoadN (n := t) sm12 (by first | decide | omega) (by first | rfl | omega) (by first | omega | (unfold R32; omega)) dX6_looksIn_14 ?_
    refine PP.iconst dX6_looksIn_15 ?_
    refine PP.icmp_ne (tgt := 29) (by first | omega | (unfold R32; omega)) (by first | omega | (unfold R32; omega)) dX6_looksIn_16 (by decide) (fun h16 => ?_) (fun h16 => ?_)
    · refine PP.aload_n dX6_looksIn_29 rfl ?_
      refine PP.getfR dX6_looksIn_30 fl_X6_43 sm0 rfl ?_
      refine PP.iload_n dX6_looksIn_33 rfl ?_
      refine PP.ialoadN (n := t) sm12 (by first | decide | omega) (by first | rfl | omega) (by first | omega | (unfold R32; omega)) dX6_looksIn_34 ?_
      refine PP.iconst dX6_looksIn_35 ?_
      refine PP.icmp_ne (tgt := 52) (by first | omega | (unfold R32; omega)) (by first | omega | (unfold R32; omega)) dX6_looksIn_36 (by decide) (fun h36 => ?_) (fun h36 => ?_)
      · refine PP.iconst dX6_looksIn_52 ?_
        refine PP.zret dX6_looksIn_53 rfl (by first | decide | omega | exact b2i_01 _) ?_
        first
        | exact RV1 (bt lkS_t (by omega))
        | exact RV0 (bf lkS_t (by omega))
      · refine PP.aload_n dX6_looksIn_39 rfl ?_
        refine PP.getfR dX6_looksIn_40 fl_X6_40 sm0 rfl ?_
        refine PP.iload_n dX6_looksIn_43 rfl ?_
        refine PP.ialoadN (n := t) sm11 (by first | decide | omega) (by first | rfl | omega) (by first | omega | (unfold R32; omega)) dX6_looksIn_44 ?_
        refine PP.if_ne (tgt := 52) (by first | omega | (unfold R32; omega)) dX6_looksIn_45 (by decide) (fun h45 => ?_) (fun h45 => ?_)
        · refine PP.iconst dX6_looksIn_52 ?_
          refine PP.zret dX6_looksIn_53 rfl (by first | decide | omega | exact b2i_01 _) ?_
          first
          | exact RV1 (bt lkS_t (by omega))
          | exact RV0 (bf lkS_t (by omega))
        · refine PP.iconst dX6_looksIn_48 ?_
          refine PP.goto (tgt := 53) dX6_looksIn_49 (by decide) ?_
          refine PP.zret dX6_looksIn_53 rfl (by first | decide | omega | exact b2i_01 _) ?_
          first
          | exact RV1 (bt lkS_t (by omega))
          | exact RV0 (bf lkS_t (by omega))
    · refine PP.aload_n dX6_looksIn_19 rfl ?_
      refine PP.getfR dX6_looksIn_20 fl_X6_40 sm0 rfl ?_
      refine PP.iload_n dX6_looksIn_23 rfl ?_
      refine PP.ialoadN (n := t) sm11 (by first | decide | omega) (by first | rfl | omega) (by first | omega | (unfold R32; omega)) dX6_looksIn_24 ?_
      refine PP.iconst dX6_looksIn_25 ?_
      refine PP.icmp_eq (tgt := 48) (by first | omega | (unfold R32; omega)) (by first | omega | (unfold R32; omega)) dX6_looksIn_26 (by decide) (fun h26 => ?_) (fun h26 => ?_)
      · refine PP.iconst dX6_looksIn_48 ?_
        refine PP.goto (tgt := 53) dX6_looksIn_49 (by decide) ?_
        refine PP.zret dX6_looksIn_53 rfl (by first | decide | omega | exact b2i_01 _) ?_
        first
        | exact RV1 (bt lkS_t (by omega))
        | exact RV0 (bf lkS_t (by omega))
      · refine PP.aload_n dX6_looksIn_29 rfl ?_
        refine PP.getfR dX6_looksIn_30 fl_X6_43 sm0 rfl ?_
        refine PP.iload_n dX6_looksIn_33 rfl ?_
        refine PP.ialoadN (n := t) sm12 (by first | decide | omega) (by first | rfl | omega) (by first | omega | (unfold R32; omega)) dX6_looksIn_34 ?_
        refine PP.iconst dX6_looksIn_35 ?_
        refine PP.icmp_ne (tgt := 52) (by first | omega | (unfold R32; omega)) (by first | omega | (unfold R32; omega)) dX6_looksIn_36 (by decide) (fun h36 => ?_) (fun h36 => ?_)
        · refine PP.iconst dX6_looksIn_52 ?_
          refine PP.zret dX6_looksIn_53 rfl (by first | decide | omega | exact b2i_01 _) ?_
          first
          | exact RV1 (bt lkS_t (by omega))
          | exact RV0 (bf lkS_t (by omega))
        · refine PP.aload_n dX6_looksIn_39 rfl ?_
          refine PP.getfR dX6_looksIn_40 fl_X6_40 sm0 rfl ?_
          refine PP.iload_n dX6_looksIn_43 rfl ?_
          refine PP.ialoadN (n := t) sm11 (by first | decide | omega) (by first | rfl | omega) (by first | omega | (unfold R32; omega)) dX6_looksIn_44 ?_
          refine PP.if_ne (tgt := 52) (by first | omega | (unfold R32; omega)) dX6_looksIn_45 (by decide) (fun h45 => ?_) (fun h45 => ?_)
          · refine PP.iconst dX6_looksIn_52 ?_
            refine PP.zret dX6_looksIn_53 rfl (by first | decide | omega | exact b2i_01 _) ?_
            first
            | exact RV1 (bt lkS_t (by omega))
            | exact RV0 (bf lkS_t (by omega))
          · refine PP.iconst dX6_looksIn_48 ?_
            refine PP.goto (tgt := 53) dX6_looksIn_49 (by decide) ?_
            refine PP.zret dX6_looksIn_53 rfl (by first | decide | omega | exact b2i_01 _) ?_
            first
            | exact RV1 (bt lkS_t (by omega))
            | exact RV0 (bf lkS_t (by omega))
theorem m_strikes {σ : Sg} {n t : Nat} {T P F : Nat → Int} (hc : MC σ T n P F) (ht : t < n) : OK SHm mX6_strikes 1 [vR 0, vI (t : Int)] σ (RV (b2i (stS T P t)) σ) := by
  obtain ⟨hw, hP, hT, hS⟩ := id hc
  have hn7 := hw.2.1
  have hsl := hw.2.2.1
  have hmi := hw.2.2.2.1
  have har := hw.2.2.2.2.1
  have t0 := hT 0 (by decide)
  have t1 := hT 1 (by decide)
  have t2 := hT 2 (by decide)
  have t3 : σ 2 3 = (n : Int) := (hT 3 (by decide)).trans hw.1
  obtain ⟨w1, w2, w3, w4⟩ := hw.2.2.2.2.2.1 t ht
  have g1 := hT (4 + t) (by omega)
  have g2 := hT (11 + t) (by omega)
  have g3 := hT (18 + t) (by omega)
  have g4 := hT (25 + t) (by omega)
  obtain ⟨e1, e2, e3⟩ := hS t (by omega)
  have hPt := hP.1 t ht
  have hk : stS T P t = true ↔ (T (4 + t) = 3 ∧ T 2 < T (18 + t) ∧ 0 ≤ P t) := by simp [stS, kstS, and_assoc]
  refine OK.enter (L' := [vR 0, vI (t : Int)]) (by decide +kernel) (by simp [ent0]) rfl ?_
  refine PP.aload_n dX6_strikes_0 rfl ?_
  refine PP.getfR dX6_strikes_1 fl_X6_13 sm0 rfl ?_
  refine PP.iconst dX6_strikes_4 ?_
  refine PP.iload_n dX6_strikes_5 rfl ?_
  refine PP.iadd dX6_strikes_6 ?_
  refine PP.ialoadN (n := (4 + t)) sm2 (by first | decide | omega) (by first | rfl | omega) (by first | omega | (unfold R32; omega)) dX6_strikes_7 ?_
  refine PP.iconst dX6_strikes_8 ?_
  refine PP.icmp_ne (tgt := 43) (by first | omega | (unfold R32; omega)) (by first | omega | (unfold R32; omega)) dX6_strikes_9 (by decide) (fun h9 => ?_) (fun h9 => ?_)
  · refine PP.iconst dX6_strikes_43 ?_
    refine PP.zret dX6_strikes_44 rfl (by first | decide | omega | exact b2i_01 _) ?_
    first
    | exact RV1 (bt hk (by omega))
    | exact RV0 (bf hk (by omega))
  · refine PP.aload_n dX6_strikes_12 rfl ?_
    refine PP.getfR dX6_strikes_13 fl_X6_37 sm0 rfl ?_
    refine PP.iload_n dX6_strikes_16 rfl ?_
    refine PP.ialoadN (n := t) sm10 (by first | decide | omega) (by first | rfl | omega) (by first | omega | (unfold R32; omega)) dX6_strikes_17 ?_
    refine PP.if_lt (tgt := 43) (by first | omega | (unfold R32; omega)) dX6_strikes_18 (by decide) (fun h18 => ?_) (fun h18 => ?_)
    · refine PP.iconst dX6_strikes_43 ?_
      refine PP.zret dX6_strikes_44 rfl (by first | decide | omega | exact b2i_01 _) ?_
      first
      | exact RV1 (bt hk (by omega))
      | exact RV0 (bf hk (by omega))
    · refine PP.aload_n dX6_strikes_21 rfl ?_
      refine PP.getfR dX6_strikes_22 fl_X6_13 sm0 rfl ?_
      refine PP.bipush dX6_strikes_25 (by decide) ?_
      refine PP.iload_n dX6_strikes_27 rfl ?_
      refine PP.iadd dX6_strikes_28 ?_
      refine PP.ialoadN (n := (18 + t)) sm2 (by first | decide | omega) (by first | rfl | omega) (by first | omega | (unfold R32; omega)) dX6_strikes_29 ?_
      refine PP.aload_n dX6_strikes_30 rfl ?_
      refine PP.getfR dX6_strikes_31 fl_X6_13 sm0 rfl ?_
      refine PP.iconst dX6_strikes_34 ?_
      refine PP.ialoadN (n := 2) sm2 (by first | decide | omega) (by first | rfl | omega) (by first | omega | (unfold R32; omega)) dX6_strikes_35 ?_
      refine PP.icmp_le (tgt := 43) (by first | omega | (unfold R32; omega)) (by first | omega | (unfold R32; omega)) dX6_strikes_36 (by decide) (fun h36 => ?_) (fun h36 => ?_)
      · refine PP.iconst dX6_strikes_43 ?_
        refine PP.zret dX6_strikes_44 rfl (by first | decide | omega | exact b2i_01 _) ?_
        first
        | exact RV1 (bt hk (by omega))
        | exact RV0 (bf hk (by omega))
      · refine PP.iconst dX6_strikes_39 ?_
        refine PP.goto (tgt := 44) dX6_strikes_40 (by decide) ?_
        refine PP.zret dX6_strikes_44 rfl (by first | decide | omega | exact b2i_01 _) ?_
        first
        | exact RV1 (bt hk (by omega))
        | exact RV0 (bf hk (by omega))
theorem m_touches {σ : Sg} {n t : Nat} {T P F : Nat → Int} (hc : MC σ T n P F) (ht : t < n) : OK SHm mX6_touches 1 [vR 0, vI (t : Int)] σ (RV (b2i (tcS T n P t)) σ) := by
  obtain ⟨hw, hP, hT, hS⟩ := id hc
  have hn7 := hw.2.1
  have hsl := hw.2.2.1
  have hmi := hw.2.2.2.1
  have har := hw.2.2.2.2.1
  have t0 := hT 0 (by decide)
  have t1 := hT 1 (by decide)
  have t2 := hT 2 (by decide)
  have t3 : σ 2 3 = (n : Int) := (hT 3 (by decide)).trans hw.1
  obtain ⟨w1, w2, w3, w4⟩ := hw.2.2.2.2.2.1 t ht
  have g1 := hT (4 + t) (by omega)
  have g2 := hT (11 + t) (by omega)
  have g3 := hT (18 + t) (by omega)
  have g4 := hT (25 + t) (by omega)
  obtain ⟨e1, e2, e3⟩ := hS t (by omega)
  have hPt := hP.1 t ht
  refine OK.enter (L' := [vR 0, vI (t : Int), vN, vN]) (by decide +kernel) (by simp [ent0]) rfl ?_
  have key : ∀ o, o ≤ n → (∀ u, u < o → ¬ (¬ u = t ∧ T (4 + u) = 2 ∧ 0 ≤ P u ∧ (P u + T (11 + u) = P t ∨ P t + T (11 + t) = P u))) → PP SHm mX6_touches 1 2 [vR 0, vI (t : Int), vI (o : Int), vN] [] σ (RV (b2i (tcS T n P t)) σ) := by
    refine loop_dn n ?_ ?_
    · intro hno
      refine PP.iload_n dX6_touches_2 rfl ?_
      refine PP.aload_n dX6_touches_3 rfl ?_
      refine PP.getfR dX6_touches_4 fl_X6_13 sm0 rfl ?_
      refine PP.iconst dX6_touches_7 ?_
      refine PP.ialoadN (n := 3) sm2 (by first | decide | omega) (by first | rfl | omega) (by first | omega | (unfold R32; omega)) dX6_touches_8 ?_
      refine PP.icmp_ge (tgt := 106) (by first | omega | (unfold R32; omega)) (by first | omega | (unfold R32; omega)) dX6_touches_9 (by decide) (fun h9 => ?_) (fun h9 => ?_)
      · refine PP.iconst dX6_touches_106 ?_
        refine PP.zret dX6_touches_107 rfl (by first | decide | omega | exact b2i_01 _) ?_
        exact RV0 (bf tcS_t (fun ⟨u, hu, h⟩ => hno u hu h))
      · omega
    · intro o ho ih hno
      obtain ⟨v1, v2, v3, v4⟩ := hw.2.2.2.2.2.1 o ho
      have k1 := hT (4 + o) (by omega)
      have k2 := hT (11 + o) (by omega)
      have k3 := hT (18 + o) (by omega)
      have k4 := hT (25 + o) (by omega)
      obtain ⟨f1, f2, f3⟩ := hS o (by omega)
      have hPo := hP.1 o ho
      have nx : ¬ (¬ o = t ∧ T (4 + o) = 2 ∧ 0 ≤ P o ∧ (P o + T (11 + o) = P t ∨ P t + T (11 + t) = P o)) → PP SHm mX6_touches 1 2 [vR 0, vI (t : Int), vI ((o : Int) + 1), vN] [] σ (RV (b2i (tcS T n P t)) σ) := by
        intro h0
        refine ih (fun u hu => ?_)
        rcases Nat.lt_or_ge u o with h | h
        · exact hno u h
        · have : u = o := by omega
          subst this
          exact h0
      refine PP.iload_n dX6_touches_2 rfl ?_
      refine PP.aload_n dX6_touches_3 rfl ?_
      refine PP.getfR dX6_touches_4 fl_X6_13 sm0 rfl ?_
      refine PP.iconst dX6_touches_7 ?_
      refine PP.ialoadN (n := 3) sm2 (by first | decide | omega) (by first | rfl | omega) (by first | omega | (unfold R32; omega)) dX6_touches_8 ?_
      refine PP.icmp_ge (tgt := 106) (by first | omega | (unfold R32; omega)) (by first | omega | (unfold R32; omega)) dX6_touches_9 (by decide) (fun h9 => ?_) (fun h9 => ?_)
      · omega
      · refine PP.iload_n dX6_touches_12 rfl ?_
        refine PP.iload_n dX6_touches_13 rfl ?_
        refine PP.icmp_eq (tgt := 42) (by first | omega | (unfold R32; omega)) (by first | omega | (unfold R32; omega)) dX6_touches_14 (by decide) (fun h14 => ?_) (fun h14 => ?_)
        · refine PP.iconst dX6_touches_42 ?_
          refine PP.istore_n (L' := [_, _, _, _]) dX6_touches_43 (Nat.le_of_ble_eq_true rfl) rfl rfl ?_
          refine PP.iload_n dX6_touches_44 rfl ?_
          refine PP.if_eq (tgt := 100) (by first | omega | (unfold R32; omega)) dX6_touches_45 (by decide) (fun h45 => ?_) (fun h45 => ?_)
          · refine PP.iinc (L' := [_, _, _, _]) dX6_touches_100 rfl rfl rfl ?_
            refine PP.goto (tgt := 2) dX6_touches_103 (by decide) ?_
            refine PP.frg 3 (L' := [_, _, _, _]) rfl ?_
            exact nx (by omega)
          · refine PP.aload_n dX6_touches_48 rfl ?_
            refine PP.getfR dX6_touches_49 fl_X6_37 sm0 rfl ?_
            refine PP.iload_n dX6_touches_52 rfl ?_
            refine PP.ialoadN (n := o) sm10 (by first | decide | omega) (by first | rfl | omega) (by first | omega | (unfold R32; omega)) dX6_touches_53 ?_
            refine PP.aload_n dX6_touches_54 rfl ?_
            refine PP.getfR dX6_touches_55 fl_X6_13 sm0 rfl ?_
            refine PP.bipush dX6_touches_58 (by decide) ?_
            refine PP.iload_n dX6_touches_60 rfl ?_
            refine PP.iadd dX6_touches_61 ?_
            refine PP.ialoadN (n := (11 + o)) sm2 (by first | decide | omega) (by first | rfl | omega) (by first | omega | (unfold R32; omega)) dX6_touches_62 ?_
            refine PP.iadd dX6_touches_63 ?_
            refine PP.aload_n dX6_touches_64 rfl ?_
            refine PP.getfR dX6_touches_65 fl_X6_37 sm0 rfl ?_
            refine PP.iload_n dX6_touches_68 rfl ?_
            refine PP.ialoadN (n := t) sm10 (by first | decide | omega) (by first | rfl | omega) (by first | omega | (unfold R32; omega)) dX6_touches_69 ?_
            refine PP.icmp_eq (tgt := 98) (by first | omega | (unfold R32; omega)) (by first | omega | (unfold R32; omega)) dX6_touches_70 (by decide) (fun h70 => ?_) (fun h70 => ?_)
            · refine PP.iconst dX6_touches_98 ?_
              refine PP.zret dX6_touches_99 rfl (by first | decide | omega | exact b2i_01 _) ?_
              exact RV1 (bt tcS_t ⟨o, ho, by omega, by omega, by omega, by omega⟩)
            · refine PP.aload_n dX6_touches_73 rfl ?_
              refine PP.getfR dX6_touches_74 fl_X6_37 sm0 rfl ?_
              refine PP.iload_n dX6_touches_77 rfl ?_
              refine PP.ialoadN (n := t) sm10 (by first | decide | omega) (by first | rfl | omega) (by first | omega | (unfold R32; omega)) dX6_touches_78 ?_
              refine PP.aload_n dX6_touches_79 rfl ?_
              refine PP.getfR dX6_touches_80 fl_X6_13 sm0 rfl ?_
              refine PP.bipush dX6_touches_83 (by decide) ?_
              refine PP.iload_n dX6_touches_85 rfl ?_
              refine PP.iadd dX6_touches_86 ?_
              refine PP.ialoadN (n := (11 + t)) sm2 (by first | decide | omega) (by first | rfl | omega) (by first | omega | (unfold R32; omega)) dX6_touches_87 ?_
              refine PP.iadd dX6_touches_88 ?_
              refine PP.aload_n dX6_touches_89 rfl ?_
              refine PP.getfR dX6_touches_90 fl_X6_37 sm0 rfl ?_
              refine PP.iload_n dX6_touches_93 rfl ?_
              refine PP.ialoadN (n := o) sm10 (by first | decide | omega) (by first | rfl | omega) (by first | omega | (unfold R32; omega)) dX6_touches_94 ?_
              refine PP.icmp_ne (tgt := 100) (by first | omega | (unfold R32; omega)) (by first | omega | (unfold R32; omega)) dX6_touches_95 (by decide) (fun h95 => ?_) (fun h95 => ?_)
              · refine PP.iinc (L' := [_, _, _, _]) dX6_touches_100 rfl rfl rfl ?_
                refine PP.goto (tgt := 2) dX6_touches_103 (by decide) ?_
                refine PP.frg 3 (L' := [_, _, _, _]) rfl ?_
                exact nx (by omega)
              · refine PP.iconst dX6_touches_98 ?_
                refine PP.zret dX6_touches_99 rfl (by first | decide | omega | exact b2i_01 _) ?_
                exact RV1 (bt tcS_t ⟨o, ho, by omega, by omega, by omega, by omega⟩)
        · refine PP.aload_n dX6_touches_17 rfl ?_
          refine PP.getfR dX6_touches_18 fl_X6_13 sm0 rfl ?_
          refine PP.iconst dX6_touches_21 ?_
          refine PP.iload_n dX6_touches_22 rfl ?_
          refine PP.iadd dX6_touches_23 ?_
          refine PP.ialoadN (n := (4 + o)) sm2 (by first | decide | omega) (by first | rfl | omega) (by first | omega | (unfold R32; omega)) dX6_touches_24 ?_
          refine PP.iconst dX6_touches_25 ?_
          refine PP.icmp_ne (tgt := 42) (by first | omega | (unfold R32; omega)) (by first | omega | (unfold R32; omega)) dX6_touches_26 (by decide) (fun h26 => ?_) (fun h26 => ?_)
          · refine PP.iconst dX6_touches_42 ?_
            refine PP.istore_n (L' := [_, _, _, _]) dX6_touches_43 (Nat.le_of_ble_eq_true rfl) rfl rfl ?_
            refine PP.iload_n dX6_touches_44 rfl ?_
            refine PP.if_eq (tgt := 100) (by first | omega | (unfold R32; omega)) dX6_touches_45 (by decide) (fun h45 => ?_) (fun h45 => ?_)
            · refine PP.iinc (L' := [_, _, _, _]) dX6_touches_100 rfl rfl rfl ?_
              refine PP.goto (tgt := 2) dX6_touches_103 (by decide) ?_
              refine PP.frg 3 (L' := [_, _, _, _]) rfl ?_
              exact nx (by omega)
            · refine PP.aload_n dX6_touches_48 rfl ?_
              refine PP.getfR dX6_touches_49 fl_X6_37 sm0 rfl ?_
              refine PP.iload_n dX6_touches_52 rfl ?_
              refine PP.ialoadN (n := o) sm10 (by first | decide | omega) (by first | rfl | omega) (by first | omega | (unfold R32; omega)) dX6_touches_53 ?_
              refine PP.aload_n dX6_touches_54 rfl ?_
              refine PP.getfR dX6_touches_55 fl_X6_13 sm0 rfl ?_
              refine PP.bipush dX6_touches_58 (by decide) ?_
              refine PP.iload_n dX6_touches_60 rfl ?_
              refine PP.iadd dX6_touches_61 ?_
              refine PP.ialoadN (n := (11 + o)) sm2 (by first | decide | omega) (by first | rfl | omega) (by first | omega | (unfold R32; omega)) dX6_touches_62 ?_
              refine PP.iadd dX6_touches_63 ?_
              refine PP.aload_n dX6_touches_64 rfl ?_
              refine PP.getfR dX6_touches_65 fl_X6_37 sm0 rfl ?_
              refine PP.iload_n dX6_touches_68 rfl ?_
              refine PP.ialoadN (n := t) sm10 (by first | decide | omega) (by first | rfl | omega) (by first | omega | (unfold R32; omega)) dX6_touches_69 ?_
              refine PP.icmp_eq (tgt := 98) (by first | omega | (unfold R32; omega)) (by first | omega | (unfold R32; omega)) dX6_touches_70 (by decide) (fun h70 => ?_) (fun h70 => ?_)
              · refine PP.iconst dX6_touches_98 ?_
                refine PP.zret dX6_touches_99 rfl (by first | decide | omega | exact b2i_01 _) ?_
                exact RV1 (bt tcS_t ⟨o, ho, by omega, by omega, by omega, by omega⟩)
              · refine PP.aload_n dX6_touches_73 rfl ?_
                refine PP.getfR dX6_touches_74 fl_X6_37 sm0 rfl ?_
                refine PP.iload_n dX6_touches_77 rfl ?_
                refine PP.ialoadN (n := t) sm10 (by first | decide | omega) (by first | rfl | omega) (by first | omega | (unfold R32; omega)) dX6_touches_78 ?_
                refine PP.aload_n dX6_touches_79 rfl ?_
                refine PP.getfR dX6_touches_80 fl_X6_13 sm0 rfl ?_
                refine PP.bipush dX6_touches_83 (by decide) ?_
                refine PP.iload_n dX6_touches_85 rfl ?_
                refine PP.iadd dX6_touches_86 ?_
                refine PP.ialoadN (n := (11 + t)) sm2 (by first | decide | omega) (by first | rfl | omega) (by first | omega | (unfold R32; omega)) dX6_touches_87 ?_
                refine PP.iadd dX6_touches_88 ?_
                refine PP.aload_n dX6_touches_89 rfl ?_
                refine PP.getfR dX6_touches_90 fl_X6_37 sm0 rfl ?_
                refine PP.iload_n dX6_touches_93 rfl ?_
                refine PP.ialoadN (n := o) sm10 (by first | decide | omega) (by first | rfl | omega) (by first | omega | (unfold R32; omega)) dX6_touches_94 ?_
                refine PP.icmp_ne (tgt := 100) (by first | omega | (unfold R32; omega)) (by first | omega | (unfold R32; omega)) dX6_touches_95 (by decide) (fun h95 => ?_) (fun h95 => ?_)
                · refine PP.iinc (L' := [_, _, _, _]) dX6_touches_100 rfl rfl rfl ?_
                  refine PP.goto (tgt := 2) dX6_touches_103 (by decide) ?_
                  refine PP.frg 3 (L' := [_, _, _, _]) rfl ?_
                  exact nx (by omega)
                · refine PP.iconst dX6_touches_98 ?_
                  refine PP.zret dX6_touches_99 rfl (by first | decide | omega | exact b2i_01 _) ?_
                  exact RV1 (bt tcS_t ⟨o, ho, by omega, by omega, by omega, by omega⟩)
          · refine PP.aload_n dX6_touches_29 rfl ?_
            refine PP.getfR dX6_touches_30 fl_X6_37 sm0 rfl ?_
            refine PP.iload_n dX6_touches_33 rfl ?_
            refine PP.ialoadN (n := o) sm10 (by first | decide | omega) (by first | rfl | omega) (by first | omega | (unfold R32; omega)) dX6_touches_34 ?_
            refine PP.if_lt (tgt := 42) (by first | omega | (unfold R32; omega)) dX6_touches_35 (by decide) (fun h35 => ?_) (fun h35 => ?_)
            · refine PP.iconst dX6_touches_42 ?_
              refine PP.istore_n (L' := [_, _, _, _]) dX6_touches_43 (Nat.le_of_ble_eq_true rfl) rfl rfl ?_
              refine PP.iload_n dX6_touches_44 rfl ?_
              refine PP.if_eq (tgt := 100) (by first | omega | (unfold R32; omega)) dX6_touches_45 (by decide) (fun h45 => ?_) (fun h45 => ?_)
              · refine PP.iinc (L' := [_, _, _, _]) dX6_touches_100 rfl rfl rfl ?_
                refine PP.goto (tgt := 2) dX6_touches_103 (by decide) ?_
                refine PP.frg 3 (L' := [_, _, _, _]) rfl ?_
                exact nx (by omega)
              · refine PP.aload_n dX6_touches_48 rfl ?_
                refine PP.getfR dX6_touches_49 fl_X6_37 sm0 rfl ?_
                refine PP.iload_n dX6_touches_52 rfl ?_
                refine PP.ialoadN (n := o) sm10 (by first | decide | omega) (by first | rfl | omega) (by first | omega | (unfold R32; omega)) dX6_touches_53 ?_
                refine PP.aload_n dX6_touches_54 rfl ?_
                refine PP.getfR dX6_touches_55 fl_X6_13 sm0 rfl ?_
                refine PP.bipush dX6_touches_58 (by decide) ?_
                refine PP.iload_n dX6_touches_60 rfl ?_
                refine PP.iadd dX6_touches_61 ?_
                refine PP.ialoadN (n := (11 + o)) sm2 (by first | decide | omega) (by first | rfl | omega) (by first | omega | (unfold R32; omega)) dX6_touches_62 ?_
                refine PP.iadd dX6_touches_63 ?_
                refine PP.aload_n dX6_touches_64 rfl ?_
                refine PP.getfR dX6_touches_65 fl_X6_37 sm0 rfl ?_
                refine PP.iload_n dX6_touches_68 rfl ?_
                refine PP.ialoadN (n := t) sm10 (by first | decide | omega) (by first | rfl | omega) (by first | omega | (unfold R32; omega)) dX6_touches_69 ?_
                refine PP.icmp_eq (tgt := 98) (by first | omega | (unfold R32; omega)) (by first | omega | (unfold R32; omega)) dX6_touches_70 (by decide) (fun h70 => ?_) (fun h70 => ?_)
                · refine PP.iconst dX6_touches_98 ?_
                  refine PP.zret dX6_touches_99 rfl (by first | decide | omega | exact b2i_01 _) ?_
                  exact RV1 (bt tcS_t ⟨o, ho, by omega, by omega, by omega, by omega⟩)
                · refine PP.aload_n dX6_touches_73 rfl ?_
                  refine PP.getfR dX6_touches_74 fl_X6_37 sm0 rfl ?_
                  refine PP.iload_n dX6_touches_77 rfl ?_
                  refine PP.ialoadN (n := t) sm10 (by first | decide | omega) (by first | rfl | omega) (by first | omega | (unfold R32; omega)) dX6_touches_78 ?_
                  refine PP.aload_n dX6_touches_79 rfl ?_
                  refine PP.getfR dX6_touches_80 fl_X6_13 sm0 rfl ?_
                  refine PP.bipush dX6_touches_83 (by decide) ?_
                  refine PP.iload_n dX6_touches_85 rfl ?_
                  refine PP.iadd dX6_touches_86 ?_
                  refine PP.ialoadN (n := (11 + t)) sm2 (by first | decide | omega) (by first | rfl | omega) (by first | omega | (unfold R32; omega)) dX6_touches_87 ?_
                  refine PP.iadd dX6_touches_88 ?_
                  refine PP.aload_n dX6_touches_89 rfl ?_
                  refine PP.getfR dX6_touches_90 fl_X6_37 sm0 rfl ?_
                  refine PP.iload_n dX6_touches_93 rfl ?_
                  refine PP.ialoadN (n := o) sm10 (by first | decide | omega) (by first | rfl | omega) (by first | omega | (unfold R32; omega)) dX6_touches_94 ?_
                  refine PP.icmp_ne (tgt := 100) (by first | omega | (unfold R32; omega)) (by first | omega | (unfold R32; omega)) dX6_touches_95 (by decide) (fun h95 => ?_) (fun h95 => ?_)
                  · refine PP.iinc (L' := [_, _, _, _]) dX6_touches_100 rfl rfl rfl ?_
                    refine PP.goto (tgt := 2) dX6_touches_103 (by decide) ?_
                    refine PP.frg 3 (L' := [_, _, _, _]) rfl ?_
                    exact nx (by omega)
                  · refine PP.iconst dX6_touches_98 ?_
                    refine PP.zret dX6_touches_99 rfl (by first | decide | omega | exact b2i_01 _) ?_
                    exact RV1 (bt tcS_t ⟨o, ho, by omega, by omega, by omega, by omega⟩)
            · refine PP.iconst dX6_touches_38 ?_
              refine PP.goto (tgt := 43) dX6_touches_39 (by decide) ?_
              refine PP.istore_n (L' := [_, _, _, _]) dX6_touches_43 (Nat.le_of_ble_eq_true rfl) rfl rfl ?_
              refine PP.iload_n dX6_touches_44 rfl ?_
              refine PP.if_eq (tgt := 100) (by first | omega | (unfold R32; omega)) dX6_touches_45 (by decide) (fun h45 => ?_) (fun h45 => ?_)
              · refine PP.iinc (L' := [_, _, _, _]) dX6_touches_100 rfl rfl rfl ?_
                refine PP.goto (tgt := 2) dX6_touches_103 (by decide) ?_
                refine PP.frg 3 (L' := [_, _, _, _]) rfl ?_
                exact nx (by omega)
              · refine PP.aload_n dX6_touches_48 rfl ?_
                refine PP.getfR dX6_touches_49 fl_X6_37 sm0 rfl ?_
                refine PP.iload_n dX6_touches_52 rfl ?_
                refine PP.ialoadN (n := o) sm10 (by first | decide | omega) (by first | rfl | omega) (by first | omega | (unfold R32; omega)) dX6_touches_53 ?_
                refine PP.aload_n dX6_touches_54 rfl ?_
                refine PP.getfR dX6_touches_55 fl_X6_13 sm0 rfl ?_
                refine PP.bipush dX6_touches_58 (by decide) ?_
                refine PP.iload_n dX6_touches_60 rfl ?_
                refine PP.iadd dX6_touches_61 ?_
                refine PP.ialoadN (n := (11 + o)) sm2 (by first | decide | omega) (by first | rfl | omega) (by first | omega | (unfold R32; omega)) dX6_touches_62 ?_
                refine PP.iadd dX6_touches_63 ?_
                refine PP.aload_n dX6_touches_64 rfl ?_
                refine PP.getfR dX6_touches_65 fl_X6_37 sm0 rfl ?_
                refine PP.iload_n dX6_touches_68 rfl ?_
                refine PP.ialoadN (n := t) sm10 (by first | decide | omega) (by first | rfl | omega) (by first | omega | (unfold R32; omega)) dX6_touches_69 ?_
                refine PP.icmp_eq (tgt := 98) (by first | omega | (unfold R32; omega)) (by first | omega | (unfold R32; omega)) dX6_touches_70 (by decide) (fun h70 => ?_) (fun h70 => ?_)
                · refine PP.iconst dX6_touches_98 ?_
                  refine PP.zret dX6_touches_99 rfl (by first | decide | omega | exact b2i_01 _) ?_
                  exact RV1 (bt tcS_t ⟨o, ho, by omega, by omega, by omega, by omega⟩)
                · refine PP.aload_n dX6_touches_73 rfl ?_
                  refine PP.getfR dX6_touches_74 fl_X6_37 sm0 rfl ?_
                  refine PP.iload_n dX6_touches_77 rfl ?_
                  refine PP.ialoadN (n := t) sm10 (by first | decide | omega) (by first | rfl | omega) (by first | omega | (unfold R32; omega)) dX6_touches_78 ?_
                  refine PP.aload_n dX6_touches_79 rfl ?_
                  refine PP.getfR dX6_touches_80 fl_X6_13 sm0 rfl ?_
                  refine PP.bipush dX6_touches_83 (by decide) ?_
                  refine PP.iload_n dX6_touches_85 rfl ?_
                  refine PP.iadd dX6_touches_86 ?_
                  refine PP.ialoadN (n := (11 + t)) sm2 (by first | decide | omega) (by first | rfl | omega) (by first | omega | (unfold R32; omega)) dX6_touches_87 ?_
                  refine PP.iadd dX6_touches_88 ?_
                  refine PP.aload_n dX6_touches_89 rfl ?_
                  refine PP.getfR dX6_touches_90 fl_X6_37 sm0 rfl ?_
                  refine PP.iload_n dX6_touches_93 rfl ?_
                  refine PP.ialoadN (n := o) sm10 (by first | decide | omega) (by first | rfl | omega) (by first | omega | (unfold R32; omega)) dX6_touches_94 ?_
                  refine PP.icmp_ne (tgt := 100) (by first | omega | (unfold R32; omega)) (by first | omega | (unfold R32; omega)) dX6_touches_95 (by decide) (fun h95 => ?_) (fun h95 => ?_)
                  · refine PP.iinc (L' := [_, _, _, _]) dX6_touches_100 rfl rfl rfl ?_
                    refine PP.goto (tgt := 2) dX6_touches_103 (by decide) ?_
                    refine PP.frg 3 (L' := [_, _, _, _]) rfl ?_
                    exact nx (by omega)
                  · refine PP.iconst dX6_touches_98 ?_
                    refine PP.zret dX6_touches_99 rfl (by first | decide | omega | exact b2i_01 _) ?_
                    exact RV1 (bt tcS_t ⟨o, ho, by omega, by omega, by omega, by omega⟩)
  refine PP.iconst dX6_touches_0 ?_
  refine PP.istore_n (L' := [_, _, _, _]) dX6_touches_1 (Nat.le_of_ble_eq_true rfl) rfl rfl ?_
  exact key 0 (by omega) (fun u hu => by omega)
theorem skS_t {T : Nat → Int} {n : Nat} {P : Nat → Int} {t : Nat} : skS T n P t = true ↔ ∃ u, u < n ∧ stS T P u = true ∧ (u = t ∨ (¬ sdS T P t = 0 ∧ (sdS T P u = 0 ∨ sdS T P u = - sdS T P t))) := by
  unfold skS
  rw [anyB_t]
  simp
theorem m_isStruck {σ : Sg} {n t : Nat} {T P F : Nat → Int} (hc : MC σ T n P F) (ht : t < n) : OK SHm mX6_isStruck 2 [vR 0, vI (t : Int)] σ (RV (b2i (skS T n P t)) σ) := by
  obtain ⟨hw, hP, hT, hS⟩ := id hc
  have hn7 := hw.2.1
  have hsl := hw.2.2.1
  have hmi := hw.2.2.2.1
  have har := hw.2.2.2.2.1
  have t0 := hT 0 (by decide)
  have t1 := hT 1 (by decide)
  have t2 := hT 2 (by decide)
  have t3 : σ 2 3 = (n : Int) := (hT 3 (by decide)).trans hw.1
  obtain ⟨w1, w2, w3, w4⟩ := hw.2.2.2.2.2.1 t ht
  have g1 := hT (4 + t) (by omega)
  have g2 := hT (11 + t) (by omega)
  have g3 := hT (18 + t) (by omega)
  have g4 := hT (25 + t) (by omega)
  obtain ⟨e1, e2, e3⟩ := hS t (by omega)
  have hPt := hP.1 t ht
  have e4 := sdS_4 T P t
  refine OK.enter (L' := [vR 0, vI (t : Int), vN, vN]) (by decide +kernel) (by simp [ent0]) rfl ?_
  have key : ∀ o, o ≤ n → (∀ u, u < o → ¬ (stS T P u = true ∧ (u = t ∨ (¬ sdS T P t = 0 ∧ (sdS T P u = 0 ∨ sdS T P u = - sdS T P t))))) → PP SHm mX6_isStruck 2 2 [vR 0, vI (t : Int), vI (o : Int), vN] [] σ (RV (b2i (skS T n P t)) σ) := by
    refine loop_dn n ?_ ?_
    · intro hno
      refine PP.iload_n dX6_isStruck_2 rfl ?_
      refine PP.aload_n dX6_isStruck_3 rfl ?_
      refine PP.getfR dX6_isStruck_4 fl_X6_13 sm0 rfl ?_
      refine PP.iconst dX6_isStruck_7 ?_
      refine PP.ialoadN (n := 3) sm2 (by first | decide | omega) (by first | rfl | omega) (by first | omega | (unfold R32; omega)) dX6_isStruck_8 ?_
      refine PP.icmp_ge (tgt := 77) (by first | omega | (unfold R32; omega)) (by first | omega | (unfold R32; omega)) dX6_isStruck_9 (by decide) (fun h9 => ?_) (fun h9 => ?_)
      · refine PP.iconst dX6_isStruck_77 ?_
        refine PP.zret dX6_isStruck_78 rfl (by first | decide | omega | exact b2i_01 _) ?_
        exact RV0 (bf skS_t (fun ⟨u, hu, h⟩ => hno u hu h))
      · omega
    · intro o ho ih hno
      obtain ⟨v1, v2, v3, v4⟩ := hw.2.2.2.2.2.1 o ho
      have k1 := hT (4 + o) (by omega)
      have k2 := hT (11 + o) (by omega)
      have k3 := hT (18 + o) (by omega)
      have k4 := hT (25 + o) (by omega)
      obtain ⟨f1, f2, f3⟩ := hS o (by omega)
      have hPo := hP.1 o ho
      have f4 := sdS_4 T P o
      have nx : ¬ (stS T P o = true ∧ (o = t ∨ (¬ sdS T P t = 0 ∧ (sdS T P o = 0 ∨ sdS T P o = - sdS T P t)))) → PP SHm mX6_isStruck 2 2 [vR 0, vI (t : Int), vI ((o : Int) + 1), vN] [] σ (RV (b2i (skS T n P t)) σ) := by
        intro h0
        refine ih (fun u hu => ?_)
        rcases Nat.lt_or_ge u o with h | h
        · exact hno u h
        · have : u = o := by omega
          subst this
          exact h0
      refine PP.iload_n dX6_isStruck_2 rfl ?_
      refine PP.aload_n dX6_isStruck_3 rfl ?_
      refine PP.getfR dX6_isStruck_4 fl_X6_13 sm0 rfl ?_
      refine PP.iconst dX6_isStruck_7 ?_
      refine PP.ialoadN (n := 3) sm2 (by first | decide | omega) (by first | rfl | omega) (by first | omega | exact b2i_R _ | (unfold R32; omega)) dX6_isStruck_8 ?_
      refine PP.icmp_ge (tgt := 77) (by first | omega | exact b2i_R _ | (unfold R32; omega)) (by first | omega | exact b2i_R _ | (unfold R32; omega)) dX6_isStruck_9 (by decide) (fun h9 => ?_) (fun h9 => ?_)
      · omega
      · refine PP.aload_n dX6_isStruck_12 rfl ?_
        refine PP.getfR dX6_isStruck_13 fl_X6_43 sm0 rfl ?_
        refine PP.iload_n dX6_isStruck_16 rfl ?_
        refine PP.ialoadN (n := t) sm12 (by first | decide | omega) (by first | rfl | omega) (by first | omega | exact b2i_R _ | (unfold R32; omega)) dX6_isStruck_17 ?_
        refine PP.if_eq (tgt := 50) (by first | omega | exact b2i_R _ | (unfold R32; omega)) dX6_isStruck_18 (by decide) (fun h18 => ?_) (fun h18 => ?_)
        · refine PP.iconst dX6_isStruck_50 ?_
          refine PP.istore_n (L' := [_, _, _, _]) dX6_isStruck_51 (Nat.le_of_ble_eq_true rfl) rfl rfl ?_
          refine PP.aload_n dX6_isStruck_52 rfl ?_
          refine PP.iload_n dX6_isStruck_53 rfl ?_
          refine PP.callVi (m_strikes hc ho) dX6_isStruck_54 vl_X6_131 sm0 rfl rfl rfl rfl (Nat.le_of_ble_eq_true rfl) (by first | exact Nat.le_of_ble_eq_true rfl | omega) ?_
          refine PP.if_eq (tgt := 71) (by first | omega | exact b2i_R _ | (unfold R32; omega)) dX6_isStruck_57 (by decide) (fun h57 => ?_) (fun h57 => ?_)
          · refine PP.iinc (L' := [_, _, _, _]) dX6_isStruck_71 rfl rfl rfl ?_
            refine PP.goto (tgt := 2) dX6_isStruck_74 (by decide) ?_
            refine PP.frg 3 (L' := [_, _, _, _]) rfl ?_
            first
              | exact nx (fun q => by rw [b2i_0.mp h57] at q; exact absurd q.1 (by decide))
              | exact nx (fun q => by have := q.2; omega)
          · refine PP.iload_n dX6_isStruck_60 rfl ?_
            refine PP.iload_n dX6_isStruck_61 rfl ?_
            refine PP.icmp_eq (tgt := 69) (by first | omega | exact b2i_R _ | (unfold R32; omega)) (by first | omega | exact b2i_R _ | (unfold R32; omega)) dX6_isStruck_62 (by decide) (fun h62 => ?_) (fun h62 => ?_)
            · refine PP.iconst dX6_isStruck_69 ?_
              refine PP.zret dX6_isStruck_70 rfl (by first | decide | omega | exact b2i_01 _) ?_
              exact RV1 (bt skS_t ⟨o, ho, b2i_n.mp h57, by omega⟩)
            · refine PP.iload_n dX6_isStruck_65 rfl ?_
              refine PP.if_eq (tgt := 71) (by first | omega | exact b2i_R _ | (unfold R32; omega)) dX6_isStruck_66 (by decide) (fun h66 => ?_) (fun h66 => ?_)
              · refine PP.iinc (L' := [_, _, _, _]) dX6_isStruck_71 rfl rfl rfl ?_
                refine PP.goto (tgt := 2) dX6_isStruck_74 (by decide) ?_
                refine PP.frg 3 (L' := [_, _, _, _]) rfl ?_
                first
                  | exact nx (fun q => by rw [b2i_0.mp h57] at q; exact absurd q.1 (by decide))
                  | exact nx (fun q => by have := q.2; omega)
              · refine PP.iconst dX6_isStruck_69 ?_
                refine PP.zret dX6_isStruck_70 rfl (by first | decide | omega | exact b2i_01 _) ?_
                exact RV1 (bt skS_t ⟨o, ho, b2i_n.mp h57, by omega⟩)
        · refine PP.aload_n dX6_isStruck_21 rfl ?_
          refine PP.getfR dX6_isStruck_22 fl_X6_43 sm0 rfl ?_
          refine PP.iload_n dX6_isStruck_25 rfl ?_
          refine PP.ialoadN (n := o) sm12 (by first | decide | omega) (by first | rfl | omega) (by first | omega | exact b2i_R _ | (unfold R32; omega)) dX6_isStruck_26 ?_
          refine PP.if_eq (tgt := 46) (by first | omega | exact b2i_R _ | (unfold R32; omega)) dX6_isStruck_27 (by decide) (fun h27 => ?_) (fun h27 => ?_)
          · refine PP.iconst dX6_isStruck_46 ?_
            refine PP.goto (tgt := 51) dX6_isStruck_47 (by decide) ?_
            refine PP.istore_n (L' := [_, _, _, _]) dX6_isStruck_51 (Nat.le_of_ble_eq_true rfl) rfl rfl ?_
            refine PP.aload_n dX6_isStruck_52 rfl ?_
            refine PP.iload_n dX6_isStruck_53 rfl ?_
            refine PP.callVi (m_strikes hc ho) dX6_isStruck_54 vl_X6_131 sm0 rfl rfl rfl rfl (Nat.le_of_ble_eq_true rfl) (by first | exact Nat.le_of_ble_eq_true rfl | omega) ?_
            refine PP.if_eq (tgt := 71) (by first | omega | exact b2i_R _ | (unfold R32; omega)) dX6_isStruck_57 (by decide) (fun h57 => ?_) (fun h57 => ?_)
            · refine PP.iinc (L' := [_, _, _, _]) dX6_isStruck_71 rfl rfl rfl ?_
              refine PP.goto (tgt := 2) dX6_isStruck_74 (by decide) ?_
              refine PP.frg 3 (L' := [_, _, _, _]) rfl ?_
              first
                | exact nx (fun q => by rw [b2i_0.mp h57] at q; exact absurd q.1 (by decide))
                | exact nx (fun q => by have := q.2; omega)
            · refine PP.iload_n dX6_isStruck_60 rfl ?_
              refine PP.iload_n dX6_isStruck_61 rfl ?_
              refine PP.icmp_eq (tgt := 69) (by first | omega | exact b2i_R _ | (unfold R32; omega)) (by first | omega | exact b2i_R _ | (unfold R32; omega)) dX6_isStruck_62 (by decide) (fun h62 => ?_) (fun h62 => ?_)
              · refine PP.iconst dX6_isStruck_69 ?_
                refine PP.zret dX6_isStruck_70 rfl (by first | decide | omega | exact b2i_01 _) ?_
                exact RV1 (bt skS_t ⟨o, ho, b2i_n.mp h57, by omega⟩)
              · refine PP.iload_n dX6_isStruck_65 rfl ?_
                refine PP.if_eq (tgt := 71) (by first | omega | exact b2i_R _ | (unfold R32; omega)) dX6_isStruck_66 (by decide) (fun h66 => ?_) (fun h66 => ?_)
                · refine PP.iinc (L' := [_, _, _, _]) dX6_isStruck_71 rfl rfl rfl ?_
                  refine PP.goto (tgt := 2) dX6_isStruck_74 (by decide) ?_
                  refine PP.frg 3 (L' := [_, _, _, _]) rfl ?_
                  first
                    | exact nx (fun q => by rw [b2i_0.mp h57] at q; exact absurd q.1 (by decide))
                    | exact nx (fun q => by have := q.2; omega)
                · refine PP.iconst dX6_isStruck_69 ?_
                  refine PP.zret dX6_isStruck_70 rfl (by first | decide | omega | exact b2i_01 _) ?_
                  exact RV1 (bt skS_t ⟨o, ho, b2i_n.mp h57, by omega⟩)
          · refine PP.aload_n dX6_isStruck_30 rfl ?_
            refine PP.getfR dX6_isStruck_31 fl_X6_43 sm0 rfl ?_
            refine PP.iload_n dX6_isStruck_34 rfl ?_
            refine PP.ialoadN (n := o) sm12 (by first | decide | omega) (by first | rfl | omega) (by first | omega | exact b2i_R _ | (unfold R32; omega)) dX6_isStruck_35 ?_
            refine PP.aload_n dX6_isStruck_36 rfl ?_
            refine PP.getfR dX6_isStruck_37 fl_X6_43 sm0 rfl ?_
            refine PP.iload_n dX6_isStruck_40 rfl ?_
            refine PP.ialoadN (n := t) sm12 (by first | decide | omega) (by first | rfl | omega) (by first | omega | exact b2i_R _ | (unfold R32; omega)) dX6_isStruck_41 ?_
            refine PP.ineg dX6_isStruck_42 ?_
            refine PP.icmp_ne (tgt := 50) (by first | omega | exact b2i_R _ | (unfold R32; omega)) (by first | omega | exact b2i_R _ | (unfold R32; omega)) dX6_isStruck_43 (by decide) (fun h43 => ?_) (fun h43 => ?_)
            · refine PP.iconst dX6_isStruck_50 ?_
              refine PP.istore_n (L' := [_, _, _, _]) dX6_isStruck_51 (Nat.le_of_ble_eq_true rfl) rfl rfl ?_
              refine PP.aload_n dX6_isStruck_52 rfl ?_
              refine PP.iload_n dX6_isStruck_53 rfl ?_
              refine PP.callVi (m_strikes hc ho) dX6_isStruck_54 vl_X6_131 sm0 rfl rfl rfl rfl (Nat.le_of_ble_eq_true rfl) (by first | exact Nat.le_of_ble_eq_true rfl | omega) ?_
              refine PP.if_eq (tgt := 71) (by first | omega | exact b2i_R _ | (unfold R32; omega)) dX6_isStruck_57 (by decide) (fun h57 => ?_) (fun h57 => ?_)
              · refine PP.iinc (L' := [_, _, _, _]) dX6_isStruck_71 rfl rfl rfl ?_
                refine PP.goto (tgt := 2) dX6_isStruck_74 (by decide) ?_
                refine PP.frg 3 (L' := [_, _, _, _]) rfl ?_
                first
                  | exact nx (fun q => by rw [b2i_0.mp h57] at q; exact absurd q.1 (by decide))
                  | exact nx (fun q => by have := q.2; omega)
              · refine PP.iload_n dX6_isStruck_60 rfl ?_
                refine PP.iload_n dX6_isStruck_61 rfl ?_
                refine PP.icmp_eq (tgt := 69) (by first | omega | exact b2i_R _ | (unfold R32; omega)) (by first | omega | exact b2i_R _ | (unfold R32; omega)) dX6_isStruck_62 (by decide) (fun h62 => ?_) (fun h62 => ?_)
                · refine PP.iconst dX6_isStruck_69 ?_
                  refine PP.zret dX6_isStruck_70 rfl (by first | decide | omega | exact b2i_01 _) ?_
                  exact RV1 (bt skS_t ⟨o, ho, b2i_n.mp h57, by omega⟩)
                · refine PP.iload_n dX6_isStruck_65 rfl ?_
                  refine PP.if_eq (tgt := 71) (by first | omega | exact b2i_R _ | (unfold R32; omega)) dX6_isStruck_66 (by decide) (fun h66 => ?_) (fun h66 => ?_)
                  · refine PP.iinc (L' := [_, _, _, _]) dX6_isStruck_71 rfl rfl rfl ?_
                    refine PP.goto (tgt := 2) dX6_isStruck_74 (by decide) ?_
                    refine PP.frg 3 (L' := [_, _, _, _]) rfl ?_
                    first
                      | exact nx (fun q => by rw [b2i_0.mp h57] at q; exact absurd q.1 (by decide))
                      | exact nx (fun q => by have := q.2; omega)
                  · refine PP.iconst dX6_isStruck_69 ?_
                    refine PP.zret dX6_isStruck_70 rfl (by first | decide | omega | exact b2i_01 _) ?_
                    exact RV1 (bt skS_t ⟨o, ho, b2i_n.mp h57, by omega⟩)
            · refine PP.iconst dX6_isStruck_46 ?_
              refine PP.goto (tgt := 51) dX6_isStruck_47 (by decide) ?_
              refine PP.istore_n (L' := [_, _, _, _]) dX6_isStruck_51 (Nat.le_of_ble_eq_true rfl) rfl rfl ?_
              refine PP.aload_n dX6_isStruck_52 rfl ?_
              refine PP.iload_n dX6_isStruck_53 rfl ?_
              refine PP.callVi (m_strikes hc ho) dX6_isStruck_54 vl_X6_131 sm0 rfl rfl rfl rfl (Nat.le_of_ble_eq_true rfl) (by first | exact Nat.le_of_ble_eq_true rfl | omega) ?_
              refine PP.if_eq (tgt := 71) (by first | omega | exact b2i_R _ | (unfold R32; omega)) dX6_isStruck_57 (by decide) (fun h57 => ?_) (fun h57 => ?_)
              · refine PP.iinc (L' := [_, _, _, _]) dX6_isStruck_71 rfl rfl rfl ?_
                refine PP.goto (tgt := 2) dX6_isStruck_74 (by decide) ?_
                refine PP.frg 3 (L' := [_, _, _, _]) rfl ?_
                first
                  | exact nx (fun q => by rw [b2i_0.mp h57] at q; exact absurd q.1 (by decide))
                  | exact nx (fun q => by have := q.2; omega)
              · refine PP.iload_n dX6_isStruck_60 rfl ?_
                refine PP.iload_n dX6_isStruck_61 rfl ?_
                refine PP.icmp_eq (tgt := 69) (by first | omega | exact b2i_R _ | (unfold R32; omega)) (by first | omega | exact b2i_R _ | (unfold R32; omega)) dX6_isStruck_62 (by decide) (fun h62 => ?_) (fun h62 => ?_)
                · refine PP.iconst dX6_isStruck_69 ?_
                  refine PP.zret dX6_isStruck_70 rfl (by first | decide | omega | exact b2i_01 _) ?_
                  exact RV1 (bt skS_t ⟨o, ho, b2i_n.mp h57, by omega⟩)
                · refine PP.iload_n dX6_isStruck_65 rfl ?_
                  refine PP.if_eq (tgt := 71) (by first | omega | exact b2i_R _ | (unfold R32; omega)) dX6_isStruck_66 (by decide) (fun h66 => ?_) (fun h66 => ?_)
                  · refine PP.iinc (L' := [_, _, _, _]) dX6_isStruck_71 rfl rfl rfl ?_
                    refine PP.goto (tgt := 2) dX6_isStruck_74 (by decide) ?_
                    refine PP.frg 3 (L' := [_, _, _, _]) rfl ?_
                    first
                      | exact nx (fun q => by rw [b2i_0.mp h57] at q; exact absurd q.1 (by decide))
                      | exact nx (fun q => by have := q.2; omega)
                  · refine PP.iconst dX6_isStruck_69 ?_
                    refine PP.zret dX6_isStruck_70 rfl (by first | decide | omega | exact b2i_01 _) ?_
                    exact RV1 (bt skS_t ⟨o, ho, b2i_n.mp h57, by omega⟩)
  refine PP.iconst dX6_isStruck_0 ?_
  refine PP.istore_n (L' := [_, _, _, _]) dX6_isStruck_1 (Nat.le_of_ble_eq_true rfl) rfl rfl ?_
  exact key 0 (by omega) (fun u hu => by omega)
