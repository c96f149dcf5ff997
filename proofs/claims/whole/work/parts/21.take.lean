/-! items of a text: the component's reader -/
theorem R99 {z : Int} (h : 0 ≤ z ∧ z ≤ 99) : R32 z := by unfold R32; omega
theorem ok_takeSlots_t {σ : Sg} {a b : Int} (ha : 0 ≤ a ∧ a ≤ 99) (hb : 0 ≤ b ∧ b ≤ 99) (ho : σ 2 4 = 1) (h1 : 3 ≤ a) (h2 : a ≤ 14) (h3 : b < a) : OK SHc mX3_takeSlots 1 [vR 2, vI a, vI b] σ (RV 1 (up (up σ 3 0 a) 3 1 b)) := by
  refine OK.enter (L' := [vR 2, vI a, vI b]) (by decide +kernel) (by simp [ent0]) rfl ?_
  refine PP.aload_n dX3_takeSlots_0 rfl ?_
  refine PP.getfI dX3_takeSlots_1 fl_X3_59 sc2 rfl ?_
  refine PP.if_eq (tgt := 23) (by first | omega | (unfold R32; omega)) dX3_takeSlots_4 (by decide) (fun h4 => ?_) (fun h4 => ?_)
  · refine PP.iconst dX3_takeSlots_23 ?_
    refine PP.zret dX3_takeSlots_24 rfl (by first | decide | omega) ?_
    omega
  · refine PP.iload_n dX3_takeSlots_7 rfl ?_
    refine PP.iconst dX3_takeSlots_8 ?_
    refine PP.icmp_lt (tgt := 23) (by first | omega | (unfold R32; omega)) (by first | omega | (unfold R32; omega)) dX3_takeSlots_9 (by decide) (fun h9 => ?_) (fun h9 => ?_)
    · refine PP.iconst dX3_takeSlots_23 ?_
      refine PP.zret dX3_takeSlots_24 rfl (by first | decide | omega) ?_
      omega
    · refine PP.iload_n dX3_takeSlots_12 rfl ?_
      refine PP.bipush dX3_takeSlots_13 (by decide) ?_
      refine PP.icmp_gt (tgt := 23) (by first | omega | (unfold R32; omega)) (by first | omega | (unfold R32; omega)) dX3_takeSlots_15 (by decide) (fun h15 => ?_) (fun h15 => ?_)
      · refine PP.iconst dX3_takeSlots_23 ?_
        refine PP.zret dX3_takeSlots_24 rfl (by first | decide | omega) ?_
        omega
      · refine PP.iload_n dX3_takeSlots_18 rfl ?_
        refine PP.iload_n dX3_takeSlots_19 rfl ?_
        refine PP.icmp_lt (tgt := 25) (by first | omega | (unfold R32; omega)) (by first | omega | (unfold R32; omega)) dX3_takeSlots_20 (by decide) (fun h20 => ?_) (fun h20 => ?_)
        · refine PP.aload_n dX3_takeSlots_25 rfl ?_
          refine PP.getfR dX3_takeSlots_26 fl_X3_12 sc2 rfl ?_
          refine PP.iload_n dX3_takeSlots_29 rfl ?_
          refine PP.putI dX3_takeSlots_30 fp_X3_87 sc3 rfl (by first | omega | (unfold R32; omega)) ?_
          refine PP.aload_n dX3_takeSlots_33 rfl ?_
          refine PP.getfR dX3_takeSlots_34 fl_X3_12 sc2 rfl ?_
          refine PP.iload_n dX3_takeSlots_37 rfl ?_
          refine PP.putI dX3_takeSlots_38 fp_X3_90 sc3 rfl (by first | omega | (unfold R32; omega)) ?_
          refine PP.iconst dX3_takeSlots_41 ?_
          refine PP.zret dX3_takeSlots_42 rfl (by first | decide | omega) ?_
          exact ⟨rfl, rfl⟩
        · refine PP.iconst dX3_takeSlots_23 ?_
          refine PP.zret dX3_takeSlots_24 rfl (by first | decide | omega) ?_
          omega
theorem ok_takeSlots_f {σ : Sg} {a b : Int} (ha : 0 ≤ a ∧ a ≤ 99) (hb : 0 ≤ b ∧ b ≤ 99) (ho : σ 2 4 = 0 ∨ σ 2 4 = 1) (hn : ¬ (σ 2 4 = 1 ∧ 3 ≤ a ∧ a ≤ 14 ∧ b < a)) : OK SHc mX3_takeSlots 1 [vR 2, vI a, vI b] σ (RV 0 σ) := by
  refine OK.enter (L' := [vR 2, vI a, vI b]) (by decide +kernel) (by simp [ent0]) rfl ?_
  refine PP.aload_n dX3_takeSlots_0 rfl ?_
  refine PP.getfI dX3_takeSlots_1 fl_X3_59 sc2 rfl ?_
  refine PP.if_eq (tgt := 23) (by first | omega | (unfold R32; omega)) dX3_takeSlots_4 (by decide) (fun h4 => ?_) (fun h4 => ?_)
  · refine PP.iconst dX3_takeSlots_23 ?_
    refine PP.zret dX3_takeSlots_24 rfl (by first | decide | omega) ?_
    exact ⟨rfl, rfl⟩
  · refine PP.iload_n dX3_takeSlots_7 rfl ?_
    refine PP.iconst dX3_takeSlots_8 ?_
    refine PP.icmp_lt (tgt := 23) (by first | omega | (unfold R32; omega)) (by first | omega | (unfold R32; omega)) dX3_takeSlots_9 (by decide) (fun h9 => ?_) (fun h9 => ?_)
    · refine PP.iconst dX3_takeSlots_23 ?_
      refine PP.zret dX3_takeSlots_24 rfl (by first | decide | omega) ?_
      exact ⟨rfl, rfl⟩
    · refine PP.iload_n dX3_takeSlots_12 rfl ?_
      refine PP.bipush dX3_takeSlots_13 (by decide) ?_
      refine PP.icmp_gt (tgt := 23) (by first | omega | (unfold R32; omega)) (by first | omega | (unfold R32; omega)) dX3_takeSlots_15 (by decide) (fun h15 => ?_) (fun h15 => ?_)
      · refine PP.iconst dX3_takeSlots_23 ?_
        refine PP.zret dX3_takeSlots_24 rfl (by first | decide | omega) ?_
        exact ⟨rfl, rfl⟩
      · refine PP.iload_n dX3_takeSlots_18 rfl ?_
        refine PP.iload_n dX3_takeSlots_19 rfl ?_
        refine PP.icmp_lt (tgt := 25) (by first | omega | (unfold R32; omega)) (by first | omega | (unfold R32; omega)) dX3_takeSlots_20 (by decide) (fun h20 => ?_) (fun h20 => ?_)
        · refine PP.aload_n dX3_takeSlots_25 rfl ?_
          refine PP.getfR dX3_takeSlots_26 fl_X3_12 sc2 rfl ?_
          refine PP.iload_n dX3_takeSlots_29 rfl ?_
          refine PP.putI dX3_takeSlots_30 fp_X3_87 sc3 rfl (by first | omega | (unfold R32; omega)) ?_
          refine PP.aload_n dX3_takeSlots_33 rfl ?_
          refine PP.getfR dX3_takeSlots_34 fl_X3_12 sc2 rfl ?_
          refine PP.iload_n dX3_takeSlots_37 rfl ?_
          refine PP.putI dX3_takeSlots_38 fp_X3_90 sc3 rfl (by first | omega | (unfold R32; omega)) ?_
          refine PP.iconst dX3_takeSlots_41 ?_
          refine PP.zret dX3_takeSlots_42 rfl (by first | decide | omega) ?_
          omega
        · refine PP.iconst dX3_takeSlots_23 ?_
          refine PP.zret dX3_takeSlots_24 rfl (by first | decide | omega) ?_
          exact ⟨rfl, rfl⟩
def thU (σ : Sg) (n : Nat) (k w h d : Int) : Sg := up (up (up (up (up σ 4 n k) 5 n w) 6 n h) 7 n d) 3 3 ((n : Int) + 1)
theorem ok_takeThing_t {σ : Sg} {n : Nat} {k w h d : Int} (h3 : σ 3 3 = (n : Int)) (hk : σ 13 0 = k) (hw : σ 13 1 = w) (hh : σ 13 2 = h) (hdd : σ 13 3 = d) (hn : n < 7) (h1 : 0 ≤ k ∧ k ≤ 3) (h2 : 1 ≤ w ∧ w ≤ 4) (h4 : 1 ≤ h ∧ h ≤ 9) (h5 : 1 ≤ d ∧ d ≤ 9) : OK SHc mX3_takeThing 2 [vR 2] σ (RV 1 (thU σ n k w h d)) := by
  refine OK.enter (L' := [vR 2, vN]) (by decide +kernel) (by simp [ent0]) rfl ?_
  refine PP.aload_n dX3_takeThing_0 rfl ?_
  refine PP.getfR dX3_takeThing_1 fl_X3_12 sc2 rfl ?_
  refine PP.getfI dX3_takeThing_4 fl_X3_93 sc3 rfl ?_
  refine PP.eqI (y := (n : Int)) h3 ?_
  refine PP.istore_n (L' := [_, _]) dX3_takeThing_7 (Nat.le_of_ble_eq_true rfl) rfl rfl ?_
  refine PP.iload_n dX3_takeThing_8 rfl ?_
  refine PP.bipush dX3_takeThing_9 (by decide) ?_
  refine PP.icmp_ge (tgt := 65) (by first | omega | exact b2i_R _ | (unfold R32; omega)) (by first | omega | exact b2i_R _ | (unfold R32; omega)) dX3_takeThing_11 (by decide) (fun h11 => ?_) (fun h11 => ?_)
  · omega
  · refine PP.aload_n dX3_takeThing_14 rfl ?_
    refine PP.getfR dX3_takeThing_15 fl_X3_27 sc2 rfl ?_
    refine PP.iconst dX3_takeThing_18 ?_
    refine PP.ialoadN (n := 0) sc13 (by first | decide | omega) (by first | rfl | omega) (by first | omega | exact b2i_R _ | (unfold R32; omega)) dX3_takeThing_19 ?_
    refine PP.eqI hk ?_
    refine PP.iconst dX3_takeThing_20 ?_
    refine PP.icmp_gt (tgt := 65) (by first | omega | exact b2i_R _ | (unfold R32; omega)) (by first | omega | exact b2i_R _ | (unfold R32; omega)) dX3_takeThing_21 (by decide) (fun h21 => ?_) (fun h21 => ?_)
    · omega
    · refine PP.aload_n dX3_takeThing_24 rfl ?_
      refine PP.getfR dX3_takeThing_25 fl_X3_27 sc2 rfl ?_
      refine PP.iconst dX3_takeThing_28 ?_
      refine PP.ialoadN (n := 1) sc13 (by first | decide | omega) (by first | rfl | omega) (by first | omega | exact b2i_R _ | (unfold R32; omega)) dX3_takeThing_29 ?_
      refine PP.eqI hw ?_
      refine PP.iconst dX3_takeThing_30 ?_
      refine PP.callSi (ok_isWithin (x := w) (y := 4) (by unfold R32; omega) (by unfold R32; omega)) dX3_takeThing_31 sl_X3_96 rfl rfl (Nat.le_of_ble_eq_true rfl) (Nat.le_of_ble_eq_true rfl) ?_
      refine PP.if_eq (tgt := 65) (by first | omega | exact b2i_R _ | (unfold R32; omega)) dX3_takeThing_34 (by decide) (fun h34 => ?_) (fun h34 => ?_)
      · rw [decide_eq_true h2] at h34; cases h34
      · refine PP.aload_n dX3_takeThing_37 rfl ?_
        refine PP.getfR dX3_takeThing_38 fl_X3_27 sc2 rfl ?_
        refine PP.iconst dX3_takeThing_41 ?_
        refine PP.ialoadN (n := 2) sc13 (by first | decide | omega) (by first | rfl | omega) (by first | omega | exact b2i_R _ | (unfold R32; omega)) dX3_takeThing_42 ?_
        refine PP.eqI hh ?_
        refine PP.bipush dX3_takeThing_43 (by decide) ?_
        refine PP.callSi (ok_isWithin (x := h) (y := 9) (by unfold R32; omega) (by unfold R32; omega)) dX3_takeThing_45 sl_X3_96 rfl rfl (Nat.le_of_ble_eq_true rfl) (Nat.le_of_ble_eq_true rfl) ?_
        refine PP.if_eq (tgt := 65) (by first | omega | exact b2i_R _ | (unfold R32; omega)) dX3_takeThing_48 (by decide) (fun h48 => ?_) (fun h48 => ?_)
        · rw [decide_eq_true h4] at h48; cases h48
        · refine PP.aload_n dX3_takeThing_51 rfl ?_
          refine PP.getfR dX3_takeThing_52 fl_X3_27 sc2 rfl ?_
          refine PP.iconst dX3_takeThing_55 ?_
          refine PP.ialoadN (n := 3) sc13 (by first | decide | omega) (by first | rfl | omega) (by first | omega | exact b2i_R _ | (unfold R32; omega)) dX3_takeThing_56 ?_
          refine PP.eqI hdd ?_
          refine PP.bipush dX3_takeThing_57 (by decide) ?_
          refine PP.callSi (ok_isWithin (x := d) (y := 9) (by unfold R32; omega) (by unfold R32; omega)) dX3_takeThing_59 sl_X3_96 rfl rfl (Nat.le_of_ble_eq_true rfl) (Nat.le_of_ble_eq_true rfl) ?_
          refine PP.if_ne (tgt := 67) (by first | omega | exact b2i_R _ | (unfold R32; omega)) dX3_takeThing_62 (by decide) (fun h62 => ?_) (fun h62 => ?_)
          · refine PP.aload_n dX3_takeThing_67 rfl ?_
            refine PP.getfR dX3_takeThing_68 fl_X3_12 sc2 rfl ?_
            refine PP.getfR dX3_takeThing_71 fl_X3_99 sc3 rfl ?_
            refine PP.iload_n dX3_takeThing_74 rfl ?_
            refine PP.aload_n dX3_takeThing_75 rfl ?_
            refine PP.getfR dX3_takeThing_76 fl_X3_27 sc2 rfl ?_
            refine PP.iconst dX3_takeThing_79 ?_
            refine PP.ialoadN (n := 0) sc13 (by first | decide | omega) (by first | rfl | omega) (by first | omega | exact b2i_R _ | (unfold R32; omega)) dX3_takeThing_80 ?_
            refine PP.eqI (y := k) hk ?_
            refine PP.iastoreN (n := n) sc4 (by first | decide | omega) (by first | rfl | omega) (by first | omega | exact b2i_R _ | (unfold R32; omega)) (by first | omega | exact b2i_R _ | (unfold R32; omega)) dX3_takeThing_81 ?_
            refine PP.aload_n dX3_takeThing_82 rfl ?_
            refine PP.getfR dX3_takeThing_83 fl_X3_12 sc2 rfl ?_
            refine PP.getfR dX3_takeThing_86 fl_X3_102 sc3 rfl ?_
            refine PP.iload_n dX3_takeThing_89 rfl ?_
            refine PP.aload_n dX3_takeThing_90 rfl ?_
            refine PP.getfR dX3_takeThing_91 fl_X3_27 sc2 rfl ?_
            refine PP.iconst dX3_takeThing_94 ?_
            refine PP.ialoadN (n := 1) sc13 (by first | decide | omega) (by first | rfl | omega) (by first | omega | exact b2i_R _ | (unfold R32; omega)) dX3_takeThing_95 ?_
            refine PP.eqI (y := w) (by rw [up_ne (by decide)]; exact hw) ?_
            refine PP.iastoreN (n := n) sc5 (by first | decide | omega) (by first | rfl | omega) (by first | omega | exact b2i_R _ | (unfold R32; omega)) (by first | omega | exact b2i_R _ | (unfold R32; omega)) dX3_takeThing_96 ?_
            refine PP.aload_n dX3_takeThing_97 rfl ?_
            refine PP.getfR dX3_takeThing_98 fl_X3_12 sc2 rfl ?_
            refine PP.getfR dX3_takeThing_101 fl_X3_105 sc3 rfl ?_
            refine PP.iload_n dX3_takeThing_104 rfl ?_
            refine PP.aload_n dX3_takeThing_105 rfl ?_
            refine PP.getfR dX3_takeThing_106 fl_X3_27 sc2 rfl ?_
            refine PP.iconst dX3_takeThing_109 ?_
            refine PP.ialoadN (n := 2) sc13 (by first | decide | omega) (by first | rfl | omega) (by first | omega | exact b2i_R _ | (unfold R32; omega)) dX3_takeThing_110 ?_
            refine PP.eqI (y := h) (by rw [up_ne (by decide), up_ne (by decide)]; exact hh) ?_
            refine PP.iastoreN (n := n) sc6 (by first | decide | omega) (by first | rfl | omega) (by first | omega | exact b2i_R _ | (unfold R32; omega)) (by first | omega | exact b2i_R _ | (unfold R32; omega)) dX3_takeThing_111 ?_
            refine PP.aload_n dX3_takeThing_112 rfl ?_
            refine PP.getfR dX3_takeThing_113 fl_X3_12 sc2 rfl ?_
            refine PP.getfR dX3_takeThing_116 fl_X3_108 sc3 rfl ?_
            refine PP.iload_n dX3_takeThing_119 rfl ?_
            refine PP.aload_n dX3_takeThing_120 rfl ?_
            refine PP.getfR dX3_takeThing_121 fl_X3_27 sc2 rfl ?_
            refine PP.iconst dX3_takeThing_124 ?_
            refine PP.ialoadN (n := 3) sc13 (by first | decide | omega) (by first | rfl | omega) (by first | omega | exact b2i_R _ | (unfold R32; omega)) dX3_takeThing_125 ?_
            refine PP.eqI (y := d) (by rw [up_ne (by decide), up_ne (by decide), up_ne (by decide)]; exact hdd) ?_
            refine PP.iastoreN (n := n) sc7 (by first | decide | omega) (by first | rfl | omega) (by first | omega | exact b2i_R _ | (unfold R32; omega)) (by first | omega | exact b2i_R _ | (unfold R32; omega)) dX3_takeThing_126 ?_
            refine PP.aload_n dX3_takeThing_127 rfl ?_
            refine PP.getfR dX3_takeThing_128 fl_X3_12 sc2 rfl ?_
            refine PP.iload_n dX3_takeThing_131 rfl ?_
            refine PP.iconst dX3_takeThing_132 ?_
            refine PP.iadd dX3_takeThing_133 ?_
            refine PP.putI dX3_takeThing_134 fp_X3_93 sc3 rfl (by first | omega | exact b2i_R _ | (unfold R32; omega)) ?_
            refine PP.iconst dX3_takeThing_137 ?_
            refine PP.zret dX3_takeThing_138 rfl (by first | decide | omega) ?_
            exact ⟨rfl, rfl⟩
          · rw [decide_eq_true h5] at h62; cases h62
theorem ok_takeThing_f {σ : Sg} {n : Nat} {k w h d : Int} (h3 : σ 3 3 = (n : Int)) (hk : σ 13 0 = k) (hw : σ 13 1 = w) (hh : σ 13 2 = h) (hdd : σ 13 3 = d) (hn : n ≤ 7) (h1 : 0 ≤ k ∧ k ≤ 99) (h2 : 0 ≤ w ∧ w ≤ 99) (h4 : 0 ≤ h ∧ h ≤ 99) (h5 : 0 ≤ d ∧ d ≤ 99) (hc : ¬ (n < 7 ∧ k ≤ 3 ∧ (1 ≤ w ∧ w ≤ 4) ∧ (1 ≤ h ∧ h ≤ 9) ∧ (1 ≤ d ∧ d ≤ 9))) : OK SHc mX3_takeThing 2 [vR 2] σ (RV 0 σ) := by
  refine OK.enter (L' := [vR 2, vN]) (by decide +kernel) (by simp [ent0]) rfl ?_
  refine PP.aload_n dX3_takeThing_0 rfl ?_
  refine PP.getfR dX3_takeThing_1 fl_X3_12 sc2 rfl ?_
  refine PP.getfI dX3_takeThing_4 fl_X3_93 sc3 rfl ?_
  refine PP.eqI (y := (n : Int)) h3 ?_
  refine PP.istore_n (L' := [_, _]) dX3_takeThing_7 (Nat.le_of_ble_eq_true rfl) rfl rfl ?_
  refine PP.iload_n dX3_takeThing_8 rfl ?_
  refine PP.bipush dX3_takeThing_9 (by decide) ?_
  refine PP.icmp_ge (tgt := 65) (by first | omega | exact b2i_R _ | (unfold R32; omega)) (by first | omega | exact b2i_R _ | (unfold R32; omega)) dX3_takeThing_11 (by decide) (fun h11 => ?_) (fun h11 => ?_)
  · refine PP.iconst dX3_takeThing_65 ?_
    refine PP.zret dX3_takeThing_66 rfl (by first | decide | omega) ?_
    exact ⟨rfl, rfl⟩
  · refine PP.aload_n dX3_takeThing_14 rfl ?_
    refine PP.getfR dX3_takeThing_15 fl_X3_27 sc2 rfl ?_
    refine PP.iconst dX3_takeThing_18 ?_
    refine PP.ialoadN (n := 0) sc13 (by first | decide | omega) (by first | rfl | omega) (by first | omega | exact b2i_R _ | (unfold R32; omega)) dX3_takeThing_19 ?_
    refine PP.eqI hk ?_
    refine PP.iconst dX3_takeThing_20 ?_
    refine PP.icmp_gt (tgt := 65) (by first | omega | exact b2i_R _ | (unfold R32; omega)) (by first | omega | exact b2i_R _ | (unfold R32; omega)) dX3_takeThing_21 (by decide) (fun h21 => ?_) (fun h21 => ?_)
    · refine PP.iconst dX3_takeThing_65 ?_
      refine PP.zret dX3_takeThing_66 rfl (by first | decide | omega) ?_
      exact ⟨rfl, rfl⟩
    · refine PP.aload_n dX3_takeThing_24 rfl ?_
      refine PP.getfR dX3_takeThing_25 fl_X3_27 sc2 rfl ?_
      refine PP.iconst dX3_takeThing_28 ?_
      refine PP.ialoadN (n := 1) sc13 (by first | decide | omega) (by first | rfl | omega) (by first | omega | exact b2i_R _ | (unfold R32; omega)) dX3_takeThing_29 ?_
      refine PP.eqI hw ?_
      refine PP.iconst dX3_takeThing_30 ?_
      refine PP.callSi (ok_isWithin (x := w) (y := 4) (by unfold R32; omega) (by unfold R32; omega)) dX3_takeThing_31 sl_X3_96 rfl rfl (Nat.le_of_ble_eq_true rfl) (Nat.le_of_ble_eq_true rfl) ?_
      refine PP.if_eq (tgt := 65) (by first | omega | exact b2i_R _ | (unfold R32; omega)) dX3_takeThing_34 (by decide) (fun h34 => ?_) (fun h34 => ?_)
      · refine PP.iconst dX3_takeThing_65 ?_
        refine PP.zret dX3_takeThing_66 rfl (by first | decide | omega) ?_
        exact ⟨rfl, rfl⟩
      · refine PP.aload_n dX3_takeThing_37 rfl ?_
        refine PP.getfR dX3_takeThing_38 fl_X3_27 sc2 rfl ?_
        refine PP.iconst dX3_takeThing_41 ?_
        refine PP.ialoadN (n := 2) sc13 (by first | decide | omega) (by first | rfl | omega) (by first | omega | exact b2i_R _ | (unfold R32; omega)) dX3_takeThing_42 ?_
        refine PP.eqI hh ?_
        refine PP.bipush dX3_takeThing_43 (by decide) ?_
        refine PP.callSi (ok_isWithin (x := h) (y := 9) (by unfold R32; omega) (by unfold R32; omega)) dX3_takeThing_45 sl_X3_96 rfl rfl (Nat.le_of_ble_eq_true rfl) (Nat.le_of_ble_eq_true rfl) ?_
        refine PP.if_eq (tgt := 65) (by first | omega | exact b2i_R _ | (unfold R32; omega)) dX3_takeThing_48 (by decide) (fun h48 => ?_) (fun h48 => ?_)
        · refine PP.iconst dX3_takeThing_65 ?_
          refine PP.zret dX3_takeThing_66 rfl (by first | decide | omega) ?_
          exact ⟨rfl, rfl⟩
        · refine PP.aload_n dX3_takeThing_51 rfl ?_
          refine PP.getfR dX3_takeThing_52 fl_X3_27 sc2 rfl ?_
          refine PP.iconst dX3_takeThing_55 ?_
          refine PP.ialoadN (n := 3) sc13 (by first | decide | omega) (by first | rfl | omega) (by first | omega | exact b2i_R _ | (unfold R32; omega)) dX3_takeThing_56 ?_
          refine PP.eqI hdd ?_
          refine PP.bipush dX3_takeThing_57 (by decide) ?_
          refine PP.callSi (ok_isWithin (x := d) (y := 9) (by unfold R32; omega) (by unfold R32; omega)) dX3_takeThing_59 sl_X3_96 rfl rfl (Nat.le_of_ble_eq_true rfl) (Nat.le_of_ble_eq_true rfl) ?_
          refine PP.if_ne (tgt := 67) (by first | omega | exact b2i_R _ | (unfold R32; omega)) dX3_takeThing_62 (by decide) (fun h62 => ?_) (fun h62 => ?_)
          · have q1 := of_decide_eq_true (b2i_n.mp h34)
            have q2 := of_decide_eq_true (b2i_n.mp h48)
            have q3 := of_decide_eq_true (b2i_n.mp h62)
            omega
          · refine PP.iconst dX3_takeThing_65 ?_
            refine PP.zret dX3_takeThing_66 rfl (by first | decide | omega) ?_
            exact ⟨rfl, rfl⟩
theorem ok_takePlace_t {σ : Sg} {x : RS} {t : Nat} {s f : Int} (hx : wfS x) (hD : DR σ 3 x.1 x.2.1) (hR : RW σ 9 x.1 x.2.2.1) (hs : 0 ≤ s ∧ s ≤ 99) (hf : 0 ≤ f ∧ f ≤ 99) (hc : cPl x (t : Int) s f) : OK SHc mX3_takePlace 3 [vR 2, vI (t : Int), vI s, vI f] σ (RV 1 (stdU σ 9 t s f (sidV x.1 t s))) := by
  obtain ⟨c1, c2, c3, c4⟩ := hc
  rw [Int.toNat_natCast] at c3 c4
  have hw := hx.1
  have hn7 := hw.2.1
  have hsl := hw.2.2.1
  have ht : t < x.2.1 := by omega
  have hC : RC σ 9 3 x.1 x.2.1 (fun t => x.2.2.1 (2 + t)) (fun t => x.2.2.1 (9 + t)) := ⟨RK9, DK3, hw, hx.2.1, hD, hR.1⟩
  have hfit := (fitS_t.mp c4).1
  have hW := (hw.2.2.2.2.2.1 t ht).2.1
  have hin : inS (fun t => x.2.2.1 (2 + t)) t = false := by simp [inS]; omega
  refine OK.enter (L' := [vR 2, vI (t : Int), vI s, vI f]) (by decide +kernel) (by simp [ent0]) rfl ?_
  refine PP.aload_n dX3_takePlace_0 rfl ?_
  refine PP.getfR dX3_takePlace_1 fl_X3_12 sc2 rfl ?_
  refine PP.iload_n dX3_takePlace_4 rfl ?_
  refine PP.callVi (ok_has DK3 hw hD (by unfold R32; omega)) dX3_takePlace_5 vl_X3_111 sc3 rfl rfl rfl rfl (Nat.le_of_ble_eq_true rfl) (Nat.le_of_ble_eq_true rfl) ?_
  refine PP.if_eq (tgt := 52) (by first | omega | exact b2i_R _ | (unfold R32; omega)) dX3_takePlace_8 (by decide) (fun h8 => ?_) (fun h8 => ?_)
  · rw [decide_eq_true (by omega)] at h8; cases h8
  · refine PP.aload_n dX3_takePlace_11 rfl ?_
    refine PP.getfR dX3_takePlace_12 fl_X3_12 sc2 rfl ?_
    refine PP.iload_n dX3_takePlace_15 rfl ?_
    refine PP.callVi (ok_hasSlot DK3 hw hD (by unfold R32; omega)) dX3_takePlace_16 vl_X3_114 sc3 rfl rfl rfl rfl (Nat.le_of_ble_eq_true rfl) (Nat.le_of_ble_eq_true rfl) ?_
    refine PP.if_eq (tgt := 52) (by first | omega | exact b2i_R _ | (unfold R32; omega)) dX3_takePlace_19 (by decide) (fun h19 => ?_) (fun h19 => ?_)
    · rw [decide_eq_true (by omega)] at h19; cases h19
    · refine PP.iload_n dX3_takePlace_22 rfl ?_
      refine PP.callNi (ok_isBit (by unfold R32; omega)) dX3_takePlace_23 nl_X3_117 rfl rfl (Nat.le_of_ble_eq_true rfl) (Nat.le_of_ble_eq_true rfl) ?_
      refine PP.if_eq (tgt := 52) (by first | omega | exact b2i_R _ | (unfold R32; omega)) dX3_takePlace_26 (by decide) (fun h26 => ?_) (fun h26 => ?_)
      · rw [decide_eq_true (by omega)] at h26; cases h26
      · refine PP.aload_n dX3_takePlace_29 rfl ?_
        refine PP.getfR dX3_takePlace_30 fl_X3_23 sc2 rfl ?_
        refine PP.iload_n dX3_takePlace_33 rfl ?_
        refine PP.callVi (ok_in hC (t := t) (by omega)) dX3_takePlace_34 vl_X3_120 sc9 rfl rfl rfl rfl (Nat.le_of_ble_eq_true rfl) (Nat.le_of_ble_eq_true rfl) ?_
        refine PP.if_ne (tgt := 52) (by first | omega | exact b2i_R _ | (unfold R32; omega)) dX3_takePlace_37 (by decide) (fun h37 => ?_) (fun h37 => ?_)
        · rw [hin] at h37; exact absurd rfl h37
        · refine PP.aload_n dX3_takePlace_40 rfl ?_
          refine PP.getfR dX3_takePlace_41 fl_X3_23 sc2 rfl ?_
          refine PP.iload_n dX3_takePlace_44 rfl ?_
          refine PP.iload_n dX3_takePlace_45 rfl ?_
          refine PP.callVi (ok_fits hC ht (by omega)) dX3_takePlace_46 vl_X3_123 sc9 rfl rfl rfl rfl (Nat.le_of_ble_eq_true rfl) (Nat.le_of_ble_eq_true rfl) ?_
          refine PP.if_ne (tgt := 54) (by first | omega | exact b2i_R _ | (unfold R32; omega)) dX3_takePlace_49 (by decide) (fun h49 => ?_) (fun h49 => ?_)
          · refine PP.aload_n dX3_takePlace_54 rfl ?_
            refine PP.getfR dX3_takePlace_55 fl_X3_23 sc2 rfl ?_
            refine PP.iload_n dX3_takePlace_58 rfl ?_
            refine PP.iload_n dX3_takePlace_59 rfl ?_
            refine PP.iload_n dX3_takePlace_60 rfl ?_
            refine PP.callVn (ok_stand RK9 DK3 hw hD ht (by omega) (by omega)) dX3_takePlace_61 vl_X3_126 sc9 rfl rfl rfl rfl (Nat.le_of_ble_eq_true rfl) (Nat.le_of_ble_eq_true rfl) ?_
            refine PP.iconst dX3_takePlace_64 ?_
            refine PP.zret dX3_takePlace_65 rfl (by first | decide | omega) ?_
            exact ⟨rfl, rfl⟩
          · rw [c4] at h49; cases h49
theorem ok_takePlace_f {σ : Sg} {x : RS} {t s f : Int} (hx : wfS x) (hD : DR σ 3 x.1 x.2.1) (hR : RW σ 9 x.1 x.2.2.1) (ht0 : 0 ≤ t ∧ t ≤ 99) (hs : 0 ≤ s ∧ s ≤ 99) (hf : 0 ≤ f ∧ f ≤ 99) (hc : ¬ cPl x t s f) : OK SHc mX3_takePlace 3 [vR 2, vI t, vI s, vI f] σ (RV 0 σ) := by
  have hw := hx.1
  have hn7 := hw.2.1
  have hsl := hw.2.2.1
  obtain ⟨t, rfl⟩ : ∃ j : Nat, t = (j : Int) := ⟨t.toNat, by omega⟩
  unfold cPl at hc
  rw [Int.toNat_natCast] at hc
  have hC : RC σ 9 3 x.1 x.2.1 (fun t => x.2.2.1 (2 + t)) (fun t => x.2.2.1 (9 + t)) := ⟨RK9, DK3, hw, hx.2.1, hD, hR.1⟩
  refine OK.enter (L' := [vR 2, vI (t : Int), vI s, vI f]) (by decide +kernel) (by simp [ent0]) rfl ?_
  refine PP.aload_n dX3_takePlace_0 rfl ?_
  refine PP.getfR dX3_takePlace_1 fl_X3_12 sc2 rfl ?_
  refine PP.iload_n dX3_takePlace_4 rfl ?_
  refine PP.callVi (ok_has DK3 hw hD (by unfold R32; omega)) dX3_takePlace_5 vl_X3_111 sc3 rfl rfl rfl rfl (Nat.le_of_ble_eq_true rfl) (Nat.le_of_ble_eq_true rfl) ?_
  refine PP.if_eq (tgt := 52) (by first | omega | exact b2i_R _ | (unfold R32; omega)) dX3_takePlace_8 (by decide) (fun h8 => ?_) (fun h8 => ?_)
  · refine PP.iconst dX3_takePlace_52 ?_
    refine PP.zret dX3_takePlace_53 rfl (by first | decide | omega) ?_
    exact ⟨rfl, rfl⟩
  · have q1 := of_decide_eq_true (b2i_n.mp h8)
    have ht : t < x.2.1 := by omega
    refine PP.aload_n dX3_takePlace_11 rfl ?_
    refine PP.getfR dX3_takePlace_12 fl_X3_12 sc2 rfl ?_
    refine PP.iload_n dX3_takePlace_15 rfl ?_
    refine PP.callVi (ok_hasSlot DK3 hw hD (by unfold R32; omega)) dX3_takePlace_16 vl_X3_114 sc3 rfl rfl rfl rfl (Nat.le_of_ble_eq_true rfl) (Nat.le_of_ble_eq_true rfl) ?_
    refine PP.if_eq (tgt := 52) (by first | omega | exact b2i_R _ | (unfold R32; omega)) dX3_takePlace_19 (by decide) (fun h19 => ?_) (fun h19 => ?_)
    · refine PP.iconst dX3_takePlace_52 ?_
      refine PP.zret dX3_takePlace_53 rfl (by first | decide | omega) ?_
      exact ⟨rfl, rfl⟩
    · have q2 := of_decide_eq_true (b2i_n.mp h19)
      refine PP.iload_n dX3_takePlace_22 rfl ?_
      refine PP.callNi (ok_isBit (by unfold R32; omega)) dX3_takePlace_23 nl_X3_117 rfl rfl (Nat.le_of_ble_eq_true rfl) (Nat.le_of_ble_eq_true rfl) ?_
      refine PP.if_eq (tgt := 52) (by first | omega | exact b2i_R _ | (unfold R32; omega)) dX3_takePlace_26 (by decide) (fun h26 => ?_) (fun h26 => ?_)
      · refine PP.iconst dX3_takePlace_52 ?_
        refine PP.zret dX3_takePlace_53 rfl (by first | decide | omega) ?_
        exact ⟨rfl, rfl⟩
      · have q3 := of_decide_eq_true (b2i_n.mp h26)
        refine PP.aload_n dX3_takePlace_29 rfl ?_
        refine PP.getfR dX3_takePlace_30 fl_X3_23 sc2 rfl ?_
        refine PP.iload_n dX3_takePlace_33 rfl ?_
        refine PP.callVi (ok_in hC (t := t) (by omega)) dX3_takePlace_34 vl_X3_120 sc9 rfl rfl rfl rfl (Nat.le_of_ble_eq_true rfl) (Nat.le_of_ble_eq_true rfl) ?_
        refine PP.if_ne (tgt := 52) (by first | omega | exact b2i_R _ | (unfold R32; omega)) dX3_takePlace_37 (by decide) (fun h37 => ?_) (fun h37 => ?_)
        · refine PP.iconst dX3_takePlace_52 ?_
          refine PP.zret dX3_takePlace_53 rfl (by first | decide | omega) ?_
          exact ⟨rfl, rfl⟩
        · refine PP.aload_n dX3_takePlace_40 rfl ?_
          refine PP.getfR dX3_takePlace_41 fl_X3_23 sc2 rfl ?_
          refine PP.iload_n dX3_takePlace_44 rfl ?_
          refine PP.iload_n dX3_takePlace_45 rfl ?_
          refine PP.callVi (ok_fits hC ht (by omega)) dX3_takePlace_46 vl_X3_123 sc9 rfl rfl rfl rfl (Nat.le_of_ble_eq_true rfl) (Nat.le_of_ble_eq_true rfl) ?_
          refine PP.if_ne (tgt := 54) (by first | omega | exact b2i_R _ | (unfold R32; omega)) dX3_takePlace_49 (by decide) (fun h49 => ?_) (fun h49 => ?_)
          · exfalso
            have q4 := b2i_0.mp h37
            simp [inS] at q4
            exact hc ⟨by omega, by omega, by omega, b2i_n.mp h49⟩
          · refine PP.iconst dX3_takePlace_52 ?_
            refine PP.zret dX3_takePlace_53 rfl (by first | decide | omega) ?_
            exact ⟨rfl, rfl⟩
theorem ok_takeArm_t {σ : Sg} {a : Int} (h : 1 ≤ a ∧ a ≤ 9) : OK SHc mX3_takeArm 2 [vR 2, vI a] σ (RV 1 (up σ 3 2 a)) := by
  refine OK.enter (L' := [vR 2, vI a]) (by decide +kernel) (by simp [ent0]) rfl ?_
  refine PP.iload_n dX3_takeArm_0 rfl ?_
  refine PP.bipush dX3_takeArm_1 (by decide) ?_
  refine PP.callSi (ok_isWithin (x := a) (y := 9) (by unfold R32; omega) (by unfold R32; omega)) dX3_takeArm_3 sl_X3_96 rfl rfl (Nat.le_of_ble_eq_true rfl) (Nat.le_of_ble_eq_true rfl) ?_
  refine PP.if_ne (tgt := 11) (by first | omega | exact b2i_R _ | (unfold R32; omega)) dX3_takeArm_6 (by decide) (fun h6 => ?_) (fun h6 => ?_)
  · refine PP.aload_n dX3_takeArm_11 rfl ?_
    refine PP.getfR dX3_takeArm_12 fl_X3_12 sc2 rfl ?_
    refine PP.iload_n dX3_takeArm_15 rfl ?_
    refine PP.putI dX3_takeArm_16 fp_X3_130 sc3 rfl (by first | omega | exact b2i_R _ | (unfold R32; omega)) ?_
    refine PP.iconst dX3_takeArm_19 ?_
    refine PP.zret dX3_takeArm_20 rfl (by first | decide | omega) ?_
    exact ⟨rfl, rfl⟩
  · rw [decide_eq_true h] at h6; cases h6
theorem ok_takeArm_f {σ : Sg} {a : Int} (ha : 0 ≤ a ∧ a ≤ 99) (h : ¬ (1 ≤ a ∧ a ≤ 9)) : OK SHc mX3_takeArm 2 [vR 2, vI a] σ (RV 0 σ) := by
  refine OK.enter (L' := [vR 2, vI a]) (by decide +kernel) (by simp [ent0]) rfl ?_
  refine PP.iload_n dX3_takeArm_0 rfl ?_
  refine PP.bipush dX3_takeArm_1 (by decide) ?_
  refine PP.callSi (ok_isWithin (x := a) (y := 9) (by unfold R32; omega) (by unfold R32; omega)) dX3_takeArm_3 sl_X3_96 rfl rfl (Nat.le_of_ble_eq_true rfl) (Nat.le_of_ble_eq_true rfl) ?_
  refine PP.if_ne (tgt := 11) (by first | omega | exact b2i_R _ | (unfold R32; omega)) dX3_takeArm_6 (by decide) (fun h6 => ?_) (fun h6 => ?_)
  · rw [decide_eq_false h] at h6; exact absurd rfl h6
  · refine PP.iconst dX3_takeArm_9 ?_
    refine PP.zret dX3_takeArm_10 rfl (by first | decide | omega) ?_
    exact ⟨rfl, rfl⟩
theorem ok_takeWater_t {σ : Sg} {a : Int} (h : 1 ≤ a ∧ a ≤ 9) : OK SHc mX3_takeWater 2 [vR 2, vI a] σ (RV 1 (up σ 9 5 a)) := by
  refine OK.enter (L' := [vR 2, vI a]) (by decide +kernel) (by simp [ent0]) rfl ?_
  refine PP.iload_n dX3_takeWater_0 rfl ?_
  refine PP.bipush dX3_takeWater_1 (by decide) ?_
  refine PP.callSi (ok_isWithin (x := a) (y := 9) (by unfold R32; omega) (by unfold R32; omega)) dX3_takeWater_3 sl_X3_96 rfl rfl (Nat.le_of_ble_eq_true rfl) (Nat.le_of_ble_eq_true rfl) ?_
  refine PP.if_ne (tgt := 11) (by first | omega | exact b2i_R _ | (unfold R32; omega)) dX3_takeWater_6 (by decide) (fun h6 => ?_) (fun h6 => ?_)
  · refine PP.aload_n dX3_takeWater_11 rfl ?_
    refine PP.getfR dX3_takeWater_12 fl_X3_23 sc2 rfl ?_
    refine PP.iload_n dX3_takeWater_15 rfl ?_
    refine PP.putI dX3_takeWater_16 fp_X3_56 sc9 rfl (by first | omega | exact b2i_R _ | (unfold R32; omega)) ?_
    refine PP.iconst dX3_takeWater_19 ?_
    refine PP.zret dX3_takeWater_20 rfl (by first | decide | omega) ?_
    exact ⟨rfl, rfl⟩
  · rw [decide_eq_true h] at h6; cases h6
theorem ok_takeWater_f {σ : Sg} {a : Int} (ha : 0 ≤ a ∧ a ≤ 99) (h : ¬ (1 ≤ a ∧ a ≤ 9)) : OK SHc mX3_takeWater 2 [vR 2, vI a] σ (RV 0 σ) := by
  refine OK.enter (L' := [vR 2, vI a]) (by decide +kernel) (by simp [ent0]) rfl ?_
  refine PP.iload_n dX3_takeWater_0 rfl ?_
  refine PP.bipush dX3_takeWater_1 (by decide) ?_
  refine PP.callSi (ok_isWithin (x := a) (y := 9) (by unfold R32; omega) (by unfold R32; omega)) dX3_takeWater_3 sl_X3_96 rfl rfl (Nat.le_of_ble_eq_true rfl) (Nat.le_of_ble_eq_true rfl) ?_
  refine PP.if_ne (tgt := 11) (by first | omega | exact b2i_R _ | (unfold R32; omega)) dX3_takeWater_6 (by decide) (fun h6 => ?_) (fun h6 => ?_)
  · rw [decide_eq_false h] at h6; exact absurd rfl h6
  · refine PP.iconst dX3_takeWater_9 ?_
    refine PP.zret dX3_takeWater_10 rfl (by first | decide | omega) ?_
    exact ⟨rfl, rfl⟩
theorem ok_takeCost_t {σ : Sg} {h : Nat} {a : Int} (hh : h ≤ 23) (ha : 1 ≤ a ∧ a ≤ 99) : OK SHc mX3_takeCost 2 [vR 2, vI (h : Int), vI a] σ (RV 1 (up σ 8 h a)) := by
  refine OK.enter (L' := [vR 2, vI (h : Int), vI a]) (by decide +kernel) (by simp [ent0]) rfl ?_
  refine PP.iload_n dX3_takeCost_0 rfl ?_
  refine PP.callNi (ok_isHour (by unfold R32; omega)) dX3_takeCost_1 nl_X3_133 rfl rfl (Nat.le_of_ble_eq_true rfl) (Nat.le_of_ble_eq_true rfl) ?_
  refine PP.if_eq (tgt := 16) (by first | omega | exact b2i_R _ | (unfold R32; omega)) dX3_takeCost_4 (by decide) (fun h4 => ?_) (fun h4 => ?_)
  · rw [decide_eq_true (by omega)] at h4; cases h4
  · refine PP.iload_n dX3_takeCost_7 rfl ?_
    refine PP.bipush dX3_takeCost_8 (by decide) ?_
    refine PP.callSi (ok_isWithin (x := a) (y := 99) (by unfold R32; omega) (by unfold R32; omega)) dX3_takeCost_10 sl_X3_96 rfl rfl (Nat.le_of_ble_eq_true rfl) (Nat.le_of_ble_eq_true rfl) ?_
    refine PP.if_ne (tgt := 18) (by first | omega | exact b2i_R _ | (unfold R32; omega)) dX3_takeCost_13 (by decide) (fun h13 => ?_) (fun h13 => ?_)
    · refine PP.aload_n dX3_takeCost_18 rfl ?_
      refine PP.getfR dX3_takeCost_19 fl_X3_12 sc2 rfl ?_
      refine PP.getfR dX3_takeCost_22 fl_X3_136 sc3 rfl ?_
      refine PP.iload_n dX3_takeCost_25 rfl ?_
      refine PP.iload_n dX3_takeCost_26 rfl ?_
      refine PP.iastoreN (n := h) sc8 (by first | decide | omega) (by first | rfl | omega) (by first | omega | exact b2i_R _ | (unfold R32; omega)) (by first | omega | exact b2i_R _ | (unfold R32; omega)) dX3_takeCost_27 ?_
      refine PP.iconst dX3_takeCost_28 ?_
      refine PP.zret dX3_takeCost_29 rfl (by first | decide | omega) ?_
      exact ⟨rfl, rfl⟩
    · rw [decide_eq_true ha] at h13; cases h13
theorem ok_takeCost_f {σ : Sg} {h a : Int} (hh0 : 0 ≤ h ∧ h ≤ 99) (ha : 0 ≤ a ∧ a ≤ 99) (hc : ¬ (h ≤ 23 ∧ 1 ≤ a)) : OK SHc mX3_takeCost 2 [vR 2, vI h, vI a] σ (RV 0 σ) := by
  refine OK.enter (L' := [vR 2, vI h, vI a]) (by decide +kernel) (by simp [ent0]) rfl ?_
  refine PP.iload_n dX3_takeCost_0 rfl ?_
  refine PP.callNi (ok_isHour (by unfold R32; omega)) dX3_takeCost_1 nl_X3_133 rfl rfl (Nat.le_of_ble_eq_true rfl) (Nat.le_of_ble_eq_true rfl) ?_
  refine PP.if_eq (tgt := 16) (by first | omega | exact b2i_R _ | (unfold R32; omega)) dX3_takeCost_4 (by decide) (fun h4 => ?_) (fun h4 => ?_)
  · refine PP.iconst dX3_takeCost_16 ?_
    refine PP.zret dX3_takeCost_17 rfl (by first | decide | omega) ?_
    exact ⟨rfl, rfl⟩
  · refine PP.iload_n dX3_takeCost_7 rfl ?_
    refine PP.bipush dX3_takeCost_8 (by decide) ?_
    refine PP.callSi (ok_isWithin (x := a) (y := 99) (by unfold R32; omega) (by unfold R32; omega)) dX3_takeCost_10 sl_X3_96 rfl rfl (Nat.le_of_ble_eq_true rfl) (Nat.le_of_ble_eq_true rfl) ?_
    refine PP.if_ne (tgt := 18) (by first | omega | exact b2i_R _ | (unfold R32; omega)) dX3_takeCost_13 (by decide) (fun h13 => ?_) (fun h13 => ?_)
    · have q1 := of_decide_eq_true (b2i_n.mp h4)
      have q2 := of_decide_eq_true (b2i_n.mp h13)
      omega
    · refine PP.iconst dX3_takeCost_16 ?_
      refine PP.zret dX3_takeCost_17 rfl (by first | decide | omega) ?_
      exact ⟨rfl, rfl⟩
