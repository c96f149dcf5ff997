/-! the model: hours, chances, days -/
theorem hrS_mod (T : Nat → Int) (h : Nat) : ∀ k, hrS T (h % 24) k = hrS T h k
  | 0 => by rw [hrS, hrS]; omega
  | k + 1 => by rw [hrS, hrS, hrS_mod T h k, show (h % 24 + (k + 1)) % 24 = (h + (k + 1)) % 24 by omega]
theorem x_run {σ : Sg} {A : ST} {h m what : Int} (hA : RepM σ A) (hW : WF A) (hx : R32 h) (hx2 : R32 m) (hx3 : R32 what) {d : Nat} (hd : 4 ≤ d) : OK SHm mX6_run d [vR 0, vI h, vI m, vI what] σ (RV (qRun A h m what) σ) := by
  obtain ⟨len, txt, T, n, row, und, kep, sn⟩ := A
  obtain ⟨b1, b2, b3, b4, b5, b6, b7⟩ := RepM_e.mp hA
  obtain ⟨w1, w2, w3, w4, w5, w6, w7, w8, w9⟩ := WF_e.mp hW
  have hn7 := w3.2.1
  have hsl := w3.2.2.1
  have hws := wsh_m w5
  have hst := w5.2.1
  have t3 : σ 2 3 = (n : Int) := (b3 3 (by decide)).trans w3.1
  have t0 := b3 0 (by decide)
  have r0 := b4 0 (by decide)
  have r1 : σ 4 1 = ((msk (wsh row) n : Nat) : Int) := (b4 1 (by decide)).trans hws
  have hc := w3.2.2.2.2.2.2
  simp only [qRun, isZ]
  refine OK.enter (L' := [vR 0, vI h, vI m, vI what, vN, vN, vN]) (by decide +kernel) (by simp [ent0]) rfl ?_
  by_cases ht : (0 ≤ h ∧ h < 24) ∧ (1 ≤ m ∧ m ≤ 24) ∧ (what = 0 ∨ what = 1)
  · obtain ⟨i, rfl⟩ : ∃ i : Nat, h = (i : Int) := ⟨h.toNat, by omega⟩
    obtain ⟨k, rfl⟩ : ∃ k : Nat, m = ((k + 1 : Nat) : Int) := ⟨m.toNat - 1, by omega⟩
    rw [if_neg (fun h => h ht), Int.toNat_natCast, Int.toNat_natCast, Nat.add_sub_cancel]
    have key : ∀ o, o ≤ k → PP SHm mX6_run d 42 [vR 0, vI (i : Int), vI ((k + 1 : Nat) : Int), vI what, vI (hrS T i o : Nat), vI ((o : Int) + 1), vN] [] σ (RV (if what = 0 then ((hrS T i k : Nat) : Int) else T (32 + hrS T i k)) σ) := by
      refine loop_dn k ?_ ?_
      · have q1 := hrS_lt T i k
        have g := b3 (32 + hrS T i k) (by omega)
        refine PP.iload dX6_run_42 rfl ?_
        refine PP.iload_n dX6_run_44 rfl ?_
        refine PP.icmp_ge (tgt := 95) (by first | omega | (unfold R32; omega)) (by first | omega | (unfold R32; omega)) dX6_run_45 (by decide) (fun h45 => ?_) (fun h45 => ?_)
        · refine PP.iload_n dX6_run_95 rfl ?_
          refine PP.if_ne (tgt := 104) (by first | omega | (unfold R32; omega)) dX6_run_96 (by decide) (fun h96 => ?_) (fun h96 => ?_)
          · refine PP.aload_n dX6_run_104 rfl ?_
            refine PP.getfR dX6_run_105 fl_X6_13 sm0 rfl ?_
            refine PP.bipush dX6_run_108 (by decide) ?_
            refine PP.iload dX6_run_110 rfl ?_
            refine PP.iadd dX6_run_112 ?_
            refine PP.ialoadN (n := (32 + (hrS T i k))) sm2 (by first | decide | omega) (by first | rfl | omega) (by first | omega | (unfold R32; omega)) dX6_run_113 ?_
            refine PP.iret dX6_run_114 rfl ?_
            first
            | (rw [if_pos (by omega)]; exact RVe rfl)
            | (rw [if_neg (by omega)]; exact RVe g)
          · refine PP.iload dX6_run_99 rfl ?_
            refine PP.goto (tgt := 114) dX6_run_101 (by decide) ?_
            refine PP.iret dX6_run_114 rfl ?_
            first
            | (rw [if_pos (by omega)]; exact RVe rfl)
            | (rw [if_neg (by omega)]; exact RVe g)
        · omega
      · intro o ho ih
        have q1 := hrS_lt T i o
        have q2 := Nat.mod_lt (i + (o + 1)) (show 0 < 24 by decide)
        have q3 := hc _ q1
        have q4 := hc _ q2
        have g1 := b3 (32 + hrS T i o) (by omega)
        have g2 := b3 (32 + (i + (o + 1)) % 24) (by omega)
        have eo : ((i : Int) + ((o : Int) + 1)) % 24 = (((i + (o + 1)) % 24 : Nat) : Int) := by omega
        rw [hrS] at ih
        have ihY : T (32 + (i + (o + 1)) % 24) < T (32 + hrS T i o) → PP SHm mX6_run d 42 [vR 0, vI (i : Int), vI ((k + 1 : Nat) : Int), vI what, vI ((i + (o + 1)) % 24 : Nat), vI ((o : Int) + 1 + 1), vN] [] σ (RV (if what = 0 then ((hrS T i k : Nat) : Int) else T (32 + hrS T i k)) σ) := fun h => by rw [if_pos h] at ih; exact ih
        have ihN : ¬ T (32 + (i + (o + 1)) % 24) < T (32 + hrS T i o) → PP SHm mX6_run d 42 [vR 0, vI (i : Int), vI ((k + 1 : Nat) : Int), vI what, vI (hrS T i o : Nat), vI ((o : Int) + 1 + 1), vN] [] σ (RV (if what = 0 then ((hrS T i k : Nat) : Int) else T (32 + hrS T i k)) σ) := fun h => by rw [if_neg h] at ih; exact ih
        refine PP.iload dX6_run_42 rfl ?_
        refine PP.iload_n dX6_run_44 rfl ?_
        refine PP.icmp_ge (tgt := 95) (by first | omega | (unfold R32; omega)) (by first | omega | (unfold R32; omega)) dX6_run_45 (by decide) (fun h45 => ?_) (fun h45 => ?_)
        · omega
        · refine PP.iload_n dX6_run_48 rfl ?_
          refine PP.iload dX6_run_49 rfl ?_
          refine PP.iadd dX6_run_51 ?_
          refine PP.bipush dX6_run_52 (by decide) ?_
          refine PP.irem (by first | omega | (unfold R32; omega)) (by first | omega | (unfold R32; omega)) (by first | omega | (unfold R32; omega)) (by first | omega | (unfold R32; omega)) dX6_run_54 ?_
          refine PP.eqI eo ?_
          refine PP.istore (L' := [_, _, _, _, _, _, _]) dX6_run_55 (Nat.le_of_ble_eq_true rfl) rfl rfl ?_
          refine PP.aload_n dX6_run_57 rfl ?_
          refine PP.getfR dX6_run_58 fl_X6_13 sm0 rfl ?_
          refine PP.bipush dX6_run_61 (by decide) ?_
          refine PP.iload dX6_run_63 rfl ?_
          refine PP.iadd dX6_run_65 ?_
          refine PP.ialoadN (n := (32 + (i + (o + 1)) % 24)) sm2 (by first | decide | omega) (by omega) (by first | omega | (unfold R32; omega)) dX6_run_66 ?_
          refine PP.aload_n dX6_run_67 rfl ?_
          refine PP.getfR dX6_run_68 fl_X6_13 sm0 rfl ?_
          refine PP.bipush dX6_run_71 (by decide) ?_
          refine PP.iload dX6_run_73 rfl ?_
          refine PP.iadd dX6_run_75 ?_
          refine PP.ialoadN (n := (32 + (hrS T i o))) sm2 (by first | decide | omega) (by first | rfl | omega) (by first | omega | (unfold R32; omega)) dX6_run_76 ?_
          refine PP.icmp_ge (tgt := 85) (by first | omega | (unfold R32; omega)) (by first | omega | (unfold R32; omega)) dX6_run_77 (by decide) (fun h77 => ?_) (fun h77 => ?_)
          · refine PP.iload dX6_run_85 rfl ?_
            refine PP.istore (L' := [_, _, _, _, _, _, _]) dX6_run_87 (Nat.le_of_ble_eq_true rfl) rfl rfl ?_
            refine PP.iinc (L' := [_, _, _, _, _, _, _]) dX6_run_89 rfl rfl rfl ?_
            refine PP.goto (tgt := 42) dX6_run_92 (by decide) ?_
            refine PP.frg 6 (L' := [_, _, _, _, _, _, _]) rfl ?_
            first
              | exact ihY (by omega)
              | exact ihN (by omega)
          · refine PP.iload dX6_run_80 rfl ?_
            refine PP.goto (tgt := 87) dX6_run_82 (by decide) ?_
            refine PP.istore (L' := [_, _, _, _, _, _, _]) dX6_run_87 (Nat.le_of_ble_eq_true rfl) rfl rfl ?_
            refine PP.iinc (L' := [_, _, _, _, _, _, _]) dX6_run_89 rfl rfl rfl ?_
            refine PP.goto (tgt := 42) dX6_run_92 (by decide) ?_
            refine PP.frg 6 (L' := [_, _, _, _, _, _, _]) rfl ?_
            first
              | exact ihY (by omega)
              | exact ihN (by omega)
    refine PP.iload_n dX6_run_0 rfl ?_
    refine PP.i2l (by first | omega | assumption | exact b2i_R _ | (unfold R32; omega)) dX6_run_1 ?_
    refine PP.lconst (z := 0) dX6_run_2 (by decide) ?_
    refine PP.ldc2 (z := 23) dX6_run_3 bw1067 ?_
    refine PP.callSi (m_in hx (by unfold R32; omega) (by unfold R32; omega)) dX6_run_6 sl_X6_70 rfl rfl (Nat.le_of_ble_eq_true rfl) (by first | exact Nat.le_of_ble_eq_true rfl | omega) ?_
    refine PP.if_eq (tgt := 34) (by first | omega | assumption | exact b2i_R _ | (unfold R32; omega)) dX6_run_9 (by decide) (fun h9 => ?_) (fun h9 => ?_)
    · rw [decide_eq_true (by omega)] at h9; cases h9
    · refine PP.iload_n dX6_run_12 rfl ?_
      refine PP.i2l (by first | omega | assumption | exact b2i_R _ | (unfold R32; omega)) dX6_run_13 ?_
      refine PP.lconst (z := 1) dX6_run_14 (by decide) ?_
      refine PP.ldc2 (z := 24) dX6_run_15 bw1068 ?_
      refine PP.callSi (m_in hx2 (by unfold R32; omega) (by unfold R32; omega)) dX6_run_18 sl_X6_70 rfl rfl (Nat.le_of_ble_eq_true rfl) (by first | exact Nat.le_of_ble_eq_true rfl | omega) ?_
      refine PP.if_eq (tgt := 34) (by first | omega | assumption | exact b2i_R _ | (unfold R32; omega)) dX6_run_21 (by decide) (fun h21 => ?_) (fun h21 => ?_)
      · rw [decide_eq_true (by omega)] at h21; cases h21
      · refine PP.iload_n dX6_run_24 rfl ?_
        refine PP.i2l (by first | omega | assumption | exact b2i_R _ | (unfold R32; omega)) dX6_run_25 ?_
        refine PP.lconst (z := 0) dX6_run_26 (by decide) ?_
        refine PP.lconst (z := 1) dX6_run_27 (by decide) ?_
        refine PP.callSi (m_in hx3 (by unfold R32; omega) (by unfold R32; omega)) dX6_run_28 sl_X6_70 rfl rfl (Nat.le_of_ble_eq_true rfl) (by first | exact Nat.le_of_ble_eq_true rfl | omega) ?_
        refine PP.if_ne (tgt := 36) (by first | omega | assumption | exact b2i_R _ | (unfold R32; omega)) dX6_run_31 (by decide) (fun h31 => ?_) (fun h31 => ?_)
        · refine PP.iload_n dX6_run_36 rfl ?_
          refine PP.istore (L' := [_, _, _, _, _, _, _]) dX6_run_37 (Nat.le_of_ble_eq_true rfl) rfl rfl ?_
          refine PP.iconst dX6_run_39 ?_
          refine PP.istore (L' := [_, _, _, _, _, _, _]) dX6_run_40 (Nat.le_of_ble_eq_true rfl) rfl rfl ?_
          exact PP.eqL (by rw [hrS, Nat.mod_eq_of_lt (by omega)]; rfl) (key 0 (by omega))
        · rw [decide_eq_true (by omega)] at h31; cases h31
  · rw [if_pos ht]
    refine PP.iload_n dX6_run_0 rfl ?_
    refine PP.i2l (by first | omega | assumption | exact b2i_R _ | (unfold R32; omega)) dX6_run_1 ?_
    refine PP.lconst (z := 0) dX6_run_2 (by decide) ?_
    refine PP.ldc2 (z := 23) dX6_run_3 bw1067 ?_
    refine PP.callSi (m_in hx (by unfold R32; omega) (by unfold R32; omega)) dX6_run_6 sl_X6_70 rfl rfl (Nat.le_of_ble_eq_true rfl) (by first | exact Nat.le_of_ble_eq_true rfl | omega) ?_
    refine PP.if_eq (tgt := 34) (by first | omega | assumption | exact b2i_R _ | (unfold R32; omega)) dX6_run_9 (by decide) (fun h9 => ?_) (fun h9 => ?_)
    · refine PP.iconst dX6_run_34 ?_
      refine PP.iret dX6_run_35 rfl ?_
      exact RVe rfl
    · refine PP.iload_n dX6_run_12 rfl ?_
      refine PP.i2l (by first | omega | assumption | exact b2i_R _ | (unfold R32; omega)) dX6_run_13 ?_
      refine PP.lconst (z := 1) dX6_run_14 (by decide) ?_
      refine PP.ldc2 (z := 24) dX6_run_15 bw1068 ?_
      refine PP.callSi (m_in hx2 (by unfold R32; omega) (by unfold R32; omega)) dX6_run_18 sl_X6_70 rfl rfl (Nat.le_of_ble_eq_true rfl) (by first | exact Nat.le_of_ble_eq_true rfl | omega) ?_
      refine PP.if_eq (tgt := 34) (by first | omega | assumption | exact b2i_R _ | (unfold R32; omega)) dX6_run_21 (by decide) (fun h21 => ?_) (fun h21 => ?_)
      · refine PP.iconst dX6_run_34 ?_
        refine PP.iret dX6_run_35 rfl ?_
        exact RVe rfl
      · refine PP.iload_n dX6_run_24 rfl ?_
        refine PP.i2l (by first | omega | assumption | exact b2i_R _ | (unfold R32; omega)) dX6_run_25 ?_
        refine PP.lconst (z := 0) dX6_run_26 (by decide) ?_
        refine PP.lconst (z := 1) dX6_run_27 (by decide) ?_
        refine PP.callSi (m_in hx3 (by unfold R32; omega) (by unfold R32; omega)) dX6_run_28 sl_X6_70 rfl rfl (Nat.le_of_ble_eq_true rfl) (by first | exact Nat.le_of_ble_eq_true rfl | omega) ?_
        refine PP.if_ne (tgt := 36) (by first | omega | assumption | exact b2i_R _ | (unfold R32; omega)) dX6_run_31 (by decide) (fun h31 => ?_) (fun h31 => ?_)
        · exact absurd ⟨by have := of_decide_eq_true (b2i_n.mp h9); omega, of_decide_eq_true (b2i_n.mp h21), by have := of_decide_eq_true (b2i_n.mp h31); omega⟩ ht
        · refine PP.iconst dX6_run_34 ?_
          refine PP.iret dX6_run_35 rfl ?_
          exact RVe rfl
theorem x_isClean {σ : Sg} {A : ST} {x s u c part : Int} (hA : RepM σ A) (h1 : R32 x) (h2 : R32 s) (h3 : R32 u) (h4 : R32 c) (h5 : R32 part) : OK SHm mX6_isClean 20 [vR 0, vI x, vI s, vI u, vI c, vI part] σ (RP (fun v τ => v = qIsClean x s u c part ∧ RepM τ A)) := by
  simp only [qIsClean, isZ]
  refine OK.enter (L' := [vR 0, vI x, vI s, vI u, vI c, vI part, vN, vN, vN, vN, vN]) (by decide +kernel) (by simp [ent0]) rfl ?_
  by_cases ht : (0 ≤ x ∧ x ≤ 10) ∧ (0 ≤ s ∧ s ≤ 10) ∧ (0 ≤ u ∧ u ≤ 10) ∧ (0 ≤ c ∧ c ≤ 10) ∧ (part = 0 ∨ part = 1)
  · rw [if_neg (fun h => h ht)]
    obtain ⟨t1, t2, t3, t4, t5⟩ := ht
    have p1 : 0 ≤ 10 * x * s ∧ 10 * x * s ≤ 1000 := ⟨Int.mul_nonneg (by omega) t2.1, Int.mul_le_mul (show 10 * x ≤ 100 by omega) t2.2 t2.1 (by decide)⟩
    have p2 : 0 ≤ (10 - x) * u ∧ (10 - x) * u ≤ 100 := ⟨Int.mul_nonneg (by omega) t3.1, Int.mul_le_mul (show 10 - x ≤ 10 by omega) t3.2 t3.1 (by decide)⟩
    have p3 : 0 ≤ (10 - x) * u * c ∧ (10 - x) * u * c ≤ 1000 := ⟨Int.mul_nonneg p2.1 t4.1, Int.mul_le_mul p2.2 t4.2 t4.1 (by decide)⟩
    obtain ⟨a, ha⟩ : ∃ a : Nat, 10 * x * s = (a : Int) := ⟨(10 * x * s).toNat, by omega⟩
    obtain ⟨b, hb⟩ : ∃ b : Nat, 10 * x * s + (10 - x) * u * c = (b : Int) := ⟨(10 * x * s + (10 - x) * u * c).toNat, by omega⟩
    rw [hb, ha, Int.toNat_natCast, Int.toNat_natCast]
    have ga : a ≤ 2000 := by omega
    have gb : b ≤ 2000 := by omega
    have key : ¬ b = 0 → ∀ (m v w : Nat), w ≤ m → v ≤ 2000 → w ≤ 2000 → Nat.gcd v w = Nat.gcd a b → PP SHm mX6_isClean 20 100 [vR 0, vI x, vI s, vI u, vI c, vI part, vI (a : Int), vI (b : Int), vI (v : Int), vI (w : Int), vN] [] σ (RP (fun v τ => v = (if part = 0 then (a : Int) / (Nat.gcd a b : Nat) else (b : Int) / (Nat.gcd a b : Nat)) ∧ RepM τ A)) := by
      intro hb0
      have gq : 0 < Nat.gcd a b := Nat.gcd_pos_of_pos_right a (by omega)
      have base : ∀ v : Nat, v ≤ 2000 → Nat.gcd v 0 = Nat.gcd a b → PP SHm mX6_isClean 20 100 [vR 0, vI x, vI s, vI u, vI c, vI part, vI (a : Int), vI (b : Int), vI (v : Int), vI ((0 : Nat) : Int), vN] [] σ (RP (fun v τ => v = (if part = 0 then (a : Int) / (Nat.gcd a b : Nat) else (b : Int) / (Nat.gcd a b : Nat)) ∧ RepM τ A)) := by
        intro v hv hg
        rw [Nat.gcd_zero_right] at hg
        rw [← hg] at gq ⊢
        refine PP.iload dX6_isClean_100 rfl ?_
        refine PP.if_eq (tgt := 123) (by first | omega | (unfold R32; omega)) dX6_isClean_102 (by decide) (fun h102 => ?_) (fun h102 => ?_)
        · refine PP.iload dX6_isClean_123 rfl ?_
          refine PP.if_ne (tgt := 136) (by first | omega | (unfold R32; omega)) dX6_isClean_125 (by decide) (fun h125 => ?_) (fun h125 => ?_)
          · refine PP.iload dX6_isClean_136 rfl ?_
            refine PP.iload dX6_isClean_138 rfl ?_
            refine PP.idiv (by first | omega | (unfold R32; omega)) (by first | omega | (unfold R32; omega)) (by first | omega | (unfold R32; omega)) (by first | omega | (unfold R32; omega)) dX6_isClean_140 ?_
            refine PP.iret dX6_isClean_141 rfl ?_
            first
            | (rw [if_pos (by omega)]; exact ⟨_, rfl, rfl, hA⟩)
            | (rw [if_neg (by omega)]; exact ⟨_, rfl, rfl, hA⟩)
          · refine PP.iload dX6_isClean_128 rfl ?_
            refine PP.iload dX6_isClean_130 rfl ?_
            refine PP.idiv (by first | omega | (unfold R32; omega)) (by first | omega | (unfold R32; omega)) (by first | omega | (unfold R32; omega)) (by first | omega | (unfold R32; omega)) dX6_isClean_132 ?_
            refine PP.goto (tgt := 141) dX6_isClean_133 (by decide) ?_
            refine PP.iret dX6_isClean_141 rfl ?_
            first
            | (rw [if_pos (by omega)]; exact ⟨_, rfl, rfl, hA⟩)
            | (rw [if_neg (by omega)]; exact ⟨_, rfl, rfl, hA⟩)
        · exact absurd rfl h102
      intro m
      induction m with
      | zero =>
        intro v w h1 h2 h3 hg
        obtain rfl : w = 0 := by omega
        exact base v h2 hg
      | succ m ih =>
        intro v w h1 h2 h3 hg
        rcases Nat.eq_zero_or_pos w with hy | hy
        · subst hy
          exact base v h2 hg
        · have hlt := Nat.mod_lt v hy
          have ih' := ih w (v % w) (by omega) h3 (by omega) (by rw [gcd_st]; exact hg)
          refine PP.iload dX6_isClean_100 rfl ?_
          refine PP.if_eq (tgt := 123) (by first | omega | (unfold R32; omega)) dX6_isClean_102 (by decide) (fun h102 => ?_) (fun h102 => ?_)
          · omega
          · refine PP.iload dX6_isClean_105 rfl ?_
            refine PP.iload dX6_isClean_107 rfl ?_
            refine PP.irem (by first | omega | (unfold R32; omega)) (by first | omega | (unfold R32; omega)) (by first | omega | (unfold R32; omega)) (by first | omega | (unfold R32; omega)) dX6_isClean_109 ?_
            refine PP.eqI (y := ((v % w : Nat) : Int)) (by rfl) ?_
            refine PP.istore (L' := [_, _, _, _, _, _, _, _, _, _, _]) dX6_isClean_110 (Nat.le_of_ble_eq_true rfl) rfl rfl ?_
            refine PP.iload dX6_isClean_112 rfl ?_
            refine PP.istore (L' := [_, _, _, _, _, _, _, _, _, _, _]) dX6_isClean_114 (Nat.le_of_ble_eq_true rfl) rfl rfl ?_
            refine PP.iload dX6_isClean_116 rfl ?_
            refine PP.istore (L' := [_, _, _, _, _, _, _, _, _, _, _]) dX6_isClean_118 (Nat.le_of_ble_eq_true rfl) rfl rfl ?_
            refine PP.goto (tgt := 100) dX6_isClean_120 (by decide) ?_
            refine PP.frg 10 (L' := [_, _, _, _, _, _, _, _, _, _, _]) rfl ?_
            exact ih'
    refine PP.iload_n dX6_isClean_0 rfl ?_
    refine PP.i2l (by first | omega | assumption | exact b2i_R _ | (unfold R32; omega)) dX6_isClean_1 ?_
    refine PP.lconst (z := 0) dX6_isClean_2 (by decide) ?_
    refine PP.ldc2 (z := 10) dX6_isClean_3 bw1078 ?_
    refine PP.callSi (m_in h1 (by unfold R32; omega) (by unfold R32; omega)) dX6_isClean_6 sl_X6_70 rfl rfl (Nat.le_of_ble_eq_true rfl) (by first | exact Nat.le_of_ble_eq_true rfl | omega) ?_
    refine PP.if_eq (tgt := 60) (by first | omega | assumption | exact b2i_R _ | (unfold R32; omega)) dX6_isClean_9 (by decide) (fun h9 => ?_) (fun h9 => ?_)
    · rw [decide_eq_true t1] at h9; cases h9
    · refine PP.iload_n dX6_isClean_12 rfl ?_
      refine PP.i2l (by first | omega | assumption | exact b2i_R _ | (unfold R32; omega)) dX6_isClean_13 ?_
      refine PP.lconst (z := 0) dX6_isClean_14 (by decide) ?_
      refine PP.ldc2 (z := 10) dX6_isClean_15 bw1078 ?_
      refine PP.callSi (m_in h2 (by unfold R32; omega) (by unfold R32; omega)) dX6_isClean_18 sl_X6_70 rfl rfl (Nat.le_of_ble_eq_true rfl) (by first | exact Nat.le_of_ble_eq_true rfl | omega) ?_
      refine PP.if_eq (tgt := 60) (by first | omega | assumption | exact b2i_R _ | (unfold R32; omega)) dX6_isClean_21 (by decide) (fun h21 => ?_) (fun h21 => ?_)
      · rw [decide_eq_true t2] at h21; cases h21
      · refine PP.iload_n dX6_isClean_24 rfl ?_
        refine PP.i2l (by first | omega | assumption | exact b2i_R _ | (unfold R32; omega)) dX6_isClean_25 ?_
        refine PP.lconst (z := 0) dX6_isClean_26 (by decide) ?_
        refine PP.ldc2 (z := 10) dX6_isClean_27 bw1078 ?_
        refine PP.callSi (m_in h3 (by unfold R32; omega) (by unfold R32; omega)) dX6_isClean_30 sl_X6_70 rfl rfl (Nat.le_of_ble_eq_true rfl) (by first | exact Nat.le_of_ble_eq_true rfl | omega) ?_
        refine PP.if_eq (tgt := 60) (by first | omega | assumption | exact b2i_R _ | (unfold R32; omega)) dX6_isClean_33 (by decide) (fun h33 => ?_) (fun h33 => ?_)
        · rw [decide_eq_true t3] at h33; cases h33
        · refine PP.iload dX6_isClean_36 rfl ?_
          refine PP.i2l (by first | omega | assumption | exact b2i_R _ | (unfold R32; omega)) dX6_isClean_38 ?_
          refine PP.lconst (z := 0) dX6_isClean_39 (by decide) ?_
          refine PP.ldc2 (z := 10) dX6_isClean_40 bw1078 ?_
          refine PP.callSi (m_in h4 (by unfold R32; omega) (by unfold R32; omega)) dX6_isClean_43 sl_X6_70 rfl rfl (Nat.le_of_ble_eq_true rfl) (by first | exact Nat.le_of_ble_eq_true rfl | omega) ?_
          refine PP.if_eq (tgt := 60) (by first | omega | assumption | exact b2i_R _ | (unfold R32; omega)) dX6_isClean_46 (by decide) (fun h46 => ?_) (fun h46 => ?_)
          · rw [decide_eq_true t4] at h46; cases h46
          · refine PP.iload dX6_isClean_49 rfl ?_
            refine PP.i2l (by first | omega | assumption | exact b2i_R _ | (unfold R32; omega)) dX6_isClean_51 ?_
            refine PP.lconst (z := 0) dX6_isClean_52 (by decide) ?_
            refine PP.lconst (z := 1) dX6_isClean_53 (by decide) ?_
            refine PP.callSi (m_in h5 (by unfold R32; omega) (by unfold R32; omega)) dX6_isClean_54 sl_X6_70 rfl rfl (Nat.le_of_ble_eq_true rfl) (by first | exact Nat.le_of_ble_eq_true rfl | omega) ?_
            refine PP.if_ne (tgt := 62) (by first | omega | assumption | exact b2i_R _ | (unfold R32; omega)) dX6_isClean_57 (by decide) (fun h57 => ?_) (fun h57 => ?_)
            · refine PP.bipush dX6_isClean_62 (by decide) ?_
              refine PP.iload_n dX6_isClean_64 rfl ?_
              refine PP.imul dX6_isClean_65 ?_
              refine PP.iload_n dX6_isClean_66 rfl ?_
              refine PP.imul dX6_isClean_67 ?_
              refine PP.eqI ha ?_
              refine PP.istore (L' := [_, _, _, _, _, _, _, _, _, _, _]) dX6_isClean_68 (Nat.le_of_ble_eq_true rfl) rfl rfl ?_
              refine PP.iload dX6_isClean_70 rfl ?_
              refine PP.bipush dX6_isClean_72 (by decide) ?_
              refine PP.iload_n dX6_isClean_74 rfl ?_
              refine PP.isub dX6_isClean_75 ?_
              refine PP.iload_n dX6_isClean_76 rfl ?_
              refine PP.imul dX6_isClean_77 ?_
              refine PP.iload dX6_isClean_78 rfl ?_
              refine PP.imul dX6_isClean_80 ?_
              refine PP.iadd dX6_isClean_81 ?_
              refine PP.eqI (y := (b : Int)) (by rw [← hb, ha]) ?_
              refine PP.istore (L' := [_, _, _, _, _, _, _, _, _, _, _]) dX6_isClean_82 (Nat.le_of_ble_eq_true rfl) rfl rfl ?_
              refine PP.iload dX6_isClean_84 rfl ?_
              refine PP.if_ne (tgt := 92) (by first | omega | assumption | exact b2i_R _ | (unfold R32; omega)) dX6_isClean_86 (by decide) (fun h86 => ?_) (fun h86 => ?_)
              · refine PP.iload dX6_isClean_92 rfl ?_
                refine PP.istore (L' := [_, _, _, _, _, _, _, _, _, _, _]) dX6_isClean_94 (Nat.le_of_ble_eq_true rfl) rfl rfl ?_
                refine PP.iload dX6_isClean_96 rfl ?_
                refine PP.istore (L' := [_, _, _, _, _, _, _, _, _, _, _]) dX6_isClean_98 (Nat.le_of_ble_eq_true rfl) rfl rfl ?_
                rw [if_neg (by omega)]
                exact key (by omega) b a b (Nat.le_refl _) ga gb rfl
              · refine PP.bipush dX6_isClean_89 (by decide) ?_
                refine PP.iret dX6_isClean_91 rfl ?_
                rw [if_pos (by omega)]
                exact ⟨_, rfl, rfl, hA⟩
            · rw [decide_eq_true (by omega)] at h57; cases h57
  · rw [if_pos ht]
    refine PP.iload_n dX6_isClean_0 rfl ?_
    refine PP.i2l (by first | omega | assumption | exact b2i_R _ | (unfold R32; omega)) dX6_isClean_1 ?_
    refine PP.lconst (z := 0) dX6_isClean_2 (by decide) ?_
    refine PP.ldc2 (z := 10) dX6_isClean_3 bw1078 ?_
    refine PP.callSi (m_in h1 (by unfold R32; omega) (by unfold R32; omega)) dX6_isClean_6 sl_X6_70 rfl rfl (Nat.le_of_ble_eq_true rfl) (by first | exact Nat.le_of_ble_eq_true rfl | omega) ?_
    refine PP.if_eq (tgt := 60) (by first | omega | assumption | exact b2i_R _ | (unfold R32; omega)) dX6_isClean_9 (by decide) (fun h9 => ?_) (fun h9 => ?_)
    · refine PP.iconst dX6_isClean_60 ?_
      refine PP.iret dX6_isClean_61 rfl ?_
      exact ⟨_, rfl, rfl, hA⟩
    · refine PP.iload_n dX6_isClean_12 rfl ?_
      refine PP.i2l (by first | omega | assumption | exact b2i_R _ | (unfold R32; omega)) dX6_isClean_13 ?_
      refine PP.lconst (z := 0) dX6_isClean_14 (by decide) ?_
      refine PP.ldc2 (z := 10) dX6_isClean_15 bw1078 ?_
      refine PP.callSi (m_in h2 (by unfold R32; omega) (by unfold R32; omega)) dX6_isClean_18 sl_X6_70 rfl rfl (Nat.le_of_ble_eq_true rfl) (by first | exact Nat.le_of_ble_eq_true rfl | omega) ?_
      refine PP.if_eq (tgt := 60) (by first | omega | assumption | exact b2i_R _ | (unfold R32; omega)) dX6_isClean_21 (by decide) (fun h21 => ?_) (fun h21 => ?_)
      · refine PP.iconst dX6_isClean_60 ?_
        refine PP.iret dX6_isClean_61 rfl ?_
        exact ⟨_, rfl, rfl, hA⟩
      · refine PP.iload_n dX6_isClean_24 rfl ?_
        refine PP.i2l (by first | omega | assumption | exact b2i_R _ | (unfold R32; omega)) dX6_isClean_25 ?_
        refine PP.lconst (z := 0) dX6_isClean_26 (by decide) ?_
        refine PP.ldc2 (z := 10) dX6_isClean_27 bw1078 ?_
        refine PP.callSi (m_in h3 (by unfold R32; omega) (by unfold R32; omega)) dX6_isClean_30 sl_X6_70 rfl rfl (Nat.le_of_ble_eq_true rfl) (by first | exact Nat.le_of_ble_eq_true rfl | omega) ?_
        refine PP.if_eq (tgt := 60) (by first | omega | assumption | exact b2i_R _ | (unfold R32; omega)) dX6_isClean_33 (by decide) (fun h33 => ?_) (fun h33 => ?_)
        · refine PP.iconst dX6_isClean_60 ?_
          refine PP.iret dX6_isClean_61 rfl ?_
          exact ⟨_, rfl, rfl, hA⟩
        · refine PP.iload dX6_isClean_36 rfl ?_
          refine PP.i2l (by first | omega | assumption | exact b2i_R _ | (unfold R32; omega)) dX6_isClean_38 ?_
          refine PP.lconst (z := 0) dX6_isClean_39 (by decide) ?_
          refine PP.ldc2 (z := 10) dX6_isClean_40 bw1078 ?_
          refine PP.callSi (m_in h4 (by unfold R32; omega) (by unfold R32; omega)) dX6_isClean_43 sl_X6_70 rfl rfl (Nat.le_of_ble_eq_true rfl) (by first | exact Nat.le_of_ble_eq_true rfl | omega) ?_
          refine PP.if_eq (tgt := 60) (by first | omega | assumption | exact b2i_R _ | (unfold R32; omega)) dX6_isClean_46 (by decide) (fun h46 => ?_) (fun h46 => ?_)
          · refine PP.iconst dX6_isClean_60 ?_
            refine PP.iret dX6_isClean_61 rfl ?_
            exact ⟨_, rfl, rfl, hA⟩
          · refine PP.iload dX6_isClean_49 rfl ?_
            refine PP.i2l (by first | omega | assumption | exact b2i_R _ | (unfold R32; omega)) dX6_isClean_51 ?_
            refine PP.lconst (z := 0) dX6_isClean_52 (by decide) ?_
            refine PP.lconst (z := 1) dX6_isClean_53 (by decide) ?_
            refine PP.callSi (m_in h5 (by unfold R32; omega) (by unfold R32; omega)) dX6_isClean_54 sl_X6_70 rfl rfl (Nat.le_of_ble_eq_true rfl) (by first | exact Nat.le_of_ble_eq_true rfl | omega) ?_
            refine PP.if_ne (tgt := 62) (by first | omega | assumption | exact b2i_R _ | (unfold R32; omega)) dX6_isClean_57 (by decide) (fun h57 => ?_) (fun h57 => ?_)
            · exact absurd ⟨of_decide_eq_true (b2i_n.mp h9), of_decide_eq_true (b2i_n.mp h21), of_decide_eq_true (b2i_n.mp h33), of_decide_eq_true (b2i_n.mp h46), by have := of_decide_eq_true (b2i_n.mp h57); omega⟩ ht
            · refine PP.iconst dX6_isClean_60 ?_
              refine PP.iret dX6_isClean_61 rfl ?_
              exact ⟨_, rfl, rfl, hA⟩
theorem x_day {σ : Sg} {A : ST} {z m what : Int} (hA : RepM σ A) (hW : WF A) (h1 : R32 z) (h2 : R32 m) (h3 : R32 what) : OK SHm mX6_day 20 [vR 0, vI z, vI m, vI what] σ (RP (fun v τ => v = qDay A z m what ∧ RepM τ A)) := by
  obtain ⟨len, txt, T, n, row, und, kep, sn⟩ := A
  obtain ⟨b1, b2, b3, b4, b5, b6, b7⟩ := RepM_e.mp hA
  obtain ⟨w1, w2, w3, w4, w5, w6, w7, w8, w9⟩ := WF_e.mp hW
  have hn7 := w3.2.1
  have hsl := w3.2.2.1
  have hws := wsh_m w5
  have hst := w5.2.1
  have t3 : σ 2 3 = (n : Int) := (b3 3 (by decide)).trans w3.1
  have t0 := b3 0 (by decide)
  have r0 := b4 0 (by decide)
  have r1 : σ 4 1 = ((msk (wsh row) n : Nat) : Int) := (b4 1 (by decide)).trans hws
  simp only [qDay, isZ]
  refine OK.enter (L' := [vR 0, vI z, vI m, vI what, vN, vN, vN, vN, vN, vN]) (by decide +kernel) (by simp [ent0]) rfl ?_
  by_cases ht : (0 ≤ z ∧ z ≤ 9999) ∧ (1 ≤ m ∧ m ≤ 30) ∧ (what = 0 ∨ what = 1)
  · obtain ⟨i, rfl⟩ : ∃ i : Nat, z = (i : Int) := ⟨z.toNat, by omega⟩
    obtain ⟨N, rfl⟩ : ∃ N : Nat, m = (N : Int) := ⟨m.toNat, by omega⟩
    rw [if_neg (fun h => h ht), Int.toNat_natCast, Int.toNat_natCast]
    obtain ⟨S, hS⟩ : ∃ S : Nat, T 0 = (S : Int) := ⟨(T 0).toNat, by omega⟩
    have key : ∀ o, o ≤ N → ∀ σ1 : Sg, MC σ1 T n (dyS T n (wsh row) i o).1 (dyS T n (wsh row) i o).2 → (∀ c, c ≠ 10 → c ≠ 11 → c ≠ 12 → σ1 c = σ c) → PP SHm mX6_day 20 43 [vR 0, vI (i : Int), vI (N : Int), vI what, vI (o : Int), vN, vN, vN, vN, vN] [] σ1 (RP (fun v τ => v = (if what = 0 then ((msk (inS (dyS T n (wsh row) i N).1) n : Nat) : Int) else ((msk (clS T n (dyS T n (wsh row) i N).1 (dyS T n (wsh row) i N).2 (row 0)) n : Nat) : Int)) ∧ RepM τ (len, txt, T, n, row, und, kep, sn))) := by
      refine loop_dn N ?_ ?_
      · intro σ1 hc hfr
        have e40 : σ1 4 0 = row 0 := by rw [hfr 4 (by decide) (by decide) (by decide)]; exact r0
        refine PP.iload dX6_day_43 rfl ?_
        refine PP.iload_n dX6_day_45 rfl ?_
        refine PP.icmp_ge (tgt := 163) (by first | omega | assumption | (unfold R32; omega)) (by first | omega | assumption | (unfold R32; omega)) dX6_day_46 (by decide) (fun h46 => ?_) (fun h46 => ?_)
        · refine PP.iload_n dX6_day_163 rfl ?_
          refine PP.if_ne (tgt := 174) (by first | omega | assumption | (unfold R32; omega)) dX6_day_164 (by decide) (fun h164 => ?_) (fun h164 => ?_)
          · refine PP.aload_n dX6_day_174 rfl ?_
            refine PP.aload_n dX6_day_175 rfl ?_
            refine PP.getfR dX6_day_176 fl_X6_19 sm0 rfl ?_
            refine PP.iconst dX6_day_179 ?_
            refine PP.ialoadN (n := 0) sm4 (by first | decide | omega) (by first | rfl | omega) (by first | omega | assumption | (unfold R32; omega)) dX6_day_180 ?_
            refine PP.eqI e40 ?_
            refine PP.callVi (m_cleanBy hc (w := row 0) (by omega)) dX6_day_181 vl_X6_182 sm0 rfl rfl rfl rfl (Nat.le_of_ble_eq_true rfl) (by first | exact Nat.le_of_ble_eq_true rfl | omega) ?_
            refine PP.iret dX6_day_184 rfl ?_
            first
            | (rw [if_pos (by omega)]; exact ⟨_, rfl, rfl, RepM_9 hA (fun c hc => hfr c (by omega) (by omega) (by omega))⟩)
            | (rw [if_neg (by omega)]; exact ⟨_, rfl, rfl, RepM_9 hA (fun c hc => hfr c (by omega) (by omega) (by omega))⟩)
          · refine PP.aload_n dX6_day_167 rfl ?_
            refine PP.callVi (m_inside hc) dX6_day_168 vl_X6_161 sm0 rfl rfl rfl rfl (Nat.le_of_ble_eq_true rfl) (by first | exact Nat.le_of_ble_eq_true rfl | omega) ?_
            refine PP.goto (tgt := 184) dX6_day_171 (by decide) ?_
            refine PP.iret dX6_day_184 rfl ?_
            first
            | (rw [if_pos (by omega)]; exact ⟨_, rfl, rfl, RepM_9 hA (fun c hc => hfr c (by omega) (by omega) (by omega))⟩)
            | (rw [if_neg (by omega)]; exact ⟨_, rfl, rfl, RepM_9 hA (fun c hc => hfr c (by omega) (by omega) (by omega))⟩)
        · omega
      · intro o ho ih σ1 hc hfr
        have hdw : dwS i o < 65521 := by
          have := Nat.mod_lt ((7919 * i + 6151 * o + 1) * (7919 * i + 6151 * o + 1)) (show 0 < 65521 by decide)
          unfold dwS
          omega
        have eD : dyS T n (wsh row) i (o + 1) = drw T n (wsh row) (dyS T n (wsh row) i o) (dwS i o) := rfl
        rw [eD] at ih
        obtain ⟨v, hv⟩ : ∃ v : Nat, v = 7919 * i + 6151 * o + 1 := ⟨_, rfl⟩
        have hv2 : v * v ≤ 80000000 * 80000000 := Nat.mul_le_mul (by omega) (by omega)
        have hq : ((v * v : Nat) : Int) = (v : Int) * (v : Int) := by simp
        have he : dwS i o = v * v % 65521 / 2 := by unfold dwS; rw [hv]
        have hlm := Nat.mod_lt (v * v) (show 0 < 65521 by decide)
        have t3' : σ1 2 3 = (n : Int) := (hc.2.2.1 3 (by decide)).trans w3.1
        have t0' : σ1 2 0 = (S : Int) := (hc.2.2.1 0 (by decide)).trans hS
        have e41 : σ1 4 1 = ((msk (wsh row) n : Nat) : Int) := by rw [hfr 4 (by decide) (by decide) (by decide)]; exact r1
        generalize dwS i o = D at *
        generalize dyS T n (wsh row) i o = X at *
        simp only [drw, hS, Int.toNat_natCast] at ih
        have hj := Nat.mod_lt D (show 0 < n by omega)
        have hsS := Nat.mod_lt (D / 8) (show 0 < S by omega)
        generalize hj0 : D % n = j at *
        generalize hs0 : D / 8 % S = s at *
        obtain ⟨f1, -, -⟩ := hc.2.2.2 j (by omega)
        have x2 := (w3.2.2.2.2.2.1 j hj).2.1
        have hXr : -4 ≤ X.1 j ∧ X.1 j ≤ 14 := by have := hc.2.1.1 j hj; omega
        have ihN : ¬ (wsh row j = false ∧ X.1 j < 0 ∧ fitS T n X.1 j (s : Int) = true) → PP SHm mX6_day 20 43 [vR 0, vI (i : Int), vI (N : Int), vI what, vI ((o : Int) + 1), vN, vN, vN, vN, vN] [] σ1 (RP (fun v τ => v = (if what = 0 then ((msk (inS (dyS T n (wsh row) i N).1) n : Nat) : Int) else ((msk (clS T n (dyS T n (wsh row) i N).1 (dyS T n (wsh row) i N).2 (row 0)) n : Nat) : Int)) ∧ RepM τ (len, txt, T, n, row, und, kep, sn))) := fun h => by
          rw [if_neg h] at ih
          exact ih σ1 hc hfr
        have ihY : (wsh row j = false ∧ X.1 j < 0 ∧ fitS T n X.1 j (s : Int) = true) → PP SHm mX6_day 20 43 [vR 0, vI (i : Int), vI (N : Int), vI what, vI ((o : Int) + 1), vN, vN, vN, vN, vN] [] (ptU σ1 T j (s : Int) ((D / 128 % 2 : Nat) : Int)) (RP (fun v τ => v = (if what = 0 then ((msk (inS (dyS T n (wsh row) i N).1) n : Nat) : Int) else ((msk (clS T n (dyS T n (wsh row) i N).1 (dyS T n (wsh row) i N).2 (row 0)) n : Nat) : Int)) ∧ RepM τ (len, txt, T, n, row, und, kep, sn))) := fun h => by
          rw [if_pos h] at ih
          exact ih _ (MC_put hc hj (Or.inr ⟨by omega, (fitS_t.mp h.2.2).1, by omega⟩)) (fun c h0 h1 h2 => by rw [ptU_ne h0 h1 h2]; exact hfr c h0 h1 h2)
        clear ih
        refine PP.iload dX6_day_43 rfl ?_
        refine PP.iload_n dX6_day_45 rfl ?_
        refine PP.icmp_ge (tgt := 163) (by first | omega | exact b2i_R _ | (unfold R32; omega)) (by first | omega | exact b2i_R _ | (unfold R32; omega)) dX6_day_46 (by decide) (fun h46 => ?_) (fun h46 => ?_)
        · omega
        · refine PP.ldc2 (z := 7919) dX6_day_49 bw1085 ?_
          refine PP.iload_n dX6_day_52 rfl ?_
          refine PP.i2l (by first | omega | exact b2i_R _ | (unfold R32; omega)) dX6_day_53 ?_
          refine PP.lmul dX6_day_54 ?_
          refine PP.ldc2 (z := 6151) dX6_day_55 bw1086 ?_
          refine PP.iload dX6_day_58 rfl ?_
          refine PP.i2l (by first | omega | exact b2i_R _ | (unfold R32; omega)) dX6_day_60 ?_
          refine PP.lmul dX6_day_61 ?_
          refine PP.ladd dX6_day_62 ?_
          refine PP.lconst (z := 1) dX6_day_63 (by decide) ?_
          refine PP.ladd dX6_day_64 ?_
          refine PP.eqK (y := (v : Int)) (by omega) ?_
          refine PP.lstore (L' := [_, _, _, _, _, _, _, _, _, _]) dX6_day_65 (Nat.le_of_ble_eq_true rfl) rfl rfl ?_
          refine PP.lload dX6_day_67 rfl ?_
          refine PP.lload dX6_day_69 rfl ?_
          refine PP.lmul dX6_day_71 ?_
          refine PP.eqK (y := ((v * v : Nat) : Int)) hq.symm ?_
          refine PP.ldc2 (z := 65521) dX6_day_72 bw1087 ?_
          refine PP.lrem (by first | omega | exact b2i_R _ | (unfold R32; omega)) (by first | omega | exact b2i_R _ | (unfold R32; omega)) (by first | omega | exact b2i_R _ | (unfold R32; omega)) (by first | omega | exact b2i_R _ | (unfold R32; omega)) dX6_day_75 ?_
          refine PP.l2i dX6_day_76 ?_
          refine PP.iconst dX6_day_77 ?_
          refine PP.idiv (by first | omega | exact b2i_R _ | (unfold R32; omega)) (by first | omega | exact b2i_R _ | (unfold R32; omega)) (by first | omega | exact b2i_R _ | (unfold R32; omega)) (by first | omega | exact b2i_R _ | (unfold R32; omega)) dX6_day_78 ?_
          refine PP.eqI (y := (D : Int)) (by rw [he]; omega) ?_
          refine PP.istore (L' := [_, _, _, _, _, _, _, _, _, _]) dX6_day_79 (Nat.le_of_ble_eq_true rfl) rfl rfl ?_
          refine PP.iload dX6_day_81 rfl ?_
          refine PP.aload_n dX6_day_83 rfl ?_
          refine PP.getfR dX6_day_84 fl_X6_13 sm0 rfl ?_
          refine PP.iconst dX6_day_87 ?_
          refine PP.ialoadN (n := 3) sm2 (by first | decide | omega) (by first | rfl | omega) (by first | omega | exact b2i_R _ | (unfold R32; omega)) dX6_day_88 ?_
          refine PP.irem (by first | omega | exact b2i_R _ | (unfold R32; omega)) (by first | omega | exact b2i_R _ | (unfold R32; omega)) (by first | omega | exact b2i_R _ | (unfold R32; omega)) (by first | omega | exact b2i_R _ | (unfold R32; omega)) dX6_day_89 ?_
          refine PP.eqI (y := (j : Int)) (by rw [t3', ← hj0]; rfl) ?_
          refine PP.istore (L' := [_, _, _, _, _, _, _, _, _, _]) dX6_day_90 (Nat.le_of_ble_eq_true rfl) rfl rfl ?_
          refine PP.iload dX6_day_92 rfl ?_
          refine PP.bipush dX6_day_94 (by decide) ?_
          refine PP.idiv (by first | omega | exact b2i_R _ | (unfold R32; omega)) (by first | omega | exact b2i_R _ | (unfold R32; omega)) (by first | omega | exact b2i_R _ | (unfold R32; omega)) (by first | omega | exact b2i_R _ | (unfold R32; omega)) dX6_day_96 ?_
          refine PP.aload_n dX6_day_97 rfl ?_
          refine PP.getfR dX6_day_98 fl_X6_13 sm0 rfl ?_
          refine PP.iconst dX6_day_101 ?_
          refine PP.ialoadN (n := 0) sm2 (by first | decide | omega) (by first | rfl | omega) (by first | omega | exact b2i_R _ | (unfold R32; omega)) dX6_day_102 ?_
          refine PP.irem (by first | omega | exact b2i_R _ | (unfold R32; omega)) (by first | omega | exact b2i_R _ | (unfold R32; omega)) (by first | omega | exact b2i_R _ | (unfold R32; omega)) (by first | omega | exact b2i_R _ | (unfold R32; omega)) dX6_day_103 ?_
          refine PP.eqI (y := (s : Int)) (by rw [t0', ← hs0]; rfl) ?_
          refine PP.istore (L' := [_, _, _, _, _, _, _, _, _, _]) dX6_day_104 (Nat.le_of_ble_eq_true rfl) rfl rfl ?_
          refine PP.aload_n dX6_day_106 rfl ?_
          refine PP.getfR dX6_day_107 fl_X6_19 sm0 rfl ?_
          refine PP.iconst dX6_day_110 ?_
          refine PP.ialoadN (n := 1) sm4 (by first | decide | omega) (by first | rfl | omega) (by first | omega | exact b2i_R _ | (unfold R32; omega)) dX6_day_111 ?_
          refine PP.eqI e41 ?_
          refine PP.iload dX6_day_112 rfl ?_
          refine PP.callSi (m_has hn7 hj) dX6_day_114 sl_X6_167 rfl rfl (Nat.le_of_ble_eq_true rfl) (by first | exact Nat.le_of_ble_eq_true rfl | omega) ?_
          refine PP.if_ne (tgt := 157) (by first | omega | exact b2i_R _ | (unfold R32; omega)) dX6_day_117 (by decide) (fun h117 => ?_) (fun h117 => ?_)
          · refine PP.iinc (L' := [_, _, _, _, _, _, _, _, _, _]) dX6_day_157 rfl rfl rfl ?_
            refine PP.goto (tgt := 43) dX6_day_160 (by decide) ?_
            refine PP.frg 5 (L' := [_, _, _, _, _, _, _, _, _, _]) rfl ?_
            refine PP.frg 7 (L' := [_, _, _, _, _, _, _, _, _, _]) rfl ?_
            refine PP.frg 8 (L' := [_, _, _, _, _, _, _, _, _, _]) rfl ?_
            refine PP.frg 9 (L' := [_, _, _, _, _, _, _, _, _, _]) rfl ?_
            first
              | exact ihN (fun q => h117 (b2i_0.mpr q.1))
              | exact ihY ⟨b2i_0.mp h117, by omega, b2i_n.mp h138⟩
              | exact ihN (fun q => by rw [b2i_0.mp h138] at q; exact absurd q.2.2 (by decide))
              | exact ihN (fun q => absurd q.2.1 (by omega))
          · refine PP.aload_n dX6_day_120 rfl ?_
            refine PP.getfR dX6_day_121 fl_X6_37 sm0 rfl ?_
            refine PP.iload dX6_day_124 rfl ?_
            refine PP.ialoadN (n := j) sm10 (by first | decide | omega) (by rfl) (by first | omega | exact b2i_R _ | (unfold R32; omega)) dX6_day_126 ?_
            refine PP.if_ge (tgt := 157) (by first | omega | exact b2i_R _ | (unfold R32; omega)) dX6_day_127 (by decide) (fun h127 => ?_) (fun h127 => ?_)
            · refine PP.iinc (L' := [_, _, _, _, _, _, _, _, _, _]) dX6_day_157 rfl rfl rfl ?_
              refine PP.goto (tgt := 43) dX6_day_160 (by decide) ?_
              refine PP.frg 5 (L' := [_, _, _, _, _, _, _, _, _, _]) rfl ?_
              refine PP.frg 7 (L' := [_, _, _, _, _, _, _, _, _, _]) rfl ?_
              refine PP.frg 8 (L' := [_, _, _, _, _, _, _, _, _, _]) rfl ?_
              refine PP.frg 9 (L' := [_, _, _, _, _, _, _, _, _, _]) rfl ?_
              first
                | exact ihN (fun q => h117 (b2i_0.mpr q.1))
                | exact ihY ⟨b2i_0.mp h117, by omega, b2i_n.mp h138⟩
                | exact ihN (fun q => by rw [b2i_0.mp h138] at q; exact absurd q.2.2 (by decide))
                | exact ihN (fun q => absurd q.2.1 (by omega))
            · refine PP.aload_n dX6_day_130 rfl ?_
              refine PP.iload dX6_day_131 rfl ?_
              refine PP.iload dX6_day_133 rfl ?_
              refine PP.callVi (m_hasRoom hc hj (s := (s : Int)) (by omega)) dX6_day_135 vl_X6_170 sm0 rfl rfl rfl rfl (Nat.le_of_ble_eq_true rfl) (by first | exact Nat.le_of_ble_eq_true rfl | omega) ?_
              refine PP.if_eq (tgt := 157) (by first | omega | exact b2i_R _ | (unfold R32; omega)) dX6_day_138 (by decide) (fun h138 => ?_) (fun h138 => ?_)
              · refine PP.iinc (L' := [_, _, _, _, _, _, _, _, _, _]) dX6_day_157 rfl rfl rfl ?_
                refine PP.goto (tgt := 43) dX6_day_160 (by decide) ?_
                refine PP.frg 5 (L' := [_, _, _, _, _, _, _, _, _, _]) rfl ?_
                refine PP.frg 7 (L' := [_, _, _, _, _, _, _, _, _, _]) rfl ?_
                refine PP.frg 8 (L' := [_, _, _, _, _, _, _, _, _, _]) rfl ?_
                refine PP.frg 9 (L' := [_, _, _, _, _, _, _, _, _, _]) rfl ?_
                first
                  | exact ihN (fun q => h117 (b2i_0.mpr q.1))
                  | exact ihY ⟨b2i_0.mp h117, by omega, b2i_n.mp h138⟩
                  | exact ihN (fun q => by rw [b2i_0.mp h138] at q; exact absurd q.2.2 (by decide))
                  | exact ihN (fun q => absurd q.2.1 (by omega))
              · refine PP.aload_n dX6_day_141 rfl ?_
                refine PP.iload dX6_day_142 rfl ?_
                refine PP.iload dX6_day_144 rfl ?_
                refine PP.iload dX6_day_146 rfl ?_
                refine PP.sipush dX6_day_148 (by decide) ?_
                refine PP.idiv (by first | omega | exact b2i_R _ | (unfold R32; omega)) (by first | omega | exact b2i_R _ | (unfold R32; omega)) (by first | omega | exact b2i_R _ | (unfold R32; omega)) (by first | omega | exact b2i_R _ | (unfold R32; omega)) dX6_day_151 ?_
                refine PP.iconst dX6_day_152 ?_
                refine PP.irem (by first | omega | exact b2i_R _ | (unfold R32; omega)) (by first | omega | exact b2i_R _ | (unfold R32; omega)) (by first | omega | exact b2i_R _ | (unfold R32; omega)) (by first | omega | exact b2i_R _ | (unfold R32; omega)) dX6_day_153 ?_
                refine PP.eqI (y := ((D / 128 % 2 : Nat) : Int)) (by omega) ?_
                refine PP.callVn (m_put w3 hc.2.2.1 (t := j) (by omega) (by unfold R32; omega) (Or.inr ⟨by omega, x2⟩)) dX6_day_154 vl_X6_127 sm0 rfl rfl rfl rfl (Nat.le_of_ble_eq_true rfl) (by first | exact Nat.le_of_ble_eq_true rfl | omega) ?_
                refine PP.iinc (L' := [_, _, _, _, _, _, _, _, _, _]) dX6_day_157 rfl rfl rfl ?_
                refine PP.goto (tgt := 43) dX6_day_160 (by decide) ?_
                refine PP.frg 5 (L' := [_, _, _, _, _, _, _, _, _, _]) rfl ?_
                refine PP.frg 7 (L' := [_, _, _, _, _, _, _, _, _, _]) rfl ?_
                refine PP.frg 8 (L' := [_, _, _, _, _, _, _, _, _, _]) rfl ?_
                refine PP.frg 9 (L' := [_, _, _, _, _, _, _, _, _, _]) rfl ?_
                first
                  | exact ihN (fun q => h117 (b2i_0.mpr q.1))
                  | exact ihY ⟨b2i_0.mp h117, by omega, b2i_n.mp h138⟩
                  | exact ihN (fun q => by rw [b2i_0.mp h138] at q; exact absurd q.2.2 (by decide))
                  | exact ihN (fun q => absurd q.2.1 (by omega))
    refine PP.iload_n dX6_day_0 rfl ?_
    refine PP.i2l (by first | omega | assumption | exact b2i_R _ | (unfold R32; omega)) dX6_day_1 ?_
    refine PP.lconst (z := 0) dX6_day_2 (by decide) ?_
    refine PP.ldc2 (z := 9999) dX6_day_3 bw1083 ?_
    refine PP.callSi (m_in h1 (by unfold R32; omega) (by unfold R32; omega)) dX6_day_6 sl_X6_70 rfl rfl (Nat.le_of_ble_eq_true rfl) (by first | exact Nat.le_of_ble_eq_true rfl | omega) ?_
    refine PP.if_eq (tgt := 34) (by first | omega | assumption | exact b2i_R _ | (unfold R32; omega)) dX6_day_9 (by decide) (fun h9 => ?_) (fun h9 => ?_)
    · rw [decide_eq_true ht.1] at h9; cases h9
    · refine PP.iload_n dX6_day_12 rfl ?_
      refine PP.i2l (by first | omega | assumption | exact b2i_R _ | (unfold R32; omega)) dX6_day_13 ?_
      refine PP.lconst (z := 1) dX6_day_14 (by decide) ?_
      refine PP.ldc2 (z := 30) dX6_day_15 bw1084 ?_
      refine PP.callSi (m_in h2 (by unfold R32; omega) (by unfold R32; omega)) dX6_day_18 sl_X6_70 rfl rfl (Nat.le_of_ble_eq_true rfl) (by first | exact Nat.le_of_ble_eq_true rfl | omega) ?_
      refine PP.if_eq (tgt := 34) (by first | omega | assumption | exact b2i_R _ | (unfold R32; omega)) dX6_day_21 (by decide) (fun h21 => ?_) (fun h21 => ?_)
      · rw [decide_eq_true ht.2.1] at h21; cases h21
      · refine PP.iload_n dX6_day_24 rfl ?_
        refine PP.i2l (by first | omega | assumption | exact b2i_R _ | (unfold R32; omega)) dX6_day_25 ?_
        refine PP.lconst (z := 0) dX6_day_26 (by decide) ?_
        refine PP.lconst (z := 1) dX6_day_27 (by decide) ?_
        refine PP.callSi (m_in h3 (by unfold R32; omega) (by unfold R32; omega)) dX6_day_28 sl_X6_70 rfl rfl (Nat.le_of_ble_eq_true rfl) (by first | exact Nat.le_of_ble_eq_true rfl | omega) ?_
        refine PP.if_ne (tgt := 36) (by first | omega | assumption | exact b2i_R _ | (unfold R32; omega)) dX6_day_31 (by decide) (fun h31 => ?_) (fun h31 => ?_)
        · refine PP.aload_n dX6_day_36 rfl ?_
          refine PP.callVnP (m_clear w3 b3) dX6_day_37 vl_X6_188 sm0 rfl rfl rfl rfl (Nat.le_of_ble_eq_true rfl) (by first | exact Nat.le_of_ble_eq_true rfl | omega) (fun τ37 hq37 => ?_)
          obtain ⟨p1, p2⟩ := hq37
          refine PP.iconst dX6_day_40 ?_
          refine PP.istore (L' := [_, _, _, _, _, _, _, _, _, _]) dX6_day_41 (Nat.le_of_ble_eq_true rfl) rfl rfl ?_
          exact key 0 (by omega) _ ⟨w3, ⟨fun u hu => Or.inl ⟨rfl, rfl⟩, fun u _ _ => ⟨rfl, rfl⟩⟩, mT_cong b3 (p1 2 (by decide) (by decide) (by decide)), p2⟩ p1
        · rw [decide_eq_true (by omega)] at h31; cases h31
  · rw [if_pos ht]
    refine PP.iload_n dX6_day_0 rfl ?_
    refine PP.i2l (by first | omega | assumption | exact b2i_R _ | (unfold R32; omega)) dX6_day_1 ?_
    refine PP.lconst (z := 0) dX6_day_2 (by decide) ?_
    refine PP.ldc2 (z := 9999) dX6_day_3 bw1083 ?_
    refine PP.callSi (m_in h1 (by unfold R32; omega) (by unfold R32; omega)) dX6_day_6 sl_X6_70 rfl rfl (Nat.le_of_ble_eq_true rfl) (by first | exact Nat.le_of_ble_eq_true rfl | omega) ?_
    refine PP.if_eq (tgt := 34) (by first | omega | assumption | exact b2i_R _ | (unfold R32; omega)) dX6_day_9 (by decide) (fun h9 => ?_) (fun h9 => ?_)
    · refine PP.iconst dX6_day_34 ?_
      refine PP.iret dX6_day_35 rfl ?_
      exact ⟨_, rfl, rfl, hA⟩
    · refine PP.iload_n dX6_day_12 rfl ?_
      refine PP.i2l (by first | omega | assumption | exact b2i_R _ | (unfold R32; omega)) dX6_day_13 ?_
      refine PP.lconst (z := 1) dX6_day_14 (by decide) ?_
      refine PP.ldc2 (z := 30) dX6_day_15 bw1084 ?_
      refine PP.callSi (m_in h2 (by unfold R32; omega) (by unfold R32; omega)) dX6_day_18 sl_X6_70 rfl rfl (Nat.le_of_ble_eq_true rfl) (by first | exact Nat.le_of_ble_eq_true rfl | omega) ?_
      refine PP.if_eq (tgt := 34) (by first | omega | assumption | exact b2i_R _ | (unfold R32; omega)) dX6_day_21 (by decide) (fun h21 => ?_) (fun h21 => ?_)
      · refine PP.iconst dX6_day_34 ?_
        refine PP.iret dX6_day_35 rfl ?_
        exact ⟨_, rfl, rfl, hA⟩
      · refine PP.iload_n dX6_day_24 rfl ?_
        refine PP.i2l (by first | omega | assumption | exact b2i_R _ | (unfold R32; omega)) dX6_day_25 ?_
        refine PP.lconst (z := 0) dX6_day_26 (by decide) ?_
        refine PP.lconst (z := 1) dX6_day_27 (by decide) ?_
        refine PP.callSi (m_in h3 (by unfold R32; omega) (by unfold R32; omega)) dX6_day_28 sl_X6_70 rfl rfl (Nat.le_of_ble_eq_true rfl) (by first | exact Nat.le_of_ble_eq_true rfl | omega) ?_
        refine PP.if_ne (tgt := 36) (by first | omega | assumption | exact b2i_R _ | (unfold R32; omega)) dX6_day_31 (by decide) (fun h31 => ?_) (fun h31 => ?_)
        · exact absurd ⟨of_decide_eq_true (b2i_n.mp h9), of_decide_eq_true (b2i_n.mp h21), by have := of_decide_eq_true (b2i_n.mp h31); omega⟩ ht
        · refine PP.iconst dX6_day_34 ?_
          refine PP.iret dX6_day_35 rfl ?_
          exact ⟨_, rfl, rfl, hA⟩
