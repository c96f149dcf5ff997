/-! the model: what comes clean -/
theorem clS_t {T : Nat → Int} {n : Nat} {P F : Nat → Int} {w : Int} {t : Nat} : clS T n P F w t = true ↔ (0 ≤ P t ∧ neS T P F t ≤ w - shS T n P t ∧ ¬ ((T (4 + t) = 1 ∧ lkS T P F t = false) ∨ (T (4 + t) = 2 ∧ tcS T n P t = true)) ∧ skS T n P t = false) := by
  unfold clS
  generalize lkS T P F t = b1
  generalize tcS T n P t = b2
  generalize skS T n P t = b3
  generalize neS T P F t = x1
  generalize shS T n P t = x2
  cases b1 <;> cases b2 <;> cases b3 <;> simp [and_assoc]
theorem cc_J2 {σ : Sg} {n t : Nat} {T P F : Nat → Int} {w z3 z4 b : Int} (hc : MC σ T n P F) (ht : t < n) (hwa : 0 ≤ w ∧ w ≤ 9) (hz : z4 = neS T P F t) (hzr : 1 ≤ z4 ∧ z4 ≤ 10) (hbR : R32 b) (hb1 : ¬ b = 0 → ((T (4 + t) = 1 ∧ lkS T P F t = false) ∨ (T (4 + t) = 2 ∧ tcS T n P t = true))) (hb0 : b = 0 → ¬ ((T (4 + t) = 1 ∧ lkS T P F t = false) ∨ (T (4 + t) = 2 ∧ tcS T n P t = true))) : PP SHm mX6_comesClean 3 69 [vR 0, vI (t : Int), vI w, vI z3, vI z4, vN] [vI b] σ (RV (b2i (clS T n P F w t)) σ) := by
  have hn7 := hc.1.2.1
  obtain ⟨e1, e2, e3⟩ := hc.2.2.2 t (by omega)
  have hcl := clS_t (T := T) (n := n) (P := P) (F := F) (w := w) (t := t)
  rw [← hz] at hcl
  have hsh := shS_le T n P t
  have r1 : -4 ≤ P t ∧ P t ≤ 14 := by have := hc.2.1.1 t ht; have := (hc.1.2.2.2.2.2.1 t ht).2.1; have := hc.1.2.2.1; omega
  by_cases hp : 0 ≤ P t
  · refine PP.istore (L' := [_, _, _, _, _, _]) dX6_comesClean_69 (Nat.le_of_ble_eq_true rfl) rfl rfl ?_
    refine PP.aload_n dX6_comesClean_71 rfl ?_
    refine PP.getfR dX6_comesClean_72 fl_X6_37 sm0 rfl ?_
    refine PP.iload_n dX6_comesClean_75 rfl ?_
    refine PP.ialoadN (n := t) sm10 (by first | decide | omega) (by first | rfl | omega) (by first | omega | assumption | exact b2i_R _ | (unfold R32; omega)) dX6_comesClean_76 ?_
    refine PP.if_lt (tgt := 109) (by first | omega | assumption | exact b2i_R _ | (unfold R32; omega)) dX6_comesClean_77 (by decide) (fun h77 => ?_) (fun h77 => ?_)
    · omega
    · refine PP.iload_n dX6_comesClean_80 rfl ?_
      refine PP.aload_n dX6_comesClean_81 rfl ?_
      refine PP.iload_n dX6_comesClean_82 rfl ?_
      refine PP.callVi (m_shadowOf hc ht hp) dX6_comesClean_83 vl_X6_140 sm0 rfl rfl rfl rfl (Nat.le_of_ble_eq_true rfl) (by first | exact Nat.le_of_ble_eq_true rfl | omega) ?_
      refine PP.isub dX6_comesClean_86 ?_
      refine PP.iload dX6_comesClean_87 rfl ?_
      refine PP.icmp_lt (tgt := 109) (by first | omega | assumption | exact b2i_R _ | (unfold R32; omega)) (by first | omega | assumption | exact b2i_R _ | (unfold R32; omega)) dX6_comesClean_89 (by decide) (fun h89 => ?_) (fun h89 => ?_)
      · refine PP.iconst dX6_comesClean_109 ?_
        refine PP.zret dX6_comesClean_110 rfl (by first | decide | omega | exact b2i_01 _) ?_
        first
        | exact RV0 (bf hcl (fun q => q.2.2.1 (hb1 h94)))
        | exact RV0 (bf hcl (fun q => by rw [b2i_n.mp h102] at q; exact absurd q.2.2.2 (by decide)))
        | exact RV1 (bt hcl ⟨hp, by omega, hb0 h94, b2i_0.mp h102⟩)
        | exact RV0 (bf hcl (fun q => absurd q.2.1 (by omega)))
      · refine PP.iload dX6_comesClean_92 rfl ?_
        refine PP.if_ne (tgt := 109) (by first | omega | assumption | exact b2i_R _ | (unfold R32; omega)) dX6_comesClean_94 (by decide) (fun h94 => ?_) (fun h94 => ?_)
        · refine PP.iconst dX6_comesClean_109 ?_
          refine PP.zret dX6_comesClean_110 rfl (by first | decide | omega | exact b2i_01 _) ?_
          first
          | exact RV0 (bf hcl (fun q => q.2.2.1 (hb1 h94)))
          | exact RV0 (bf hcl (fun q => by rw [b2i_n.mp h102] at q; exact absurd q.2.2.2 (by decide)))
          | exact RV1 (bt hcl ⟨hp, by omega, hb0 h94, b2i_0.mp h102⟩)
          | exact RV0 (bf hcl (fun q => absurd q.2.1 (by omega)))
        · refine PP.aload_n dX6_comesClean_97 rfl ?_
          refine PP.iload_n dX6_comesClean_98 rfl ?_
          refine PP.callVi (m_isStruck hc ht) dX6_comesClean_99 vl_X6_143 sm0 rfl rfl rfl rfl (Nat.le_of_ble_eq_true rfl) (by first | exact Nat.le_of_ble_eq_true rfl | omega) ?_
          refine PP.if_ne (tgt := 109) (by first | omega | assumption | exact b2i_R _ | (unfold R32; omega)) dX6_comesClean_102 (by decide) (fun h102 => ?_) (fun h102 => ?_)
          · refine PP.iconst dX6_comesClean_109 ?_
            refine PP.zret dX6_comesClean_110 rfl (by first | decide | omega | exact b2i_01 _) ?_
            first
            | exact RV0 (bf hcl (fun q => q.2.2.1 (hb1 h94)))
            | exact RV0 (bf hcl (fun q => by rw [b2i_n.mp h102] at q; exact absurd q.2.2.2 (by decide)))
            | exact RV1 (bt hcl ⟨hp, by omega, hb0 h94, b2i_0.mp h102⟩)
            | exact RV0 (bf hcl (fun q => absurd q.2.1 (by omega)))
          · refine PP.iconst dX6_comesClean_105 ?_
            refine PP.goto (tgt := 110) dX6_comesClean_106 (by decide) ?_
            refine PP.zret dX6_comesClean_110 rfl (by first | decide | omega | exact b2i_01 _) ?_
            first
            | exact RV0 (bf hcl (fun q => q.2.2.1 (hb1 h94)))
            | exact RV0 (bf hcl (fun q => by rw [b2i_n.mp h102] at q; exact absurd q.2.2.2 (by decide)))
            | exact RV1 (bt hcl ⟨hp, by omega, hb0 h94, b2i_0.mp h102⟩)
            | exact RV0 (bf hcl (fun q => absurd q.2.1 (by omega)))
  · refine PP.istore (L' := [_, _, _, _, _, _]) dX6_comesClean_69 (Nat.le_of_ble_eq_true rfl) rfl rfl ?_
    refine PP.aload_n dX6_comesClean_71 rfl ?_
    refine PP.getfR dX6_comesClean_72 fl_X6_37 sm0 rfl ?_
    refine PP.iload_n dX6_comesClean_75 rfl ?_
    refine PP.ialoadN (n := t) sm10 (by first | decide | omega) (by first | rfl | omega) (by first | omega | assumption | exact b2i_R _ | (unfold R32; omega)) dX6_comesClean_76 ?_
    refine PP.if_lt (tgt := 109) (by first | omega | assumption | exact b2i_R _ | (unfold R32; omega)) dX6_comesClean_77 (by decide) (fun h77 => ?_) (fun h77 => ?_)
    · refine PP.iconst dX6_comesClean_109 ?_
      refine PP.zret dX6_comesClean_110 rfl (by first | decide | omega | exact b2i_01 _) ?_
      exact RV0 (bf hcl (fun q => hp q.1))
    · omega
theorem m_comesClean {σ : Sg} {n t : Nat} {T P F : Nat → Int} {w : Int} (hc : MC σ T n P F) (ht : t < n) (hwa : 0 ≤ w ∧ w ≤ 9) : OK SHm mX6_comesClean 3 [vR 0, vI (t : Int), vI w] σ (RV (b2i (clS T n P F w t)) σ) := by
  have hT := hc.2.2.1
  have hn7 := hc.1.2.1
  obtain ⟨w1, w2, w3, w4⟩ := hc.1.2.2.2.2.2.1 t ht
  have g1 := hT (4 + t) (by omega)
  have g4 := hT (25 + t) (by omega)
  have hne : neS T P F t = T (25 + t) + (if T (4 + t) = 0 ∧ lkS T P F t = false then 1 else 0) := rfl
  have hne1 : T (4 + t) = 0 → lkS T P F t = false → T (25 + t) + 1 = neS T P F t := fun a b => by rw [hne, if_pos ⟨a, b⟩]
  have hne0 : ¬ (T (4 + t) = 0 ∧ lkS T P F t = false) → T (25 + t) + 0 = neS T P F t := fun a => by rw [hne, if_neg a]
  have J1 : ∀ (b : Int), T (25 + t) + b = neS T P F t → (b = 0 ∨ b = 1) → PP SHm mX6_comesClean 3 35 [vR 0, vI (t : Int), vI w, vI (T (4 + t)), vN, vN] [vI b, vI (T (25 + t))] σ (RV (b2i (clS T n P F w t)) σ) := by
    intro b hb hbz
    refine PP.iadd dX6_comesClean_35 ?_
    refine PP.istore (L' := [_, _, _, _, _, _]) dX6_comesClean_36 (Nat.le_of_ble_eq_true rfl) rfl rfl ?_
    refine PP.iload_n dX6_comesClean_38 rfl ?_
    refine PP.iconst dX6_comesClean_39 ?_
    refine PP.icmp_ne (tgt := 51) (by first | omega | exact b2i_R _ | (unfold R32; omega)) (by first | omega | exact b2i_R _ | (unfold R32; omega)) dX6_comesClean_40 (by decide) (fun h40 => ?_) (fun h40 => ?_)
    · refine PP.iload_n dX6_comesClean_51 rfl ?_
      refine PP.iconst dX6_comesClean_52 ?_
      refine PP.icmp_ne (tgt := 68) (by first | omega | exact b2i_R _ | (unfold R32; omega)) (by first | omega | exact b2i_R _ | (unfold R32; omega)) dX6_comesClean_53 (by decide) (fun h53 => ?_) (fun h53 => ?_)
      · refine PP.iconst dX6_comesClean_68 ?_
        first
        | exact cc_J2 hc ht hwa hb (by omega) (by unfold R32; omega) (fun _ => Or.inl ⟨h40, b2i_0.mp h48⟩) (fun q => absurd q (by decide))
        | exact cc_J2 hc ht hwa hb (by omega) (by unfold R32; omega) (fun _ => Or.inr ⟨h53, b2i_n.mp h61 ⟩) (fun q => absurd q (by decide))
        | exact cc_J2 hc ht hwa hb (by omega) (by unfold R32; omega) (fun q => absurd rfl q) (fun _ q => q.elim (fun q => by first | omega | (have := b2i_n.mp h48; rw [q.2] at this; cases this)) (fun q => by first | omega | (have := b2i_0.mp h61; rw [q.2] at this; cases this)))
      · refine PP.aload_n dX6_comesClean_56 rfl ?_
        refine PP.iload_n dX6_comesClean_57 rfl ?_
        refine PP.callVi (m_touches hc ht) dX6_comesClean_58 vl_X6_137 sm0 rfl rfl rfl rfl (Nat.le_of_ble_eq_true rfl) (by first | exact Nat.le_of_ble_eq_true rfl | omega) ?_
        refine PP.if_eq (tgt := 68) (by first | omega | exact b2i_R _ | (unfold R32; omega)) dX6_comesClean_61 (by decide) (fun h61 => ?_) (fun h61 => ?_)
        · refine PP.iconst dX6_comesClean_68 ?_
          first
          | exact cc_J2 hc ht hwa hb (by omega) (by unfold R32; omega) (fun _ => Or.inl ⟨h40, b2i_0.mp h48⟩) (fun q => absurd q (by decide))
          | exact cc_J2 hc ht hwa hb (by omega) (by unfold R32; omega) (fun _ => Or.inr ⟨h53, b2i_n.mp h61 ⟩) (fun q => absurd q (by decide))
          | exact cc_J2 hc ht hwa hb (by omega) (by unfold R32; omega) (fun q => absurd rfl q) (fun _ q => q.elim (fun q => by first | omega | (have := b2i_n.mp h48; rw [q.2] at this; cases this)) (fun q => by first | omega | (have := b2i_0.mp h61; rw [q.2] at this; cases this)))
        · refine PP.iconst dX6_comesClean_64 ?_
          refine PP.goto (tgt := 69) dX6_comesClean_65 (by decide) ?_
          first
          | exact cc_J2 hc ht hwa hb (by omega) (by unfold R32; omega) (fun _ => Or.inl ⟨h40, b2i_0.mp h48⟩) (fun q => absurd q (by decide))
          | exact cc_J2 hc ht hwa hb (by omega) (by unfold R32; omega) (fun _ => Or.inr ⟨h53, b2i_n.mp h61 ⟩) (fun q => absurd q (by decide))
          | exact cc_J2 hc ht hwa hb (by omega) (by unfold R32; omega) (fun q => absurd rfl q) (fun _ q => q.elim (fun q => by first | omega | (have := b2i_n.mp h48; rw [q.2] at this; cases this)) (fun q => by first | omega | (have := b2i_0.mp h61; rw [q.2] at this; cases this)))
    · refine PP.aload_n dX6_comesClean_43 rfl ?_
      refine PP.iload_n dX6_comesClean_44 rfl ?_
      refine PP.callVi (m_looksIn hc ht) dX6_comesClean_45 vl_X6_134 sm0 rfl rfl rfl rfl (Nat.le_of_ble_eq_true rfl) (by first | exact Nat.le_of_ble_eq_true rfl | omega) ?_
      refine PP.if_eq (tgt := 64) (by first | omega | exact b2i_R _ | (unfold R32; omega)) dX6_comesClean_48 (by decide) (fun h48 => ?_) (fun h48 => ?_)
      · refine PP.iconst dX6_comesClean_64 ?_
        refine PP.goto (tgt := 69) dX6_comesClean_65 (by decide) ?_
        first
        | exact cc_J2 hc ht hwa hb (by omega) (by unfold R32; omega) (fun _ => Or.inl ⟨h40, b2i_0.mp h48⟩) (fun q => absurd q (by decide))
        | exact cc_J2 hc ht hwa hb (by omega) (by unfold R32; omega) (fun _ => Or.inr ⟨h53, b2i_n.mp h61 ⟩) (fun q => absurd q (by decide))
        | exact cc_J2 hc ht hwa hb (by omega) (by unfold R32; omega) (fun q => absurd rfl q) (fun _ q => q.elim (fun q => by first | omega | (have := b2i_n.mp h48; rw [q.2] at this; cases this)) (fun q => by first | omega | (have := b2i_0.mp h61; rw [q.2] at this; cases this)))
      · refine PP.iload_n dX6_comesClean_51 rfl ?_
        refine PP.iconst dX6_comesClean_52 ?_
        refine PP.icmp_ne (tgt := 68) (by first | omega | exact b2i_R _ | (unfold R32; omega)) (by first | omega | exact b2i_R _ | (unfold R32; omega)) dX6_comesClean_53 (by decide) (fun h53 => ?_) (fun h53 => ?_)
        · refine PP.iconst dX6_comesClean_68 ?_
          first
          | exact cc_J2 hc ht hwa hb (by omega) (by unfold R32; omega) (fun _ => Or.inl ⟨h40, b2i_0.mp h48⟩) (fun q => absurd q (by decide))
          | exact cc_J2 hc ht hwa hb (by omega) (by unfold R32; omega) (fun _ => Or.inr ⟨h53, b2i_n.mp h61 ⟩) (fun q => absurd q (by decide))
          | exact cc_J2 hc ht hwa hb (by omega) (by unfold R32; omega) (fun q => absurd rfl q) (fun _ q => q.elim (fun q => by first | omega | (have := b2i_n.mp h48; rw [q.2] at this; cases this)) (fun q => by first | omega | (have := b2i_0.mp h61; rw [q.2] at this; cases this)))
        · refine PP.aload_n dX6_comesClean_56 rfl ?_
          refine PP.iload_n dX6_comesClean_57 rfl ?_
          refine PP.callVi (m_touches hc ht) dX6_comesClean_58 vl_X6_137 sm0 rfl rfl rfl rfl (Nat.le_of_ble_eq_true rfl) (by first | exact Nat.le_of_ble_eq_true rfl | omega) ?_
          refine PP.if_eq (tgt := 68) (by first | omega | exact b2i_R _ | (unfold R32; omega)) dX6_comesClean_61 (by decide) (fun h61 => ?_) (fun h61 => ?_)
          · refine PP.iconst dX6_comesClean_68 ?_
            first
            | exact cc_J2 hc ht hwa hb (by omega) (by unfold R32; omega) (fun _ => Or.inl ⟨h40, b2i_0.mp h48⟩) (fun q => absurd q (by decide))
            | exact cc_J2 hc ht hwa hb (by omega) (by unfold R32; omega) (fun _ => Or.inr ⟨h53, b2i_n.mp h61 ⟩) (fun q => absurd q (by decide))
            | exact cc_J2 hc ht hwa hb (by omega) (by unfold R32; omega) (fun q => absurd rfl q) (fun _ q => q.elim (fun q => by first | omega | (have := b2i_n.mp h48; rw [q.2] at this; cases this)) (fun q => by first | omega | (have := b2i_0.mp h61; rw [q.2] at this; cases this)))
          · refine PP.iconst dX6_comesClean_64 ?_
            refine PP.goto (tgt := 69) dX6_comesClean_65 (by decide) ?_
            first
            | exact cc_J2 hc ht hwa hb (by omega) (by unfold R32; omega) (fun _ => Or.inl ⟨h40, b2i_0.mp h48⟩) (fun q => absurd q (by decide))
            | exact cc_J2 hc ht hwa hb (by omega) (by unfold R32; omega) (fun _ => Or.inr ⟨h53, b2i_n.mp h61 ⟩) (fun q => absurd q (by decide))
            | exact cc_J2 hc ht hwa hb (by omega) (by unfold R32; omega) (fun q => absurd rfl q) (fun _ q => q.elim (fun q => by first | omega | (have := b2i_n.mp h48; rw [q.2] at this; cases this)) (fun q => by first | omega | (have := b2i_0.mp h61; rw [q.2] at this; cases this)))
  refine OK.enter (L' := [vR 0, vI (t : Int), vI w, vN, vN, vN]) (by decide +kernel) (by simp [ent0]) rfl ?_
  refine PP.aload_n dX6_comesClean_0 rfl ?_
  refine PP.getfR dX6_comesClean_1 fl_X6_13 sm0 rfl ?_
  refine PP.iconst dX6_comesClean_4 ?_
  refine PP.iload_n dX6_comesClean_5 rfl ?_
  refine PP.iadd dX6_comesClean_6 ?_
  refine PP.ialoadN (n := (4 + t)) sm2 (by first | decide | omega) (by first | rfl | omega) (by first | omega | exact b2i_R _ | (unfold R32; omega)) dX6_comesClean_7 ?_
  refine PP.eqI g1 ?_
  refine PP.istore_n (L' := [_, _, _, _, _, _]) dX6_comesClean_8 (Nat.le_of_ble_eq_true rfl) rfl rfl ?_
  refine PP.aload_n dX6_comesClean_9 rfl ?_
  refine PP.getfR dX6_comesClean_10 fl_X6_13 sm0 rfl ?_
  refine PP.bipush dX6_comesClean_13 (by decide) ?_
  refine PP.iload_n dX6_comesClean_15 rfl ?_
  refine PP.iadd dX6_comesClean_16 ?_
  refine PP.ialoadN (n := (25 + t)) sm2 (by first | decide | omega) (by first | rfl | omega) (by first | omega | exact b2i_R _ | (unfold R32; omega)) dX6_comesClean_17 ?_
  refine PP.eqI g4 ?_
  refine PP.iload_n dX6_comesClean_18 rfl ?_
  refine PP.if_ne (tgt := 34) (by first | omega | exact b2i_R _ | (unfold R32; omega)) dX6_comesClean_19 (by decide) (fun h19 => ?_) (fun h19 => ?_)
  · refine PP.iconst dX6_comesClean_34 ?_
    first
    | exact J1 _ (hne1 (by omega) (b2i_0.mp h27)) (by omega)
    | exact J1 _ (hne0 (fun q => h27 (b2i_0.mpr q.2))) (by omega)
    | exact J1 _ (hne0 (fun q => absurd q.1 (by omega))) (by omega)
  · refine PP.aload_n dX6_comesClean_22 rfl ?_
    refine PP.iload_n dX6_comesClean_23 rfl ?_
    refine PP.callVi (m_looksIn hc ht) dX6_comesClean_24 vl_X6_134 sm0 rfl rfl rfl rfl (Nat.le_of_ble_eq_true rfl) (by first | exact Nat.le_of_ble_eq_true rfl | omega) ?_
    refine PP.if_ne (tgt := 34) (by first | omega | exact b2i_R _ | (unfold R32; omega)) dX6_comesClean_27 (by decide) (fun h27 => ?_) (fun h27 => ?_)
    · refine PP.iconst dX6_comesClean_34 ?_
      first
      | exact J1 _ (hne1 (by omega) (b2i_0.mp h27)) (by omega)
      | exact J1 _ (hne0 (fun q => h27 (b2i_0.mpr q.2))) (by omega)
      | exact J1 _ (hne0 (fun q => absurd q.1 (by omega))) (by omega)
    · refine PP.iconst dX6_comesClean_30 ?_
      refine PP.goto (tgt := 35) dX6_comesClean_31 (by decide) ?_
      first
      | exact J1 _ (hne1 (by omega) (b2i_0.mp h27)) (by omega)
      | exact J1 _ (hne0 (fun q => h27 (b2i_0.mpr q.2))) (by omega)
      | exact J1 _ (hne0 (fun q => absurd q.1 (by omega))) (by omega)
theorem ior_0 (a : Nat) : Int32.ofInt (a : Int) ||| Int32.ofInt 0 = Int32.ofInt (a : Int) := by
  have := ior_n a 0
  rw [Nat.or_zero] at this
  exact this
theorem m_cleanBy {σ : Sg} {n : Nat} {T P F : Nat → Int} {w : Int} (hc : MC σ T n P F) (hwa : 0 ≤ w ∧ w ≤ 9) : OK SHm mX6_cleanBy 4 [vR 0, vI w] σ (RV (msk (clS T n P F w) n : Nat) σ) := by
  obtain ⟨hw, hP, hT, hS⟩ := id hc
  have hn7 := hw.2.1
  have hsl := hw.2.2.1
  have hmi := hw.2.2.2.1
  have har := hw.2.2.2.2.1
  have t0 := hT 0 (by decide)
  have t1 := hT 1 (by decide)
  have t2 := hT 2 (by decide)
  have t3 : σ 2 3 = (n : Int) := (hT 3 (by decide)).trans hw.1
  refine OK.enter (L' := [vR 0, vI w, vN, vN]) (by decide +kernel) (by simp [ent0]) rfl ?_
  have key : ∀ o, o ≤ n → PP SHm mX6_cleanBy 4 4 [vR 0, vI w, vI (msk (clS T n P F w) o : Nat), vI (o : Int)] [] σ (RV (msk (clS T n P F w) n : Nat) σ) := by
    refine loop_dn n ?_ ?_
    · refine PP.iload_n dX6_cleanBy_4 rfl ?_
      refine PP.aload_n dX6_cleanBy_5 rfl ?_
      refine PP.getfR dX6_cleanBy_6 fl_X6_13 sm0 rfl ?_
      refine PP.iconst dX6_cleanBy_9 ?_
      refine PP.ialoadN (n := 3) sm2 (by first | decide | omega) (by first | rfl | omega) (by first | omega | (unfold R32; omega)) dX6_cleanBy_10 ?_
      refine PP.icmp_ge (tgt := 39) (by first | omega | (unfold R32; omega)) (by first | omega | (unfold R32; omega)) dX6_cleanBy_11 (by decide) (fun h11 => ?_) (fun h11 => ?_)
      · refine PP.iload_n dX6_cleanBy_39 rfl ?_
        refine PP.iret dX6_cleanBy_40 rfl ?_
        exact RVe rfl
      · omega
    · intro o ho ih
      refine PP.iload_n dX6_cleanBy_4 rfl ?_
      refine PP.aload_n dX6_cleanBy_5 rfl ?_
      refine PP.getfR dX6_cleanBy_6 fl_X6_13 sm0 rfl ?_
      refine PP.iconst dX6_cleanBy_9 ?_
      refine PP.ialoadN (n := 3) sm2 (by first | decide | omega) (by first | rfl | omega) (by first | omega | exact b2i_R _ | (unfold R32; omega)) dX6_cleanBy_10 ?_
      refine PP.icmp_ge (tgt := 39) (by first | omega | exact b2i_R _ | (unfold R32; omega)) (by first | omega | exact b2i_R _ | (unfold R32; omega)) dX6_cleanBy_11 (by decide) (fun h11 => ?_) (fun h11 => ?_)
      · omega
      · refine PP.iload_n dX6_cleanBy_14 rfl ?_
        refine PP.aload_n dX6_cleanBy_15 rfl ?_
        refine PP.iload_n dX6_cleanBy_16 rfl ?_
        refine PP.iload_n dX6_cleanBy_17 rfl ?_
        refine PP.callVi (m_comesClean hc ho hwa) dX6_cleanBy_18 vl_X6_146 sm0 rfl rfl rfl rfl (Nat.le_of_ble_eq_true rfl) (by first | exact Nat.le_of_ble_eq_true rfl | omega) ?_
        refine PP.if_eq (tgt := 30) (by first | omega | exact b2i_R _ | (unfold R32; omega)) dX6_cleanBy_21 (by decide) (fun h21 => ?_) (fun h21 => ?_)
        · refine PP.iconst dX6_cleanBy_30 ?_
          refine PP.iorR (z := ((msk (clS T n P F w) (o + 1)) : Nat)) (by first | (rw [msk_s1 (b2i_n.mp h21)]; exact ior_msk _ _) | (rw [msk_s0 (b2i_0.mp h21)]; exact ior_0 _)) dX6_cleanBy_31 ?_
          refine PP.istore_n (L' := [_, _, _, _]) dX6_cleanBy_32 (Nat.le_of_ble_eq_true rfl) rfl rfl ?_
          refine PP.iinc (L' := [_, _, _, _]) dX6_cleanBy_33 rfl rfl rfl ?_
          refine PP.goto (tgt := 4) dX6_cleanBy_36 (by decide) ?_
          exact ih
        · refine PP.iconst dX6_cleanBy_24 ?_
          refine PP.iload_n dX6_cleanBy_25 rfl ?_
          refine PP.ishlR (z := ((2 ^ o) : Nat)) (shl1_o (by omega)) dX6_cleanBy_26 ?_
          refine PP.goto (tgt := 31) dX6_cleanBy_27 (by decide) ?_
          refine PP.iorR (z := ((msk (clS T n P F w) (o + 1)) : Nat)) (by first | (rw [msk_s1 (b2i_n.mp h21)]; exact ior_msk _ _) | (rw [msk_s0 (b2i_0.mp h21)]; exact ior_0 _)) dX6_cleanBy_31 ?_
          refine PP.istore_n (L' := [_, _, _, _]) dX6_cleanBy_32 (Nat.le_of_ble_eq_true rfl) rfl rfl ?_
          refine PP.iinc (L' := [_, _, _, _]) dX6_cleanBy_33 rfl rfl rfl ?_
          refine PP.goto (tgt := 4) dX6_cleanBy_36 (by decide) ?_
          exact ih
  refine PP.iconst dX6_cleanBy_0 ?_
  refine PP.istore_n (L' := [_, _, _, _]) dX6_cleanBy_1 (Nat.le_of_ble_eq_true rfl) rfl rfl ?_
  refine PP.iconst dX6_cleanBy_2 ?_
  refine PP.istore_n (L' := [_, _, _, _]) dX6_cleanBy_3 (Nat.le_of_ble_eq_true rfl) rfl rfl ?_
  exact key 0 (by omega)
theorem m_inside {σ : Sg} {n : Nat} {T P F : Nat → Int} (hc : MC σ T n P F) : OK SHm mX6_inside 1 [vR 0] σ (RV (msk (inS P) n : Nat) σ) := by
  obtain ⟨hw, hP, hT, hS⟩ := id hc
  have hn7 := hw.2.1
  have hsl := hw.2.2.1
  have hmi := hw.2.2.2.1
  have har := hw.2.2.2.2.1
  have t0 := hT 0 (by decide)
  have t1 := hT 1 (by decide)
  have t2 := hT 2 (by decide)
  have t3 : σ 2 3 = (n : Int) := (hT 3 (by decide)).trans hw.1
  refine OK.enter (L' := [vR 0, vN, vN]) (by decide +kernel) (by simp [ent0]) rfl ?_
  have key : ∀ o, o ≤ n → PP SHm mX6_inside 1 4 [vR 0, vI (msk (inS P) o : Nat), vI (o : Int)] [] σ (RV (msk (inS P) n : Nat) σ) := by
    refine loop_dn n ?_ ?_
    · refine PP.iload_n dX6_inside_4 rfl ?_
      refine PP.aload_n dX6_inside_5 rfl ?_
      refine PP.getfR dX6_inside_6 fl_X6_13 sm0 rfl ?_
      refine PP.iconst dX6_inside_9 ?_
      refine PP.ialoadN (n := 3) sm2 (by first | decide | omega) (by first | rfl | omega) (by first | omega | (unfold R32; omega)) dX6_inside_10 ?_
      refine PP.icmp_ge (tgt := 39) (by first | omega | (unfold R32; omega)) (by first | omega | (unfold R32; omega)) dX6_inside_11 (by decide) (fun h11 => ?_) (fun h11 => ?_)
      · refine PP.iload_n dX6_inside_39 rfl ?_
        refine PP.iret dX6_inside_40 rfl ?_
        exact RVe rfl
      · omega
    · intro o ho ih
      obtain ⟨v1, v2, v3, v4⟩ := hw.2.2.2.2.2.1 o ho
      have k1 := hT (4 + o) (by omega)
      have k2 := hT (11 + o) (by omega)
      have k3 := hT (18 + o) (by omega)
      have k4 := hT (25 + o) (by omega)
      obtain ⟨f1, f2, f3⟩ := hS o (by omega)
      have hPo := hP.1 o ho
      have hin := inS_t (P := P) (t := o)
      refine PP.iload_n dX6_inside_4 rfl ?_
      refine PP.aload_n dX6_inside_5 rfl ?_
      refine PP.getfR dX6_inside_6 fl_X6_13 sm0 rfl ?_
      refine PP.iconst dX6_inside_9 ?_
      refine PP.ialoadN (n := 3) sm2 (by first | decide | omega) (by first | rfl | omega) (by first | omega | exact b2i_R _ | (unfold R32; omega)) dX6_inside_10 ?_
      refine PP.icmp_ge (tgt := 39) (by first | omega | exact b2i_R _ | (unfold R32; omega)) (by first | omega | exact b2i_R _ | (unfold R32; omega)) dX6_inside_11 (by decide) (fun h11 => ?_) (fun h11 => ?_)
      · omega
      · refine PP.iload_n dX6_inside_14 rfl ?_
        refine PP.aload_n dX6_inside_15 rfl ?_
        refine PP.getfR dX6_inside_16 fl_X6_37 sm0 rfl ?_
        refine PP.iload_n dX6_inside_19 rfl ?_
        refine PP.ialoadN (n := o) sm10 (by first | decide | omega) (by first | rfl | omega) (by first | omega | exact b2i_R _ | (unfold R32; omega)) dX6_inside_20 ?_
        refine PP.if_lt (tgt := 30) (by first | omega | exact b2i_R _ | (unfold R32; omega)) dX6_inside_21 (by decide) (fun h21 => ?_) (fun h21 => ?_)
        · refine PP.iconst dX6_inside_30 ?_
          refine PP.iorR (z := ((msk (inS P) (o + 1)) : Nat)) (by first | (rw [msk_s1 (bt hin (by omega))]; exact ior_msk _ _) | (rw [msk_s0 (bf hin (by omega))]; exact ior_0 _)) dX6_inside_31 ?_
          refine PP.istore_n (L' := [_, _, _]) dX6_inside_32 (Nat.le_of_ble_eq_true rfl) rfl rfl ?_
          refine PP.iinc (L' := [_, _, _]) dX6_inside_33 rfl rfl rfl ?_
          refine PP.goto (tgt := 4) dX6_inside_36 (by decide) ?_
          exact ih
        · refine PP.iconst dX6_inside_24 ?_
          refine PP.iload_n dX6_inside_25 rfl ?_
          refine PP.ishlR (z := ((2 ^ o) : Nat)) (shl1_o (by omega)) dX6_inside_26 ?_
          refine PP.goto (tgt := 31) dX6_inside_27 (by decide) ?_
          refine PP.iorR (z := ((msk (inS P) (o + 1)) : Nat)) (by first | (rw [msk_s1 (bt hin (by omega))]; exact ior_msk _ _) | (rw [msk_s0 (bf hin (by omega))]; exact ior_0 _)) dX6_inside_31 ?_
          refine PP.istore_n (L' := [_, _, _]) dX6_inside_32 (Nat.le_of_ble_eq_true rfl) rfl rfl ?_
          refine PP.iinc (L' := [_, _, _]) dX6_inside_33 rfl rfl rfl ?_
          refine PP.goto (tgt := 4) dX6_inside_36 (by decide) ?_
          exact ih
  refine PP.iconst dX6_inside_0 ?_
  refine PP.istore_n (L' := [_, _, _]) dX6_inside_1 (Nat.le_of_ble_eq_true rfl) rfl rfl ?_
  refine PP.iconst dX6_inside_2 ?_
  refine PP.istore_n (L' := [_, _, _]) dX6_inside_3 (Nat.le_of_ble_eq_true rfl) rfl rfl ?_
  exact key 0 (by omega)
