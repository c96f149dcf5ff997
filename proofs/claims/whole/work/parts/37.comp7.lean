/-! the component's calls: chances, days -/
theorem gcd_st {x y : Nat} : Nat.gcd y (x % y) = Nat.gcd x y := by
  rw [Nat.gcd_comm x y, Nat.gcd_rec y x, Nat.gcd_comm]
theorem mod_half {x y : Nat} (h0 : 0 < y) (h : y ≤ x) : 2 * (x % y) ≤ x := by
  have h1 := Nat.mod_lt x h0
  have h2 := Nat.div_add_mod x y
  have h3 : y * 1 ≤ y * (x / y) := Nat.mul_le_mul_left y (Nat.div_pos h h0)
  omega
theorem ok_gcd {SH : List shp} {σ : Sg} {a b : Nat} (ha : a ≤ 2000) (hb : b ≤ 2000) : OK SH mX5_commonDivisor 1 [vI (a : Int), vI (b : Int)] σ (RV (Nat.gcd a b : Nat) σ) := by
  refine OK.enter (L' := [vI (a : Int), vI (b : Int), vN, vN, vN, vN]) (by decide +kernel) (by simp [ent0]) rfl ?_
  have key : ∀ (k x y i : Nat), y ≤ x → x ≤ 2000 → x * y < 2 ^ k → i + k ≤ 40 → PP SH mX5_commonDivisor 1 7 [vI (a : Int), vI (b : Int), vI (x : Int), vI (y : Int), vI (i : Int), vN] [] σ (RV (Nat.gcd x y : Nat) σ) := by
    intro k
    induction k with
    | zero =>
      intro x y i h1 h2 h3 h4
      have hy : y = 0 := by
        rcases Nat.eq_zero_or_pos y with h | h
        · exact h
        · have := Nat.mul_pos (show 0 < x by omega) h
          omega
      subst hy
      rw [Nat.gcd_zero_right]
      refine PP.iload dX5_commonDivisor_7 rfl ?_
      refine PP.bipush dX5_commonDivisor_9 (by decide) ?_
      refine PP.icmp_ge (tgt := 34) (by first | omega | (unfold R32; omega)) (by first | omega | (unfold R32; omega)) dX5_commonDivisor_11 (by decide) (fun h11 => ?_) (fun h11 => ?_)
      · refine PP.iload_n dX5_commonDivisor_34 rfl ?_
        refine PP.iret dX5_commonDivisor_35 rfl ?_
        exact RVe rfl
      · refine PP.iload_n dX5_commonDivisor_14 rfl ?_
        refine PP.if_eq (tgt := 34) (by first | omega | (unfold R32; omega)) dX5_commonDivisor_15 (by decide) (fun h15 => ?_) (fun h15 => ?_)
        · refine PP.iload_n dX5_commonDivisor_34 rfl ?_
          refine PP.iret dX5_commonDivisor_35 rfl ?_
          exact RVe rfl
        · omega
    | succ k ih =>
      intro x y i h1 h2 h3 h4
      rcases Nat.eq_zero_or_pos y with hy | hy
      · subst hy
        rw [Nat.gcd_zero_right]
        refine PP.iload dX5_commonDivisor_7 rfl ?_
        refine PP.bipush dX5_commonDivisor_9 (by decide) ?_
        refine PP.icmp_ge (tgt := 34) (by first | omega | (unfold R32; omega)) (by first | omega | (unfold R32; omega)) dX5_commonDivisor_11 (by decide) (fun h11 => ?_) (fun h11 => ?_)
        · refine PP.iload_n dX5_commonDivisor_34 rfl ?_
          refine PP.iret dX5_commonDivisor_35 rfl ?_
          exact RVe rfl
        · refine PP.iload_n dX5_commonDivisor_14 rfl ?_
          refine PP.if_eq (tgt := 34) (by first | omega | (unfold R32; omega)) dX5_commonDivisor_15 (by decide) (fun h15 => ?_) (fun h15 => ?_)
          · refine PP.iload_n dX5_commonDivisor_34 rfl ?_
            refine PP.iret dX5_commonDivisor_35 rfl ?_
            exact RVe rfl
          · omega
      · have hlt := Nat.mod_lt x hy
        have hm := mod_half hy h1
        have hp : y * (2 * (x % y)) ≤ y * x := Nat.mul_le_mul_left y hm
        have e1 : y * (2 * (x % y)) = 2 * (y * (x % y)) := by rw [Nat.mul_left_comm]
        have e2 : y * x = x * y := Nat.mul_comm y x
        have e3 : 2 ^ (k + 1) = 2 * 2 ^ k := by rw [Nat.pow_succ]; omega
        have ih' := ih y (x % y) (i + 1) (by omega) (by omega) (by omega) (by omega)
        rw [gcd_st] at ih'
        refine PP.iload dX5_commonDivisor_7 rfl ?_
        refine PP.bipush dX5_commonDivisor_9 (by decide) ?_
        refine PP.icmp_ge (tgt := 34) (by first | omega | (unfold R32; omega)) (by first | omega | (unfold R32; omega)) dX5_commonDivisor_11 (by decide) (fun h11 => ?_) (fun h11 => ?_)
        · omega
        · refine PP.iload_n dX5_commonDivisor_14 rfl ?_
          refine PP.if_eq (tgt := 34) (by first | omega | (unfold R32; omega)) dX5_commonDivisor_15 (by decide) (fun h15 => ?_) (fun h15 => ?_)
          · omega
          · refine PP.iload_n dX5_commonDivisor_18 rfl ?_
            refine PP.iload_n dX5_commonDivisor_19 rfl ?_
            refine PP.irem (by first | omega | (unfold R32; omega)) (by first | omega | (unfold R32; omega)) (by first | omega | (unfold R32; omega)) (by first | omega | (unfold R32; omega)) dX5_commonDivisor_20 ?_
            refine PP.eqI (y := ((x % y : Nat) : Int)) (by rfl) ?_
            refine PP.istore (L' := [_, _, _, _, _, _]) dX5_commonDivisor_21 (Nat.le_of_ble_eq_true rfl) rfl rfl ?_
            refine PP.iload_n dX5_commonDivisor_23 rfl ?_
            refine PP.istore_n (L' := [_, _, _, _, _, _]) dX5_commonDivisor_24 (Nat.le_of_ble_eq_true rfl) rfl rfl ?_
            refine PP.iload dX5_commonDivisor_25 rfl ?_
            refine PP.istore_n (L' := [_, _, _, _, _, _]) dX5_commonDivisor_27 (Nat.le_of_ble_eq_true rfl) rfl rfl ?_
            refine PP.iinc (L' := [_, _, _, _, _, _]) dX5_commonDivisor_28 rfl rfl rfl ?_
            refine PP.goto (tgt := 7) dX5_commonDivisor_31 (by decide) ?_
            refine PP.frg 5 (L' := [_, _, _, _, _, _]) rfl ?_
            exact PP.eqL (by rw [show ((i + 1 : Nat) : Int) = (i : Int) + 1 by omega]) ih'
  rcases Nat.eq_zero_or_pos b with hy | hy
  · subst hy
    rw [Nat.gcd_zero_right]
    refine PP.iload_n dX5_commonDivisor_0 rfl ?_
    refine PP.istore_n (L' := [_, _, _, _, _, _]) dX5_commonDivisor_1 (Nat.le_of_ble_eq_true rfl) rfl rfl ?_
    refine PP.iload_n dX5_commonDivisor_2 rfl ?_
    refine PP.istore_n (L' := [_, _, _, _, _, _]) dX5_commonDivisor_3 (Nat.le_of_ble_eq_true rfl) rfl rfl ?_
    refine PP.iconst dX5_commonDivisor_4 ?_
    refine PP.istore (L' := [_, _, _, _, _, _]) dX5_commonDivisor_5 (Nat.le_of_ble_eq_true rfl) rfl rfl ?_
    refine PP.iload dX5_commonDivisor_7 rfl ?_
    refine PP.bipush dX5_commonDivisor_9 (by decide) ?_
    refine PP.icmp_ge (tgt := 34) (by first | omega | (unfold R32; omega)) (by first | omega | (unfold R32; omega)) dX5_commonDivisor_11 (by decide) (fun h11 => ?_) (fun h11 => ?_)
    · refine PP.iload_n dX5_commonDivisor_34 rfl ?_
      refine PP.iret dX5_commonDivisor_35 rfl ?_
      exact RVe rfl
    · refine PP.iload_n dX5_commonDivisor_14 rfl ?_
      refine PP.if_eq (tgt := 34) (by first | omega | (unfold R32; omega)) dX5_commonDivisor_15 (by decide) (fun h15 => ?_) (fun h15 => ?_)
      · refine PP.iload_n dX5_commonDivisor_34 rfl ?_
        refine PP.iret dX5_commonDivisor_35 rfl ?_
        exact RVe rfl
      · omega
  · have hlt := Nat.mod_lt a hy
    have hp : b * (a % b) ≤ 2000 * 2000 := Nat.mul_le_mul hb (by omega)
    have k' := key 22 b (a % b) 1 (by omega) hb (by omega) (by omega)
    rw [gcd_st] at k'
    have k0 : PP SH mX5_commonDivisor 1 7 [vI (a : Int), vI (b : Int), vI (a : Int), vI (b : Int), vI 0, vN] [] σ (RV (Nat.gcd a b : Nat) σ) := by
      refine PP.iload dX5_commonDivisor_7 rfl ?_
      refine PP.bipush dX5_commonDivisor_9 (by decide) ?_
      refine PP.icmp_ge (tgt := 34) (by first | omega | (unfold R32; omega)) (by first | omega | (unfold R32; omega)) dX5_commonDivisor_11 (by decide) (fun h11 => ?_) (fun h11 => ?_)
      · omega
      · refine PP.iload_n dX5_commonDivisor_14 rfl ?_
        refine PP.if_eq (tgt := 34) (by first | omega | (unfold R32; omega)) dX5_commonDivisor_15 (by decide) (fun h15 => ?_) (fun h15 => ?_)
        · omega
        · refine PP.iload_n dX5_commonDivisor_18 rfl ?_
          refine PP.iload_n dX5_commonDivisor_19 rfl ?_
          refine PP.irem (by first | omega | (unfold R32; omega)) (by first | omega | (unfold R32; omega)) (by first | omega | (unfold R32; omega)) (by first | omega | (unfold R32; omega)) dX5_commonDivisor_20 ?_
          refine PP.eqI (y := ((a % b : Nat) : Int)) (by rfl) ?_
          refine PP.istore (L' := [_, _, _, _, _, _]) dX5_commonDivisor_21 (Nat.le_of_ble_eq_true rfl) rfl rfl ?_
          refine PP.iload_n dX5_commonDivisor_23 rfl ?_
          refine PP.istore_n (L' := [_, _, _, _, _, _]) dX5_commonDivisor_24 (Nat.le_of_ble_eq_true rfl) rfl rfl ?_
          refine PP.iload dX5_commonDivisor_25 rfl ?_
          refine PP.istore_n (L' := [_, _, _, _, _, _]) dX5_commonDivisor_27 (Nat.le_of_ble_eq_true rfl) rfl rfl ?_
          refine PP.iinc (L' := [_, _, _, _, _, _]) dX5_commonDivisor_28 rfl rfl rfl ?_
          refine PP.goto (tgt := 7) dX5_commonDivisor_31 (by decide) ?_
          refine PP.frg 5 (L' := [_, _, _, _, _, _]) rfl ?_
          exact PP.eqL rfl k'
    refine PP.iload_n dX5_commonDivisor_0 rfl ?_
    refine PP.istore_n (L' := [_, _, _, _, _, _]) dX5_commonDivisor_1 (Nat.le_of_ble_eq_true rfl) rfl rfl ?_
    refine PP.iload_n dX5_commonDivisor_2 rfl ?_
    refine PP.istore_n (L' := [_, _, _, _, _, _]) dX5_commonDivisor_3 (Nat.le_of_ble_eq_true rfl) rfl rfl ?_
    refine PP.iconst dX5_commonDivisor_4 ?_
    refine PP.istore (L' := [_, _, _, _, _, _]) dX5_commonDivisor_5 (Nat.le_of_ble_eq_true rfl) rfl rfl ?_
    exact k0
theorem c_isClean {σ : Sg} {A : ST} {x s u c part : Int} (hA : RepC σ A) (h1 : R32 x) (h2 : R32 s) (h3 : R32 u) (h4 : R32 c) (h5 : R32 part) : OK SHc mX5_isClean 20 [vR 0, vI x, vI s, vI u, vI c, vI part] σ (RP (fun v τ => v = qIsClean x s u c part ∧ RepC τ A)) := by
  simp only [qIsClean, isZ]
  refine OK.enter (L' := [vR 0, vI x, vI s, vI u, vI c, vI part, vN, vN, vN]) (by decide +kernel) (by simp [ent0]) rfl ?_
  by_cases ht : (0 ≤ x ∧ x ≤ 10) ∧ (0 ≤ s ∧ s ≤ 10) ∧ (0 ≤ u ∧ u ≤ 10) ∧ (0 ≤ c ∧ c ≤ 10) ∧ (part = 0 ∨ part = 1)
  · rw [if_neg (fun h => h ht)]
    obtain ⟨t1, t2, t3, t4, t5⟩ := ht
    have p1 : 0 ≤ x * s ∧ x * s ≤ 100 := ⟨Int.mul_nonneg t1.1 t2.1, Int.mul_le_mul t1.2 t2.2 t2.1 (by decide)⟩
    have p2 : 0 ≤ (10 - x) * u ∧ (10 - x) * u ≤ 100 := ⟨Int.mul_nonneg (by omega) t3.1, Int.mul_le_mul (show 10 - x ≤ 10 by omega) t3.2 t3.1 (by decide)⟩
    have p3 : 0 ≤ (10 - x) * u * c ∧ (10 - x) * u * c ≤ 1000 := ⟨Int.mul_nonneg p2.1 t4.1, Int.mul_le_mul p2.2 t4.2 t4.1 (by decide)⟩
    have e1 : 10 * x * s = x * s * 10 := by rw [Int.mul_assoc, Int.mul_comm]
    rw [e1]
    obtain ⟨a, ha⟩ : ∃ a : Nat, x * s * 10 = (a : Int) := ⟨(x * s * 10).toNat, by omega⟩
    obtain ⟨b, hb⟩ : ∃ b : Nat, x * s * 10 + (10 - x) * u * c = (b : Int) := ⟨(x * s * 10 + (10 - x) * u * c).toNat, by omega⟩
    rw [hb, ha, Int.toNat_natCast, Int.toNat_natCast]
    have ga : a ≤ 2000 := by omega
    have gb : b ≤ 2000 := by omega
    have hab : a ≤ b := by omega
    have gg : Nat.gcd a b ≤ b ∨ b = 0 := by
      rcases Nat.eq_zero_or_pos b with h | h
      · exact Or.inr h
      · exact Or.inl (Nat.gcd_le_right a h)
    have gp : b ≠ 0 → 0 < Nat.gcd a b := fun h => Nat.gcd_pos_of_pos_right a (by omega)
    refine PP.iload_n dX5_isClean_0 rfl ?_
    refine PP.callSi (ok_isTenth h1) dX5_isClean_1 sl_X5_232 rfl rfl (Nat.le_of_ble_eq_true rfl) (by first | exact Nat.le_of_ble_eq_true rfl | omega) ?_
    refine PP.if_eq (tgt := 37) (by first | omega | assumption | exact b2i_R _ | (unfold R32; omega)) dX5_isClean_4 (by decide) (fun h4 => ?_) (fun h4 => ?_)
    · rw [decide_eq_true t1] at h4; cases h4
    · refine PP.iload_n dX5_isClean_7 rfl ?_
      refine PP.callSi (ok_isTenth h2) dX5_isClean_8 sl_X5_232 rfl rfl (Nat.le_of_ble_eq_true rfl) (by first | exact Nat.le_of_ble_eq_true rfl | omega) ?_
      refine PP.if_eq (tgt := 37) (by first | omega | assumption | exact b2i_R _ | (unfold R32; omega)) dX5_isClean_11 (by decide) (fun h11 => ?_) (fun h11 => ?_)
      · rw [decide_eq_true t2] at h11; cases h11
      · refine PP.iload_n dX5_isClean_14 rfl ?_
        refine PP.callSi (ok_isTenth h3) dX5_isClean_15 sl_X5_232 rfl rfl (Nat.le_of_ble_eq_true rfl) (by first | exact Nat.le_of_ble_eq_true rfl | omega) ?_
        refine PP.if_eq (tgt := 37) (by first | omega | assumption | exact b2i_R _ | (unfold R32; omega)) dX5_isClean_18 (by decide) (fun h18 => ?_) (fun h18 => ?_)
        · rw [decide_eq_true t3] at h18; cases h18
        · refine PP.iload dX5_isClean_21 rfl ?_
          refine PP.callSi (ok_isTenth (by assumption)) dX5_isClean_23 sl_X5_232 rfl rfl (Nat.le_of_ble_eq_true rfl) (by first | exact Nat.le_of_ble_eq_true rfl | omega) ?_
          refine PP.if_eq (tgt := 37) (by first | omega | assumption | exact b2i_R _ | (unfold R32; omega)) dX5_isClean_26 (by decide) (fun h26 => ?_) (fun h26 => ?_)
          · rw [decide_eq_true t4] at h26; cases h26
          · refine PP.iload dX5_isClean_29 rfl ?_
            refine PP.callSi (ok_isBit h5) dX5_isClean_31 sl_X5_145 rfl rfl (Nat.le_of_ble_eq_true rfl) (by first | exact Nat.le_of_ble_eq_true rfl | omega) ?_
            refine PP.if_ne (tgt := 39) (by first | omega | assumption | exact b2i_R _ | (unfold R32; omega)) dX5_isClean_34 (by decide) (fun h34 => ?_) (fun h34 => ?_)
            · refine PP.iload_n dX5_isClean_39 rfl ?_
              refine PP.iload_n dX5_isClean_40 rfl ?_
              refine PP.imul dX5_isClean_41 ?_
              refine PP.bipush dX5_isClean_42 (by decide) ?_
              refine PP.imul dX5_isClean_44 ?_
              refine PP.eqI ha ?_
              refine PP.istore (L' := [_, _, _, _, _, _, _, _, _]) dX5_isClean_45 (Nat.le_of_ble_eq_true rfl) rfl rfl ?_
              refine PP.iload dX5_isClean_47 rfl ?_
              refine PP.bipush dX5_isClean_49 (by decide) ?_
              refine PP.iload_n dX5_isClean_51 rfl ?_
              refine PP.isub dX5_isClean_52 ?_
              refine PP.iload_n dX5_isClean_53 rfl ?_
              refine PP.imul dX5_isClean_54 ?_
              refine PP.iload dX5_isClean_55 rfl ?_
              refine PP.imul dX5_isClean_57 ?_
              refine PP.iadd dX5_isClean_58 ?_
              refine PP.eqI (y := (b : Int)) (by omega) ?_
              refine PP.istore (L' := [_, _, _, _, _, _, _, _, _]) dX5_isClean_59 (Nat.le_of_ble_eq_true rfl) rfl rfl ?_
              refine PP.iload dX5_isClean_61 rfl ?_
              refine PP.if_ne (tgt := 69) (by first | omega | assumption | exact b2i_R _ | (unfold R32; omega)) dX5_isClean_63 (by decide) (fun h63 => ?_) (fun h63 => ?_)
              · have gq := gp (by omega)
                refine PP.iload dX5_isClean_69 rfl ?_
                refine PP.iload dX5_isClean_71 rfl ?_
                refine PP.callSi (ok_gcd ga gb) dX5_isClean_73 sl_X5_235 rfl rfl (Nat.le_of_ble_eq_true rfl) (by first | exact Nat.le_of_ble_eq_true rfl | omega) ?_
                refine PP.istore (L' := [_, _, _, _, _, _, _, _, _]) dX5_isClean_76 (Nat.le_of_ble_eq_true rfl) rfl rfl ?_
                refine PP.iload dX5_isClean_78 rfl ?_
                refine PP.if_ne (tgt := 86) (by first | omega | assumption | exact b2i_R _ | (unfold R32; omega)) dX5_isClean_80 (by decide) (fun h80 => ?_) (fun h80 => ?_)
                · refine PP.iload dX5_isClean_86 rfl ?_
                  refine PP.if_ne (tgt := 96) (by first | omega | assumption | exact b2i_R _ | (unfold R32; omega)) dX5_isClean_88 (by decide) (fun h88 => ?_) (fun h88 => ?_)
                  · refine PP.iload dX5_isClean_96 rfl ?_
                    refine PP.iload dX5_isClean_98 rfl ?_
                    refine PP.idiv (by first | omega | assumption | exact b2i_R _ | (unfold R32; omega)) (by first | omega | assumption | exact b2i_R _ | (unfold R32; omega)) (by first | omega | assumption | exact b2i_R _ | (unfold R32; omega)) (by first | omega | assumption | exact b2i_R _ | (unfold R32; omega)) dX5_isClean_100 ?_
                    refine PP.iret dX5_isClean_101 rfl ?_
                    rw [if_neg (by omega)]
                    first
                      | (rw [if_pos (by omega)]; exact ⟨_, rfl, by first | rfl | rw [ha] | rw [hb], hA⟩)
                      | (rw [if_neg (by omega)]; exact ⟨_, rfl, by first | rfl | rw [ha] | rw [hb], hA⟩)
                  · refine PP.iload dX5_isClean_91 rfl ?_
                    refine PP.goto (tgt := 98) dX5_isClean_93 (by decide) ?_
                    refine PP.iload dX5_isClean_98 rfl ?_
                    refine PP.idiv (by first | omega | assumption | exact b2i_R _ | (unfold R32; omega)) (by first | omega | assumption | exact b2i_R _ | (unfold R32; omega)) (by first | omega | assumption | exact b2i_R _ | (unfold R32; omega)) (by first | omega | assumption | exact b2i_R _ | (unfold R32; omega)) dX5_isClean_100 ?_
                    refine PP.iret dX5_isClean_101 rfl ?_
                    rw [if_neg (by omega)]
                    first
                      | (rw [if_pos (by omega)]; exact ⟨_, rfl, by first | rfl | rw [ha] | rw [hb], hA⟩)
                      | (rw [if_neg (by omega)]; exact ⟨_, rfl, by first | rfl | rw [ha] | rw [hb], hA⟩)
                · omega
              · refine PP.bipush dX5_isClean_66 (by decide) ?_
                refine PP.iret dX5_isClean_68 rfl ?_
                rw [if_pos (by omega)]
                exact ⟨_, rfl, rfl, hA⟩
            · rw [decide_eq_true t5] at h34; cases h34
  · rw [if_pos ht]
    refine PP.iload_n dX5_isClean_0 rfl ?_
    refine PP.callSi (ok_isTenth h1) dX5_isClean_1 sl_X5_232 rfl rfl (Nat.le_of_ble_eq_true rfl) (by first | exact Nat.le_of_ble_eq_true rfl | omega) ?_
    refine PP.if_eq (tgt := 37) (by first | omega | assumption | exact b2i_R _ | (unfold R32; omega)) dX5_isClean_4 (by decide) (fun h4 => ?_) (fun h4 => ?_)
    · refine PP.iconst dX5_isClean_37 ?_
      refine PP.iret dX5_isClean_38 rfl ?_
      exact ⟨_, rfl, rfl, hA⟩
    · refine PP.iload_n dX5_isClean_7 rfl ?_
      refine PP.callSi (ok_isTenth h2) dX5_isClean_8 sl_X5_232 rfl rfl (Nat.le_of_ble_eq_true rfl) (by first | exact Nat.le_of_ble_eq_true rfl | omega) ?_
      refine PP.if_eq (tgt := 37) (by first | omega | assumption | exact b2i_R _ | (unfold R32; omega)) dX5_isClean_11 (by decide) (fun h11 => ?_) (fun h11 => ?_)
      · refine PP.iconst dX5_isClean_37 ?_
        refine PP.iret dX5_isClean_38 rfl ?_
        exact ⟨_, rfl, rfl, hA⟩
      · refine PP.iload_n dX5_isClean_14 rfl ?_
        refine PP.callSi (ok_isTenth h3) dX5_isClean_15 sl_X5_232 rfl rfl (Nat.le_of_ble_eq_true rfl) (by first | exact Nat.le_of_ble_eq_true rfl | omega) ?_
        refine PP.if_eq (tgt := 37) (by first | omega | assumption | exact b2i_R _ | (unfold R32; omega)) dX5_isClean_18 (by decide) (fun h18 => ?_) (fun h18 => ?_)
        · refine PP.iconst dX5_isClean_37 ?_
          refine PP.iret dX5_isClean_38 rfl ?_
          exact ⟨_, rfl, rfl, hA⟩
        · refine PP.iload dX5_isClean_21 rfl ?_
          refine PP.callSi (ok_isTenth (by assumption)) dX5_isClean_23 sl_X5_232 rfl rfl (Nat.le_of_ble_eq_true rfl) (by first | exact Nat.le_of_ble_eq_true rfl | omega) ?_
          refine PP.if_eq (tgt := 37) (by first | omega | assumption | exact b2i_R _ | (unfold R32; omega)) dX5_isClean_26 (by decide) (fun h26 => ?_) (fun h26 => ?_)
          · refine PP.iconst dX5_isClean_37 ?_
            refine PP.iret dX5_isClean_38 rfl ?_
            exact ⟨_, rfl, rfl, hA⟩
          · refine PP.iload dX5_isClean_29 rfl ?_
            refine PP.callSi (ok_isBit h5) dX5_isClean_31 sl_X5_145 rfl rfl (Nat.le_of_ble_eq_true rfl) (by first | exact Nat.le_of_ble_eq_true rfl | omega) ?_
            refine PP.if_ne (tgt := 39) (by first | omega | assumption | exact b2i_R _ | (unfold R32; omega)) dX5_isClean_34 (by decide) (fun h34 => ?_) (fun h34 => ?_)
            · exact absurd ⟨of_decide_eq_true (b2i_n.mp h4), of_decide_eq_true (b2i_n.mp h11), of_decide_eq_true (b2i_n.mp h18), of_decide_eq_true (b2i_n.mp h26), of_decide_eq_true (b2i_n.mp h34)⟩ ht
            · refine PP.iconst dX5_isClean_37 ?_
              refine PP.iret dX5_isClean_38 rfl ?_
              exact ⟨_, rfl, rfl, hA⟩
theorem PP.eqK {SH : List shp} {M : mth} {d pc : Nat} {L st : List pv} {σ : Sg} {Q : Option pv → Sg → Prop} {x y : Int} (h : x = y) (k : PP SH M d pc L (vL y :: st) σ Q) : PP SH M d pc L (vL x :: st) σ Q := h ▸ k
theorem ok_drawOf {SH : List shp} {σ : Sg} {z k : Nat} (hz : z ≤ 9999) (hk : k ≤ 30) : OK SH mX5_drawOf 1 [vI (z : Int), vI (k : Int)] σ (RV (dwS z k : Nat) σ) := by
  refine OK.enter (L' := [vI (z : Int), vI (k : Int), vN, vN]) (by decide +kernel) (by simp [ent0]) rfl ?_
  obtain ⟨v, hv⟩ : ∃ v : Nat, v = 7919 * z + 6151 * k + 1 := ⟨_, rfl⟩
  have hv2 : v * v ≤ 80000000 * 80000000 := Nat.mul_le_mul (by omega) (by omega)
  have hq : ((v * v : Nat) : Int) = (v : Int) * (v : Int) := by simp
  have he : dwS z k = v * v % 65521 / 2 := by unfold dwS; rw [hv]
  refine PP.ldc2 (z := 7919) dX5_drawOf_0 bw732 ?_
  refine PP.iload_n dX5_drawOf_3 rfl ?_
  refine PP.i2l (by first | omega | (unfold R32; omega)) dX5_drawOf_4 ?_
  refine PP.lmul dX5_drawOf_5 ?_
  refine PP.ldc2 (z := 6151) dX5_drawOf_6 bw733 ?_
  refine PP.iload_n dX5_drawOf_9 rfl ?_
  refine PP.i2l (by first | omega | (unfold R32; omega)) dX5_drawOf_10 ?_
  refine PP.lmul dX5_drawOf_11 ?_
  refine PP.ladd dX5_drawOf_12 ?_
  refine PP.lconst (z := 1) dX5_drawOf_13 (by decide) ?_
  refine PP.ladd dX5_drawOf_14 ?_
  refine PP.eqK (y := (v : Int)) (by omega) ?_
  refine PP.lstore_n (L' := [_, _, _, _]) dX5_drawOf_15 (Nat.le_of_ble_eq_true rfl) rfl rfl ?_
  refine PP.lload_n dX5_drawOf_16 rfl ?_
  refine PP.lload_n dX5_drawOf_17 rfl ?_
  refine PP.lmul dX5_drawOf_18 ?_
  refine PP.eqK (y := ((v * v : Nat) : Int)) hq.symm ?_
  refine PP.ldc2 (z := 65521) dX5_drawOf_19 bw734 ?_
  refine PP.lrem (by first | omega | (unfold R32; omega)) (by first | omega | (unfold R32; omega)) (by first | omega | (unfold R32; omega)) (by first | omega | (unfold R32; omega)) dX5_drawOf_22 ?_
  refine PP.ldc2 (z := 2) dX5_drawOf_23 bw735 ?_
  refine PP.ldiv (by first | omega | (unfold R32; omega)) (by first | omega | (unfold R32; omega)) (by first | omega | (unfold R32; omega)) (by first | omega | (unfold R32; omega)) dX5_drawOf_26 ?_
  refine PP.l2i dX5_drawOf_27 ?_
  refine PP.iret dX5_drawOf_28 rfl ?_
  exact RVe (by rw [he]; omega)
def drw (T : Nat → Int) (n : Nat) (wa : Nat → Bool) (X : (Nat → Int) × (Nat → Int)) (D : Nat) : (Nat → Int) × (Nat → Int) :=
  if wa (D % n) = false ∧ X.1 (D % n) < 0 ∧ fitS T n X.1 (D % n) ((D / 8 % (T 0).toNat : Nat) : Int) = true then (uf X.1 (D % n) ((D / 8 % (T 0).toNat : Nat) : Int), uf X.2 (D % n) ((D / 128 % 2 : Nat) : Int)) else X
theorem ok_drawInto {σ : Sg} {T : Nat → Int} {n D : Nat} {wa : Nat → Bool} {X : (Nat → Int) × (Nat → Int)} (hn1 : 1 ≤ n) (hC : RC σ 24 14 T n X.1 X.2) (hm : σ 24 4 = (msk wa n : Nat)) (hD : D < 65521) : OK SHc mX5_drawInto 4 [vR 0, vR 24, vI (D : Int)] σ (RPn (fun τ => RC τ 24 14 T n (drw T n wa X D).1 (drw T n wa X D).2 ∧ ∀ c, c < 25 ∨ 27 < c → τ c = σ c)) := by
  have hw := hC.2.2.1
  have hn7 := hw.2.1
  have hsl := hw.2.2.1
  obtain ⟨d0, d1, d2, d3, -⟩ := id hC.2.2.2.2.1
  obtain ⟨S, hS⟩ : ∃ S : Nat, T 0 = (S : Int) := ⟨(T 0).toNat, by omega⟩
  have d0' : σ 14 0 = (S : Int) := by rw [d0, hS]
  have hj := Nat.mod_lt D (show 0 < n by omega)
  have hsS := Nat.mod_lt (D / 8) (show 0 < S by omega)
  simp only [drw, hS, Int.toNat_natCast]
  generalize hj0 : D % n = j at *
  generalize hs0 : D / 8 % S = s at *
  have hin : inS X.1 j = true ↔ 0 ≤ X.1 j := inS_t
  refine OK.enter (L' := [vR 0, vR 24, vI (D : Int), vN, vN]) (by decide +kernel) (by simp [ent0]) rfl ?_
  refine PP.aload_n dX5_drawInto_0 rfl ?_
  refine PP.getfR dX5_drawInto_1 fl_X5_23 sc0 rfl ?_
  refine PP.getfI dX5_drawInto_4 fl_X5_87 sc14 rfl ?_
  refine PP.if_eq (tgt := 20) (by first | omega | exact b2i_R _ | (unfold R32; omega)) dX5_drawInto_7 (by decide) (fun h7 => ?_) (fun h7 => ?_)
  · omega
  · refine PP.aload_n dX5_drawInto_10 rfl ?_
    refine PP.getfR dX5_drawInto_11 fl_X5_23 sc0 rfl ?_
    refine PP.getfI dX5_drawInto_14 fl_X5_191 sc14 rfl ?_
    refine PP.if_ne (tgt := 21) (by first | omega | exact b2i_R _ | (unfold R32; omega)) dX5_drawInto_17 (by decide) (fun h17 => ?_) (fun h17 => ?_)
    · refine PP.iload_n dX5_drawInto_21 rfl ?_
      refine PP.aload_n dX5_drawInto_22 rfl ?_
      refine PP.getfR dX5_drawInto_23 fl_X5_23 sc0 rfl ?_
      refine PP.getfI dX5_drawInto_26 fl_X5_87 sc14 rfl ?_
      refine PP.irem (by first | omega | exact b2i_R _ | (unfold R32; omega)) (by first | omega | exact b2i_R _ | (unfold R32; omega)) (by first | omega | exact b2i_R _ | (unfold R32; omega)) (by first | omega | exact b2i_R _ | (unfold R32; omega)) dX5_drawInto_29 ?_
      refine PP.eqI (y := (j : Int)) (by rw [d3, ← hj0]; rfl) ?_
      refine PP.istore_n (L' := [_, _, _, _, _]) dX5_drawInto_30 (Nat.le_of_ble_eq_true rfl) rfl rfl ?_
      refine PP.iload_n dX5_drawInto_31 rfl ?_
      refine PP.bipush dX5_drawInto_32 (by decide) ?_
      refine PP.idiv (by first | omega | exact b2i_R _ | (unfold R32; omega)) (by first | omega | exact b2i_R _ | (unfold R32; omega)) (by first | omega | exact b2i_R _ | (unfold R32; omega)) (by first | omega | exact b2i_R _ | (unfold R32; omega)) dX5_drawInto_34 ?_
      refine PP.aload_n dX5_drawInto_35 rfl ?_
      refine PP.getfR dX5_drawInto_36 fl_X5_23 sc0 rfl ?_
      refine PP.getfI dX5_drawInto_39 fl_X5_191 sc14 rfl ?_
      refine PP.irem (by first | omega | exact b2i_R _ | (unfold R32; omega)) (by first | omega | exact b2i_R _ | (unfold R32; omega)) (by first | omega | exact b2i_R _ | (unfold R32; omega)) (by first | omega | exact b2i_R _ | (unfold R32; omega)) dX5_drawInto_42 ?_
      refine PP.eqI (y := (s : Int)) (by rw [d0', ← hs0]; rfl) ?_
      refine PP.istore (L' := [_, _, _, _, _]) dX5_drawInto_43 (Nat.le_of_ble_eq_true rfl) rfl rfl ?_
      refine PP.aload_n dX5_drawInto_45 rfl ?_
      refine PP.iload_n dX5_drawInto_46 rfl ?_
      refine PP.callVi (ok_isWashed (p := wa) (n := n) RK24 hm hn7 hj) dX5_drawInto_47 vl_X5_135 sc24 rfl rfl rfl rfl (Nat.le_of_ble_eq_true rfl) (by first | exact Nat.le_of_ble_eq_true rfl | omega) ?_
      refine PP.if_ne (tgt := 85) (by first | omega | exact b2i_R _ | (unfold R32; omega)) dX5_drawInto_50 (by decide) (fun h50 => ?_) (fun h50 => ?_)
      · refine PP.vret dX5_drawInto_85 rfl ?_
        first
        | (rw [if_neg (fun q => by rw [b2i_n.mp h50] at q; exact absurd q.1 (by decide))]; exact ⟨rfl, hC, fun c _ => rfl⟩)
        | (rw [if_neg (fun q => by have := hin.mp (b2i_n.mp h58); omega)]; exact ⟨rfl, hC, fun c _ => rfl⟩)
        | (rw [if_neg (fun q => by rw [b2i_0.mp h68] at q; exact absurd q.2.2 (by decide))]; exact ⟨rfl, hC, fun c _ => rfl⟩)
        | (have g := b2i_n.mp h68
           have gi : X.1 j < 0 := by
             by_cases q : 0 ≤ X.1 j
             · rw [hin.mpr q] at h58; cases h58
             · omega
           rw [if_pos ⟨b2i_0.mp h50, gi, g⟩]
           exact ⟨rfl, RC_std hC hj (by omega) (fitS_t.mp g).1 (by omega), fun c _ => stdU_ne (by omega) (by omega) (by omega)⟩)
      · refine PP.aload_n dX5_drawInto_53 rfl ?_
        refine PP.iload_n dX5_drawInto_54 rfl ?_
        refine PP.callVi (ok_in hC (t := j) (by omega)) dX5_drawInto_55 vl_X5_126 sc24 rfl rfl rfl rfl (Nat.le_of_ble_eq_true rfl) (by first | exact Nat.le_of_ble_eq_true rfl | omega) ?_
        refine PP.if_ne (tgt := 85) (by first | omega | exact b2i_R _ | (unfold R32; omega)) dX5_drawInto_58 (by decide) (fun h58 => ?_) (fun h58 => ?_)
        · refine PP.vret dX5_drawInto_85 rfl ?_
          first
          | (rw [if_neg (fun q => by rw [b2i_n.mp h50] at q; exact absurd q.1 (by decide))]; exact ⟨rfl, hC, fun c _ => rfl⟩)
          | (rw [if_neg (fun q => by have := hin.mp (b2i_n.mp h58); omega)]; exact ⟨rfl, hC, fun c _ => rfl⟩)
          | (rw [if_neg (fun q => by rw [b2i_0.mp h68] at q; exact absurd q.2.2 (by decide))]; exact ⟨rfl, hC, fun c _ => rfl⟩)
          | (have g := b2i_n.mp h68
             have gi : X.1 j < 0 := by
               by_cases q : 0 ≤ X.1 j
               · rw [hin.mpr q] at h58; cases h58
               · omega
             rw [if_pos ⟨b2i_0.mp h50, gi, g⟩]
             exact ⟨rfl, RC_std hC hj (by omega) (fitS_t.mp g).1 (by omega), fun c _ => stdU_ne (by omega) (by omega) (by omega)⟩)
        · refine PP.aload_n dX5_drawInto_61 rfl ?_
          refine PP.iload_n dX5_drawInto_62 rfl ?_
          refine PP.iload dX5_drawInto_63 rfl ?_
          refine PP.callVi (ok_fits hC hj (s := (s : Int)) (by omega)) dX5_drawInto_65 vl_X5_148 sc24 rfl rfl rfl rfl (Nat.le_of_ble_eq_true rfl) (by first | exact Nat.le_of_ble_eq_true rfl | omega) ?_
          refine PP.if_eq (tgt := 85) (by first | omega | exact b2i_R _ | (unfold R32; omega)) dX5_drawInto_68 (by decide) (fun h68 => ?_) (fun h68 => ?_)
          · refine PP.vret dX5_drawInto_85 rfl ?_
            first
            | (rw [if_neg (fun q => by rw [b2i_n.mp h50] at q; exact absurd q.1 (by decide))]; exact ⟨rfl, hC, fun c _ => rfl⟩)
            | (rw [if_neg (fun q => by have := hin.mp (b2i_n.mp h58); omega)]; exact ⟨rfl, hC, fun c _ => rfl⟩)
            | (rw [if_neg (fun q => by rw [b2i_0.mp h68] at q; exact absurd q.2.2 (by decide))]; exact ⟨rfl, hC, fun c _ => rfl⟩)
            | (have g := b2i_n.mp h68
               have gi : X.1 j < 0 := by
                 by_cases q : 0 ≤ X.1 j
                 · rw [hin.mpr q] at h58; cases h58
                 · omega
               rw [if_pos ⟨b2i_0.mp h50, gi, g⟩]
               exact ⟨rfl, RC_std hC hj (by omega) (fitS_t.mp g).1 (by omega), fun c _ => stdU_ne (by omega) (by omega) (by omega)⟩)
          · refine PP.aload_n dX5_drawInto_71 rfl ?_
            refine PP.iload_n dX5_drawInto_72 rfl ?_
            refine PP.iload dX5_drawInto_73 rfl ?_
            refine PP.iload_n dX5_drawInto_75 rfl ?_
            refine PP.sipush dX5_drawInto_76 (by decide) ?_
            refine PP.idiv (by first | omega | exact b2i_R _ | (unfold R32; omega)) (by first | omega | exact b2i_R _ | (unfold R32; omega)) (by first | omega | exact b2i_R _ | (unfold R32; omega)) (by first | omega | exact b2i_R _ | (unfold R32; omega)) dX5_drawInto_79 ?_
            refine PP.iconst dX5_drawInto_80 ?_
            refine PP.irem (by first | omega | exact b2i_R _ | (unfold R32; omega)) (by first | omega | exact b2i_R _ | (unfold R32; omega)) (by first | omega | exact b2i_R _ | (unfold R32; omega)) (by first | omega | exact b2i_R _ | (unfold R32; omega)) dX5_drawInto_81 ?_
            refine PP.eqI (y := ((D / 128 % 2 : Nat) : Int)) (by omega) ?_
            refine PP.callVn (ok_stand RK24 DK14 hw hC.2.2.2.2.1 hj (by omega) (by omega)) dX5_drawInto_82 vl_X5_155 sc24 rfl rfl rfl rfl (Nat.le_of_ble_eq_true rfl) (by first | exact Nat.le_of_ble_eq_true rfl | omega) ?_
            refine PP.vret dX5_drawInto_85 rfl ?_
            first
            | (rw [if_neg (fun q => by rw [b2i_n.mp h50] at q; exact absurd q.1 (by decide))]; exact ⟨rfl, hC, fun c _ => rfl⟩)
            | (rw [if_neg (fun q => by have := hin.mp (b2i_n.mp h58); omega)]; exact ⟨rfl, hC, fun c _ => rfl⟩)
            | (rw [if_neg (fun q => by rw [b2i_0.mp h68] at q; exact absurd q.2.2 (by decide))]; exact ⟨rfl, hC, fun c _ => rfl⟩)
            | (have g := b2i_n.mp h68
               have gi : X.1 j < 0 := by
                 by_cases q : 0 ≤ X.1 j
                 · rw [hin.mpr q] at h58; cases h58
                 · omega
               rw [if_pos ⟨b2i_0.mp h50, gi, g⟩]
               exact ⟨rfl, RC_std hC hj (by omega) (fitS_t.mp g).1 (by omega), fun c _ => stdU_ne (by omega) (by omega) (by omega)⟩)
    · omega
theorem c_day {σ : Sg} {A : ST} {z m what : Int} (hA : RepC σ A) (hW : WF A) (h1 : R32 z) (h2 : R32 m) (h3 : R32 what) : OK SHc mX5_day 20 [vR 0, vI z, vI m, vI what] σ (RP (fun v τ => v = qDay A z m what ∧ RepC τ A)) := by
  obtain ⟨len, txt, T, n, row, und, kep, sn⟩ := A
  obtain ⟨a1, a2, a3, a4, a5, a6, a7, a8, a9⟩ := RepC_e.mp hA
  obtain ⟨w1, w2, w3, w4, w5, w6, w7, w8, w9⟩ := WF_e.mp hW
  have hn7 := w3.2.1
  have hC := RC_of w3 w5 a3 a4
  obtain ⟨d0, d1, d2, d3, -⟩ := id a3
  have hws := wsh_m w5
  have hst := w5.2.1
  simp only [qDay, isZ]
  refine OK.enter (L' := [vR 0, vI z, vI m, vI what, vN]) (by decide +kernel) (by simp [ent0]) rfl ?_
  by_cases ht : (0 ≤ z ∧ z ≤ 9999) ∧ (1 ≤ m ∧ m ≤ 30) ∧ (what = 0 ∨ what = 1)
  · obtain ⟨i, rfl⟩ : ∃ i : Nat, z = (i : Int) := ⟨z.toNat, by omega⟩
    obtain ⟨N, rfl⟩ : ∃ N : Nat, m = (N : Int) := ⟨m.toNat, by omega⟩
    rw [if_neg (fun h => h ht), Int.toNat_natCast, Int.toNat_natCast]
    obtain ⟨k1, k2, k3, k4⟩ := cr_24 w3 w5 a3 a4
    have key : ∀ o, o ≤ N → ∀ σ1 : Sg, RC σ1 24 14 T n (dyS T n (wsh row) i o).1 (dyS T n (wsh row) i o).2 → σ1 24 4 = row 1 → σ1 24 5 = row 0 → (∀ c, c < 24 ∨ 27 < c → σ1 c = σ c) → PP SHc mX5_day 20 52 [vR 0, vI (i : Int), vI (N : Int), vI what, vI (o : Int)] [] σ1 (RP (fun v τ => v = (if what = 0 then ((msk (inS (dyS T n (wsh row) i N).1) n : Nat) : Int) else ((msk (clS T n (dyS T n (wsh row) i N).1 (dyS T n (wsh row) i N).2 (row 0)) n : Nat) : Int)) ∧ RepC τ (len, txt, T, n, row, und, kep, sn))) := by
      refine loop_dn N ?_ ?_
      · intro σ1 b1 b2 b3 b4
        refine PP.iload dX5_day_52 rfl ?_
        refine PP.iload_n dX5_day_54 rfl ?_
        refine PP.icmp_ge (tgt := 78) (by first | omega | assumption | (unfold R32; omega)) (by first | omega | assumption | (unfold R32; omega)) dX5_day_55 (by decide) (fun h55 => ?_) (fun h55 => ?_)
        · refine PP.iload_n dX5_day_78 rfl ?_
          refine PP.if_ne (tgt := 92) (by first | omega | assumption | (unfold R32; omega)) dX5_day_79 (by decide) (fun h79 => ?_) (fun h79 => ?_)
          · refine PP.aload_n dX5_day_92 rfl ?_
            refine PP.getfR dX5_day_93 fl_X5_36 sc0 rfl ?_
            refine PP.aload_n dX5_day_96 rfl ?_
            refine PP.getfR dX5_day_97 fl_X5_36 sc0 rfl ?_
            refine PP.getfI dX5_day_100 fl_X5_173 sc24 rfl ?_
            refine PP.eqI b3 ?_
            refine PP.callVi (ok_cleanBits b1 (w := row 0) (by omega)) dX5_day_103 vl_X5_188 sc24 rfl rfl rfl rfl (Nat.le_of_ble_eq_true rfl) (by first | exact Nat.le_of_ble_eq_true rfl | omega) ?_
            refine PP.iret dX5_day_106 rfl ?_
            first
            | (rw [if_pos (by omega)]; exact ⟨_, rfl, rfl, RepC_cong hA (fun c hc => b4 c (by omega))⟩)
            | (rw [if_neg (by omega)]; exact ⟨_, rfl, rfl, RepC_cong hA (fun c hc => b4 c (by omega))⟩)
          · refine PP.aload_n dX5_day_82 rfl ?_
            refine PP.getfR dX5_day_83 fl_X5_36 sc0 rfl ?_
            refine PP.callVi (ok_inBits b1) dX5_day_86 vl_X5_197 sc24 rfl rfl rfl rfl (Nat.le_of_ble_eq_true rfl) (by first | exact Nat.le_of_ble_eq_true rfl | omega) ?_
            refine PP.goto (tgt := 106) dX5_day_89 (by decide) ?_
            refine PP.iret dX5_day_106 rfl ?_
            first
            | (rw [if_pos (by omega)]; exact ⟨_, rfl, rfl, RepC_cong hA (fun c hc => b4 c (by omega))⟩)
            | (rw [if_neg (by omega)]; exact ⟨_, rfl, rfl, RepC_cong hA (fun c hc => b4 c (by omega))⟩)
        · omega
      · intro o ho ih σ1 b1 b2 b3 b4
        have hdw : dwS i o < 65521 := by
          have := Nat.mod_lt ((7919 * i + 6151 * o + 1) * (7919 * i + 6151 * o + 1)) (show 0 < 65521 by decide)
          unfold dwS
          omega
        have eD : dyS T n (wsh row) i (o + 1) = drw T n (wsh row) (dyS T n (wsh row) i o) (dwS i o) := rfl
        rw [eD] at ih
        refine PP.iload dX5_day_52 rfl ?_
        refine PP.iload_n dX5_day_54 rfl ?_
        refine PP.icmp_ge (tgt := 78) (by first | omega | assumption | (unfold R32; omega)) (by first | omega | assumption | (unfold R32; omega)) dX5_day_55 (by decide) (fun h55 => ?_) (fun h55 => ?_)
        · omega
        · refine PP.aload_n dX5_day_58 rfl ?_
          refine PP.aload_n dX5_day_59 rfl ?_
          refine PP.getfR dX5_day_60 fl_X5_36 sc0 rfl ?_
          refine PP.iload_n dX5_day_63 rfl ?_
          refine PP.iload dX5_day_64 rfl ?_
          refine PP.callSi (ok_drawOf (by omega) (by omega)) dX5_day_66 sl_X5_241 rfl rfl (Nat.le_of_ble_eq_true rfl) (by first | exact Nat.le_of_ble_eq_true rfl | omega) ?_
          refine PP.callVnP (ok_drawInto w4 b1 (b2.trans hws) hdw) dX5_day_69 vl_X5_244 sc0 rfl rfl rfl rfl (Nat.le_of_ble_eq_true rfl) (by first | exact Nat.le_of_ble_eq_true rfl | omega) (fun τ69 hq69 => ?_)
          obtain ⟨p1, p2⟩ := hq69
          refine PP.iinc (L' := [_, _, _, _, _]) dX5_day_72 rfl rfl rfl ?_
          refine PP.goto (tgt := 52) dX5_day_75 (by decide) ?_
          exact ih _ p1 (by rw [p2 24 (by omega)]; exact b2) (by rw [p2 24 (by omega)]; exact b3) (fun c hc => by rw [p2 c (by omega)]; exact b4 c hc)
    refine PP.iload_n dX5_day_0 rfl ?_
    refine PP.if_lt (tgt := 29) (by first | omega | assumption | exact b2i_R _ | (unfold R32; omega)) dX5_day_1 (by decide) (fun h1 => ?_) (fun h1 => ?_)
    · omega
    · refine PP.iload_n dX5_day_4 rfl ?_
      refine PP.sipush dX5_day_5 (by decide) ?_
      refine PP.icmp_gt (tgt := 29) (by first | omega | assumption | exact b2i_R _ | (unfold R32; omega)) (by first | omega | assumption | exact b2i_R _ | (unfold R32; omega)) dX5_day_8 (by decide) (fun h8 => ?_) (fun h8 => ?_)
      · omega
      · refine PP.iload_n dX5_day_11 rfl ?_
        refine PP.iconst dX5_day_12 ?_
        refine PP.icmp_lt (tgt := 29) (by first | omega | assumption | exact b2i_R _ | (unfold R32; omega)) (by first | omega | assumption | exact b2i_R _ | (unfold R32; omega)) dX5_day_13 (by decide) (fun h13 => ?_) (fun h13 => ?_)
        · omega
        · refine PP.iload_n dX5_day_16 rfl ?_
          refine PP.bipush dX5_day_17 (by decide) ?_
          refine PP.icmp_gt (tgt := 29) (by first | omega | assumption | exact b2i_R _ | (unfold R32; omega)) (by first | omega | assumption | exact b2i_R _ | (unfold R32; omega)) dX5_day_19 (by decide) (fun h19 => ?_) (fun h19 => ?_)
          · omega
          · refine PP.iload_n dX5_day_22 rfl ?_
            refine PP.callSi (ok_isBit h3) dX5_day_23 sl_X5_145 rfl rfl (Nat.le_of_ble_eq_true rfl) (by first | exact Nat.le_of_ble_eq_true rfl | omega) ?_
            refine PP.if_ne (tgt := 31) (by first | omega | assumption | exact b2i_R _ | (unfold R32; omega)) dX5_day_26 (by decide) (fun h26 => ?_) (fun h26 => ?_)
            · refine PP.aload_n dX5_day_31 rfl ?_
              refine PP.getfR dX5_day_32 fl_X5_36 sc0 rfl ?_
              refine PP.aload_n dX5_day_35 rfl ?_
              refine PP.getfR dX5_day_36 fl_X5_32 sc0 rfl ?_
              refine PP.callVn (ok_copyFrom RK24 RK20 (by omega)) dX5_day_39 vl_X5_94 sc24 rfl rfl rfl rfl (Nat.le_of_ble_eq_true rfl) (by first | exact Nat.le_of_ble_eq_true rfl | omega) ?_
              refine PP.aload_n dX5_day_42 rfl ?_
              refine PP.getfR dX5_day_43 fl_X5_36 sc0 rfl ?_
              refine PP.callVn (ok_leaveAll RK24) dX5_day_46 vl_X5_238 sc24 rfl rfl rfl rfl (Nat.le_of_ble_eq_true rfl) (by first | exact Nat.le_of_ble_eq_true rfl | omega) ?_
              refine PP.iconst dX5_day_49 ?_
              refine PP.istore (L' := [_, _, _, _, _]) dX5_day_50 (Nat.le_of_ble_eq_true rfl) rfl rfl ?_
              exact key 0 (by omega) _ (RC_lvU RK24 DK14 w3 k1.2.2.2.2.1) (by rw [lvU_ne (by omega) (by omega) (by omega)]; exact k2) (by rw [lvU_ne (by omega) (by omega) (by omega)]; exact k3) (fun c hc => by rw [lvU_ne (by omega) (by omega) (by omega)]; exact k4 c hc)
            · rw [decide_eq_true ht.2.2] at h26; cases h26
  · rw [if_pos ht]
    refine PP.iload_n dX5_day_0 rfl ?_
    refine PP.if_lt (tgt := 29) (by first | omega | assumption | exact b2i_R _ | (unfold R32; omega)) dX5_day_1 (by decide) (fun h1 => ?_) (fun h1 => ?_)
    · refine PP.iconst dX5_day_29 ?_
      refine PP.iret dX5_day_30 rfl ?_
      exact ⟨_, rfl, rfl, hA⟩
    · refine PP.iload_n dX5_day_4 rfl ?_
      refine PP.sipush dX5_day_5 (by decide) ?_
      refine PP.icmp_gt (tgt := 29) (by first | omega | assumption | exact b2i_R _ | (unfold R32; omega)) (by first | omega | assumption | exact b2i_R _ | (unfold R32; omega)) dX5_day_8 (by decide) (fun h8 => ?_) (fun h8 => ?_)
      · refine PP.iconst dX5_day_29 ?_
        refine PP.iret dX5_day_30 rfl ?_
        exact ⟨_, rfl, rfl, hA⟩
      · refine PP.iload_n dX5_day_11 rfl ?_
        refine PP.iconst dX5_day_12 ?_
        refine PP.icmp_lt (tgt := 29) (by first | omega | assumption | exact b2i_R _ | (unfold R32; omega)) (by first | omega | assumption | exact b2i_R _ | (unfold R32; omega)) dX5_day_13 (by decide) (fun h13 => ?_) (fun h13 => ?_)
        · refine PP.iconst dX5_day_29 ?_
          refine PP.iret dX5_day_30 rfl ?_
          exact ⟨_, rfl, rfl, hA⟩
        · refine PP.iload_n dX5_day_16 rfl ?_
          refine PP.bipush dX5_day_17 (by decide) ?_
          refine PP.icmp_gt (tgt := 29) (by first | omega | assumption | exact b2i_R _ | (unfold R32; omega)) (by first | omega | assumption | exact b2i_R _ | (unfold R32; omega)) dX5_day_19 (by decide) (fun h19 => ?_) (fun h19 => ?_)
          · refine PP.iconst dX5_day_29 ?_
            refine PP.iret dX5_day_30 rfl ?_
            exact ⟨_, rfl, rfl, hA⟩
          · refine PP.iload_n dX5_day_22 rfl ?_
            refine PP.callSi (ok_isBit h3) dX5_day_23 sl_X5_145 rfl rfl (Nat.le_of_ble_eq_true rfl) (by first | exact Nat.le_of_ble_eq_true rfl | omega) ?_
            refine PP.if_ne (tgt := 31) (by first | omega | assumption | exact b2i_R _ | (unfold R32; omega)) dX5_day_26 (by decide) (fun h26 => ?_) (fun h26 => ?_)
            · exact absurd ⟨⟨by omega, by omega⟩, ⟨by omega, by omega⟩, of_decide_eq_true (b2i_n.mp h26)⟩ ht
            · refine PP.iconst dX5_day_29 ?_
              refine PP.iret dX5_day_30 rfl ?_
              exact ⟨_, rfl, rfl, hA⟩
