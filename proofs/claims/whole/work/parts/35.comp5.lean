/-! the component's calls: the least water, what was seen, orders, hours -/
theorem wk_no {T : Nat → Int} {n : Nat} {P F : Nat → Int} (h : msk (inS P) n = 0) : ∀ k p, wkS T n P F k p = -4
  | 0, _ => rfl
  | k + 1, p => by rw [wkS, if_neg (fun q => q.1 h), wk_no h k]
theorem c_weakest {σ : Sg} {A : ST} (hA : RepC σ A) (hW : WF A) : OK SHc mX5_weakest 20 [vR 0] σ (RP (fun v τ => v = qWeakest A ∧ RepC τ A)) := by
  obtain ⟨len, txt, T, n, row, und, kep, sn⟩ := A
  obtain ⟨a1, a2, a3, a4, a5, a6, a7, a8, a9⟩ := RepC_e.mp hA
  obtain ⟨w1, w2, w3, w4, w5, w6, w7, w8, w9⟩ := WF_e.mp hW
  have hn7 := w3.2.1
  have hC := RC_of w3 w5 a3 a4
  obtain ⟨d0, d1, d2, d3, -⟩ := id a3
  have hws := wsh_m w5
  have hst := w5.2.1
  simp only [qWeakest]
  have h7 := msk_128 (inS (rP row)) hn7
  refine OK.enter (L' := [vR 0, vN, vN]) (by decide +kernel) (by simp [ent0]) rfl ?_
  have key : ¬ msk (inS (rP row)) n = 0 → ∀ (k : Nat) (p : Int), p + k = 10 → 1 ≤ p → PP SHc mX5_weakest 20 17 [vR 0, vI (msk (inS (rP row)) n : Nat), vI p] [] σ (RP (fun v τ => v = wkS T n (rP row) (rF row) k p ∧ RepC τ (len, txt, T, n, row, und, kep, sn))) := by
    intro h0 k
    induction k with
    | zero =>
      intro p hp h1
      refine PP.iload_n dX5_weakest_17 rfl ?_
      refine PP.bipush dX5_weakest_18 (by decide) ?_
      refine PP.icmp_gt (tgt := 43) (by first | omega | (unfold R32; omega)) (by first | omega | (unfold R32; omega)) dX5_weakest_20 (by decide) (fun h20 => ?_) (fun h20 => ?_)
      · refine PP.bipush dX5_weakest_43 (by decide) ?_
        refine PP.iret dX5_weakest_45 rfl ?_
        exact ⟨_, rfl, rfl, hA⟩
      · omega
    | succ k ih =>
      intro p hp h1
      have h7' := msk_128 (clS T n (rP row) (rF row) p) hn7
      rw [wkS]
      refine PP.iload_n dX5_weakest_17 rfl ?_
      refine PP.bipush dX5_weakest_18 (by decide) ?_
      refine PP.icmp_gt (tgt := 43) (by first | omega | (unfold R32; omega)) (by first | omega | (unfold R32; omega)) dX5_weakest_20 (by decide) (fun h20 => ?_) (fun h20 => ?_)
      · omega
      · refine PP.aload_n dX5_weakest_23 rfl ?_
        refine PP.getfR dX5_weakest_24 fl_X5_32 sc0 rfl ?_
        refine PP.iload_n dX5_weakest_27 rfl ?_
        refine PP.callVi (ok_cleanBits hC (w := p) (by omega)) dX5_weakest_28 vl_X5_188 sc20 rfl rfl rfl rfl (Nat.le_of_ble_eq_true rfl) (by first | exact Nat.le_of_ble_eq_true rfl | omega) ?_
        refine PP.iload_n dX5_weakest_31 rfl ?_
        refine PP.icmp_ne (tgt := 37) (by first | omega | (unfold R32; omega)) (by first | omega | (unfold R32; omega)) dX5_weakest_32 (by decide) (fun h32 => ?_) (fun h32 => ?_)
        · refine PP.iinc (L' := [_, _, _]) dX5_weakest_37 rfl rfl rfl ?_
          refine PP.goto (tgt := 17) dX5_weakest_40 (by decide) ?_
          rw [if_neg (fun q => absurd q.2 (by omega))]
          exact ih (p + 1) (by omega) (by omega)
        · refine PP.iload_n dX5_weakest_35 rfl ?_
          refine PP.iret dX5_weakest_36 rfl ?_
          rw [if_pos ⟨h0, by omega⟩]
          exact ⟨_, rfl, rfl, hA⟩
  refine PP.aload_n dX5_weakest_0 rfl ?_
  refine PP.getfR dX5_weakest_1 fl_X5_32 sc0 rfl ?_
  refine PP.callVi (ok_inBits hC) dX5_weakest_4 vl_X5_197 sc20 rfl rfl rfl rfl (Nat.le_of_ble_eq_true rfl) (by first | exact Nat.le_of_ble_eq_true rfl | omega) ?_
  refine PP.istore_n (L' := [_, _, _]) dX5_weakest_7 (Nat.le_of_ble_eq_true rfl) rfl rfl ?_
  refine PP.iload_n dX5_weakest_8 rfl ?_
  refine PP.if_ne (tgt := 15) (by first | omega | (unfold R32; omega)) dX5_weakest_9 (by decide) (fun h9 => ?_) (fun h9 => ?_)
  · refine PP.iconst dX5_weakest_15 ?_
    refine PP.istore_n (L' := [_, _, _]) dX5_weakest_16 (Nat.le_of_ble_eq_true rfl) rfl rfl ?_
    exact key (by omega) 9 1 (by omega) (by omega)
  · refine PP.bipush dX5_weakest_12 (by decide) ?_
    refine PP.iret dX5_weakest_14 rfl ?_
    rw [wk_no (by omega)]
    exact ⟨_, rfl, rfl, hA⟩
theorem sg_iff {T : Nat → Int} {n : Nat} {P F sn : Nat → Int} {p : Nat} (hp : 1 ≤ p) : sgS T n P F sn p = true ↔ msk (fun u => clS T n P F (p : Int) u && (snP sn u && inS P u)) n = msk (fun u => snC sn u && (snP sn u && inS P u)) n := by
  unfold sgS
  rw [decide_eq_true hp, Bool.true_and, Bool.not_eq_true', anyB_f]
  constructor
  · intro h
    refine msk_cong (fun u hu => ?_)
    have := h u hu
    revert this
    cases clS T n P F (p : Int) u <;> cases snC sn u <;> cases snP sn u <;> cases inS P u <;> simp
  · intro h u hu
    have := msk_inj h u hu
    revert this
    cases clS T n P F (p : Int) u <;> cases snC sn u <;> cases snP sn u <;> cases inS P u <;> simp
theorem c_strong {σ : Sg} {A : ST} (hA : RepC σ A) (hW : WF A) : OK SHc mX5_strong 20 [vR 0] σ (RP (fun v τ => v = qStrong A ∧ RepC τ A)) := by
  obtain ⟨len, txt, T, n, row, und, kep, sn⟩ := A
  obtain ⟨a1, a2, a3, a4, a5, a6, a7, a8, a9⟩ := RepC_e.mp hA
  obtain ⟨w1, w2, w3, w4, w5, w6, w7, w8, w9⟩ := WF_e.mp hW
  have hn7 := w3.2.1
  have hC := RC_of w3 w5 a3 a4
  obtain ⟨d0, d1, d2, d3, -⟩ := id a3
  have hws := wsh_m w5
  have hst := w5.2.1
  simp only [qStrong]
  refine OK.enter (L' := [vR 0, vN, vN, vN]) (by decide +kernel) (by simp [ent0]) rfl ?_
  have key : ∀ o, o ≤ 10 → 1 ≤ o → PP SHc mX5_strong 20 17 [vR 0, vI (msk (fun u => snP sn u && inS (rP row) u) n : Nat), vI (msk (sgS T n (rP row) (rF row) sn) o : Nat), vI (o : Int)] [] σ (RP (fun v τ => v = ((msk (sgS T n (rP row) (rF row) sn) 10 : Nat) : Int) ∧ RepC τ (len, txt, T, n, row, und, kep, sn))) := by
    refine loop_dn 10 ?_ ?_
    · intro _
      refine PP.iload_n dX5_strong_17 rfl ?_
      refine PP.bipush dX5_strong_18 (by decide) ?_
      refine PP.icmp_gt (tgt := 54) (by first | omega | (unfold R32; omega)) (by first | omega | (unfold R32; omega)) dX5_strong_20 (by decide) (fun h20 => ?_) (fun h20 => ?_)
      · refine PP.iload_n dX5_strong_54 rfl ?_
        refine PP.iret dX5_strong_55 rfl ?_
        exact ⟨_, rfl, rfl, hA⟩
      · omega
    · intro o ho ih h1
      have ih := ih (by omega)
      have e1 := msk_128 (fun u => clS T n (rP row) (rF row) (o : Int) u && (snP sn u && inS (rP row) u)) hn7
      have e2 := msk_128 (fun u => snC sn u && (snP sn u && inS (rP row) u)) hn7
      have hi := sg_iff (T := T) (n := n) (P := rP row) (F := rF row) (sn := sn) h1
      refine PP.iload_n dX5_strong_17 rfl ?_
      refine PP.bipush dX5_strong_18 (by decide) ?_
      refine PP.icmp_gt (tgt := 54) (by first | omega | (unfold R32; omega)) (by first | omega | (unfold R32; omega)) dX5_strong_20 (by decide) (fun h20 => ?_) (fun h20 => ?_)
      · omega
      · refine PP.aload_n dX5_strong_23 rfl ?_
        refine PP.getfR dX5_strong_24 fl_X5_32 sc0 rfl ?_
        refine PP.iload_n dX5_strong_27 rfl ?_
        refine PP.callVi (ok_cleanBits hC (w := (o : Int)) (by omega)) dX5_strong_28 vl_X5_188 sc20 rfl rfl rfl rfl (Nat.le_of_ble_eq_true rfl) (by first | exact Nat.le_of_ble_eq_true rfl | omega) ?_
        refine PP.iload_n dX5_strong_31 rfl ?_
        refine PP.iandR (z := ((msk (fun u => clS T n (rP row) (rF row) (o : Int) u && (snP sn u && inS (rP row) u)) n) : Nat)) ((iand_n _ _).trans (by rw [msk_and])) dX5_strong_32 ?_
        refine PP.aload_n dX5_strong_33 rfl ?_
        refine PP.getfI dX5_strong_34 fl_X5_103 sc0 rfl ?_
        refine PP.eqI a8 ?_
        refine PP.iload_n dX5_strong_37 rfl ?_
        refine PP.iandR (z := ((msk (fun u => snC sn u && (snP sn u && inS (rP row) u)) n) : Nat)) ((iand_n _ _).trans (by rw [msk_and])) dX5_strong_38 ?_
        refine PP.icmp_ne (tgt := 48) (by first | omega | (unfold R32; omega)) (by first | omega | (unfold R32; omega)) dX5_strong_39 (by decide) (fun h39 => ?_) (fun h39 => ?_)
        · refine PP.iinc (L' := [_, _, _, _]) dX5_strong_48 rfl rfl rfl ?_
          refine PP.goto (tgt := 17) dX5_strong_51 (by decide) ?_
          first
          | (rw [msk_s1 (hi.mpr (by omega))] at ih; exact ih)
          | (rw [msk_s0 (bf hi (by omega))] at ih; exact ih)
        · refine PP.iload_n dX5_strong_42 rfl ?_
          refine PP.iconst dX5_strong_43 ?_
          refine PP.iload_n dX5_strong_44 rfl ?_
          refine PP.ishlR (z := ((2 ^ o) : Nat)) (shl1_o (by omega)) dX5_strong_45 ?_
          refine PP.iorR (z := ((msk (sgS T n (rP row) (rF row) sn) o + 2 ^ o) : Nat)) (ior_msk _ _) dX5_strong_46 ?_
          refine PP.istore_n (L' := [_, _, _, _]) dX5_strong_47 (Nat.le_of_ble_eq_true rfl) rfl rfl ?_
          refine PP.iinc (L' := [_, _, _, _]) dX5_strong_48 rfl rfl rfl ?_
          refine PP.goto (tgt := 17) dX5_strong_51 (by decide) ?_
          first
          | (rw [msk_s1 (hi.mpr (by omega))] at ih; exact ih)
          | (rw [msk_s0 (bf hi (by omega))] at ih; exact ih)
  refine PP.aload_n dX5_strong_0 rfl ?_
  refine PP.getfI dX5_strong_1 fl_X5_100 sc0 rfl ?_
  refine PP.eqI a7 ?_
  refine PP.aload_n dX5_strong_4 rfl ?_
  refine PP.getfR dX5_strong_5 fl_X5_32 sc0 rfl ?_
  refine PP.callVi (ok_inBits hC) dX5_strong_8 vl_X5_197 sc20 rfl rfl rfl rfl (Nat.le_of_ble_eq_true rfl) (by first | exact Nat.le_of_ble_eq_true rfl | omega) ?_
  refine PP.iandR (z := ((msk (fun u => snP sn u && inS (rP row) u) n) : Nat)) ((iand_n _ _).trans (by rw [msk_and])) dX5_strong_11 ?_
  refine PP.istore_n (L' := [_, _, _, _]) dX5_strong_12 (Nat.le_of_ble_eq_true rfl) rfl rfl ?_
  refine PP.iconst dX5_strong_13 ?_
  refine PP.istore_n (L' := [_, _, _, _]) dX5_strong_14 (Nat.le_of_ble_eq_true rfl) rfl rfl ?_
  refine PP.iconst dX5_strong_15 ?_
  refine PP.istore_n (L' := [_, _, _, _]) dX5_strong_16 (Nat.le_of_ble_eq_true rfl) rfl rfl ?_
  exact key 1 (by omega) (by omega)
theorem c_seen {σ : Sg} {A : ST} {t c : Int} (hA : RepC σ A) (hW : WF A) (hx : R32 t) (hx2 : R32 c) : OK SHc mX5_seen 20 [vR 0, vI t, vI c] σ (RP (fun v τ => v = (spSeen A t c).1 ∧ RepC τ (spSeen A t c).2)) := by
  obtain ⟨len, txt, T, n, row, und, kep, sn⟩ := A
  obtain ⟨a1, a2, a3, a4, a5, a6, a7, a8, a9⟩ := RepC_e.mp hA
  obtain ⟨w1, w2, w3, w4, w5, w6, w7, w8, w9⟩ := WF_e.mp hW
  have hn7 := w3.2.1
  have hC := RC_of w3 w5 a3 a4
  obtain ⟨d0, d1, d2, d3, -⟩ := id a3
  have hws := wsh_m w5
  have hst := w5.2.1
  simp only [spSeen, isT, isZ]
  refine OK.enter (L' := [vR 0, vI t, vI c]) (by decide +kernel) (by simp [ent0]) rfl ?_
  by_cases ht : (0 ≤ t ∧ t < (n : Int)) ∧ (c = 0 ∨ c = 1)
  · obtain ⟨j, rfl⟩ : ∃ j : Nat, t = (j : Int) := ⟨t.toNat, by omega⟩
    obtain ⟨e, rfl, he⟩ : ∃ e : Nat, c = (e : Int) ∧ (e = 0 ∨ e = 1) := ⟨c.toNat, by omega, by omega⟩
    have hj : j < n := by omega
    have hin : inS (rP row) j = true ↔ 0 ≤ row (2 + j) := inS_t
    have hin0 : inS (rP row) j = false ↔ row (2 + j) < 0 := by rw [← Bool.not_eq_true, hin]; omega
    have hsj := w8 j
    rw [if_neg (fun h => h ht), Int.toNat_natCast]
    have hsn : snP sn j = true ↔ 0 ≤ sn j := by simp [snP]
    have hp2 : 2 ^ j ≤ 64 := by rw [show (64 : Nat) = 2 ^ 6 from rfl]; exact Nat.pow_le_pow_right (by decide) (by omega)
    have h7 := msk_128 (snP (uf sn j (e : Int))) hn7
    have h7' := msk_128 (snC (uf sn j (e : Int))) hn7
    refine PP.aload_n dX5_seen_0 rfl ?_
    refine PP.getfR dX5_seen_1 fl_X5_23 sc0 rfl ?_
    refine PP.iload_n dX5_seen_4 rfl ?_
    refine PP.callVi (ok_has DK14 w3 a3 hx) dX5_seen_5 vl_X5_110 sc14 rfl rfl rfl rfl (Nat.le_of_ble_eq_true rfl) (by first | exact Nat.le_of_ble_eq_true rfl | omega) ?_
    refine PP.if_eq (tgt := 18) (by first | omega | assumption | exact b2i_R _ | (unfold R32; omega)) dX5_seen_8 (by decide) (fun h8 => ?_) (fun h8 => ?_)
    · rw [decide_eq_true ht.1] at h8; cases h8
    · refine PP.iload_n dX5_seen_11 rfl ?_
      refine PP.callSi (ok_isBit hx2) dX5_seen_12 sl_X5_145 rfl rfl (Nat.le_of_ble_eq_true rfl) (by first | exact Nat.le_of_ble_eq_true rfl | omega) ?_
      refine PP.if_ne (tgt := 20) (by first | omega | assumption | exact b2i_R _ | (unfold R32; omega)) dX5_seen_15 (by decide) (fun h15 => ?_) (fun h15 => ?_)
      · refine PP.aload_n dX5_seen_20 rfl ?_
        refine PP.getfR dX5_seen_21 fl_X5_32 sc0 rfl ?_
        refine PP.iload_n dX5_seen_24 rfl ?_
        refine PP.callVi (ok_in hC (t := j) (by omega)) dX5_seen_25 vl_X5_126 sc20 rfl rfl rfl rfl (Nat.le_of_ble_eq_true rfl) (by first | exact Nat.le_of_ble_eq_true rfl | omega) ?_
        refine PP.if_eq (tgt := 43) (by first | omega | assumption | exact b2i_R _ | (unfold R32; omega)) dX5_seen_28 (by decide) (fun h28 => ?_) (fun h28 => ?_)
        · refine PP.bipush dX5_seen_43 (by decide) ?_
          refine PP.iret dX5_seen_45 rfl ?_
          rw [if_pos (by first | exact Or.inl (hin0.mp (b2i_0.mp h28)) | exact Or.inr (hsn.mp (b2i_1.mp (by omega))))]
          exact ⟨_, rfl, rfl, hA⟩
        · refine PP.aload_n dX5_seen_31 rfl ?_
          refine PP.getfI dX5_seen_32 fl_X5_100 sc0 rfl ?_
          refine PP.eqI a7 ?_
          refine PP.iload_n dX5_seen_35 rfl ?_
          refine PP.ishrR (z := ((msk (snP sn) n / 2 ^ j) : Nat)) (shr_msk hn7 (by omega)) dX5_seen_36 ?_
          refine PP.iconst dX5_seen_37 ?_
          refine PP.iandR (z := (b2i (snP sn j))) (and_bit hj) dX5_seen_38 ?_
          refine PP.iconst dX5_seen_39 ?_
          refine PP.icmp_ne (tgt := 46) (by first | omega | assumption | exact b2i_R _ | (unfold R32; omega)) (by first | omega | assumption | exact b2i_R _ | (unfold R32; omega)) dX5_seen_40 (by decide) (fun h40 => ?_) (fun h40 => ?_)
          · have hp := hin.mp (b2i_n.mp h28)
            have hq : ¬ 0 ≤ sn j := fun q => h40 (b2i_1.mpr (hsn.mpr q))
            rw [if_neg (by omega)]
            have m1 : msk (snP sn) n ||| 2 ^ j = msk (snP (uf sn j (e : Int))) n := by
              rw [msk_upd hj]
              refine msk_cong (fun u hu => ?_)
              by_cases eu : u = j
              · subst eu; simp [snP, uf]
              · simp [snP, uf, eu]
            have m2 : msk (snC sn) n ||| e * 2 ^ j = msk (snC (uf sn j (e : Int))) n := by
              rcases he with rfl | rfl
              · rw [Nat.zero_mul, Nat.or_zero]
                refine msk_cong (fun u hu => ?_)
                by_cases eu : u = j
                · subst eu; simp [snC, uf]; omega
                · simp [snC, uf, eu]
              · rw [Nat.one_mul, msk_upd hj]
                refine msk_cong (fun u hu => ?_)
                by_cases eu : u = j
                · subst eu; simp [snC, uf]
                · simp [snC, uf, eu]
            refine PP.aload_n dX5_seen_46 rfl ?_
            refine PP.dup rfl dX5_seen_47 ?_
            refine PP.getfI dX5_seen_48 fl_X5_100 sc0 rfl ?_
            refine PP.eqI a7 ?_
            refine PP.iconst dX5_seen_51 ?_
            refine PP.iload_n dX5_seen_52 rfl ?_
            refine PP.ishlR (z := ((2 ^ j) : Nat)) (shl1_o (by omega)) dX5_seen_53 ?_
            refine PP.iorR (z := ((msk (snP (uf sn j (e : Int))) n) : Nat)) ((ior_n _ _).trans (by rw [m1])) dX5_seen_54 ?_
            refine PP.putI dX5_seen_55 fp_X5_100 sc0 rfl (by first | omega | assumption | exact b2i_R _ | (unfold R32; omega)) ?_
            refine PP.aload_n dX5_seen_58 rfl ?_
            refine PP.dup rfl dX5_seen_59 ?_
            refine PP.getfI dX5_seen_60 fl_X5_103 sc0 rfl ?_
            refine PP.eqI (y := ((msk (snC sn) n : Nat) : Int)) (by rw [up_j (by decide)]; exact a8) ?_
            refine PP.iload_n dX5_seen_63 rfl ?_
            refine PP.iload_n dX5_seen_64 rfl ?_
            refine PP.ishlR (z := ((e * 2 ^ j) : Nat)) (ishl_n (by omega) (by rcases he with rfl | rfl <;> omega)) dX5_seen_65 ?_
            refine PP.iorR (z := ((msk (snC (uf sn j (e : Int))) n) : Nat)) ((ior_n _ _).trans (by rw [m2])) dX5_seen_66 ?_
            refine PP.putI dX5_seen_67 fp_X5_103 sc0 rfl (by first | omega | assumption | exact b2i_R _ | (unfold R32; omega)) ?_
            refine PP.aload_n dX5_seen_70 rfl ?_
            refine PP.getfI dX5_seen_71 fl_X5_100 sc0 rfl ?_
            refine PP.eqI (y := ((msk (snP (uf sn j (e : Int))) n : Nat) : Int)) (by rw [up_j (by decide), up_at]) ?_
            refine PP.callSi (ok_bitCount h7) dX5_seen_74 sl_X5_168 rfl rfl (Nat.le_of_ble_eq_true rfl) (by first | exact Nat.le_of_ble_eq_true rfl | omega) ?_
            refine PP.iret dX5_seen_77 rfl ?_
            refine ⟨_, rfl, by rw [pc7_msk hn7], RepC_e.mpr ⟨?_, fun j hj => ?_, ?_, ?_, ?_, ?_, ?_, ?_, ?_⟩⟩
            · rw [up_j (by decide), up_j (by decide)]; exact a1
            · rw [up_ne (by decide), up_ne (by decide)]; exact a2 j hj
            · exact DR_cong a3 (fun c _ _ => by rw [up_ne (by omega), up_ne (by omega)])
            · exact RW_cong a4 (fun c _ _ => by rw [up_ne (by omega), up_ne (by omega)])
            · exact SHR_cong a5 (by rw [up_ne (by omega), up_ne (by omega)]) (by rw [up_ne (by omega), up_ne (by omega)])
            · exact SHR_cong a6 (by rw [up_ne (by omega), up_ne (by omega)]) (by rw [up_ne (by omega), up_ne (by omega)])
            · rw [up_j (by decide), up_at]
            · rw [up_at]
            · exact CH_cong a9 (by rw [up_ne (by omega), up_ne (by omega)]) (by rw [up_ne (by omega), up_ne (by omega)])
          · refine PP.bipush dX5_seen_43 (by decide) ?_
            refine PP.iret dX5_seen_45 rfl ?_
            rw [if_pos (by first | exact Or.inl (hin0.mp (b2i_0.mp h28)) | exact Or.inr (hsn.mp (b2i_1.mp (by omega))))]
            exact ⟨_, rfl, rfl, hA⟩
      · rw [decide_eq_true ht.2] at h15; cases h15
  · rw [if_pos ht]
    refine PP.aload_n dX5_seen_0 rfl ?_
    refine PP.getfR dX5_seen_1 fl_X5_23 sc0 rfl ?_
    refine PP.iload_n dX5_seen_4 rfl ?_
    refine PP.callVi (ok_has DK14 w3 a3 hx) dX5_seen_5 vl_X5_110 sc14 rfl rfl rfl rfl (Nat.le_of_ble_eq_true rfl) (by first | exact Nat.le_of_ble_eq_true rfl | omega) ?_
    refine PP.if_eq (tgt := 18) (by first | omega | assumption | exact b2i_R _) dX5_seen_8 (by decide) (fun h8 => ?_) (fun h8 => ?_)
    · refine PP.iconst dX5_seen_18 ?_
      refine PP.iret dX5_seen_19 rfl ?_
      exact ⟨_, rfl, rfl, hA⟩
    · refine PP.iload_n dX5_seen_11 rfl ?_
      refine PP.callSi (ok_isBit hx2) dX5_seen_12 sl_X5_145 rfl rfl (Nat.le_of_ble_eq_true rfl) (by first | exact Nat.le_of_ble_eq_true rfl | omega) ?_
      refine PP.if_ne (tgt := 20) (by first | omega | assumption | exact b2i_R _) dX5_seen_15 (by decide) (fun h15 => ?_) (fun h15 => ?_)
      · exact absurd ⟨of_decide_eq_true (b2i_n.mp h8), of_decide_eq_true (b2i_n.mp h15)⟩ ht
      · refine PP.iconst dX5_seen_18 ?_
        refine PP.iret dX5_seen_19 rfl ?_
        exact ⟨_, rfl, rfl, hA⟩
theorem bst_mem {f : List Nat → Nat} : ∀ (L : List (List Nat)) (a : Int × List Nat), bst f a L = a ∨ ∃ l ∈ L, bst f a L = ((f l : Int), l)
  | [], a => Or.inl rfl
  | l :: L, a => by
    have e : bst f a (l :: L) = bst f (if a.1 < (f l : Int) then ((f l : Int), l) else a) L := rfl
    rw [e]
    by_cases h : a.1 < (f l : Int)
    · rw [if_pos h]
      rcases bst_mem L ((f l : Int), l) with q | ⟨m, hm, q⟩
      · exact Or.inr ⟨l, by simp, q⟩
      · exact Or.inr ⟨m, by simp [hm], q⟩
    · rw [if_neg h]
      rcases bst_mem L a with q | ⟨m, hm, q⟩
      · exact Or.inl q
      · exact Or.inr ⟨m, by simp [hm], q⟩
theorem bo_mem (T : Nat → Int) (n : Nat) (wa : Nat → Bool) (w : Int) : ∃ l ∈ prm (cnt (lfW n wa) 7) (lfW n wa), boO T n wa w = ((rcl T n w l : Int), l) := by
  obtain ⟨R, hR⟩ := prm_head (lf := lfW n wa) rfl
  unfold boO
  rw [hR]
  have e : bst (rcl T n w) (-1, []) (asc (lfW n wa) :: R) = bst (rcl T n w) ((rcl T n w (asc (lfW n wa)) : Int), asc (lfW n wa)) R := by
    show bst _ (if (-1 : Int) < _ then _ else _) R = _
    rw [if_pos (by omega)]
  rw [e]
  rcases bst_mem R ((rcl T n w (asc (lfW n wa)) : Int), asc (lfW n wa)) with q | ⟨m, hm, q⟩
  · exact ⟨_, by simp, q⟩
  · exact ⟨m, by simp [hm], q⟩
theorem bo_len (T : Nat → Int) (n : Nat) (wa : Nat → Bool) (w : Int) : (boO T n wa w).2.length = cnt (lfW n wa) 7 := by
  obtain ⟨l, hl, e⟩ := bo_mem T n wa w
  rw [e]
  exact (prm_mem hl rfl).2.2.1
theorem bo_rng (T : Nat → Int) (n : Nat) (wa : Nat → Bool) (w : Int) : 0 ≤ (boO T n wa w).1 ∧ (boO T n wa w).1 ≤ n := by
  obtain ⟨l, hl, e⟩ := bo_mem T n wa w
  rw [e]
  have : rcl T n w l ≤ n := cnt_le _ n
  constructor <;> simp only [] <;> omega
theorem RepC_find {σ τ : Sg} {A : ST} (h : RepC σ A) (e : ∀ c, c < 28 ∨ 34 < c → τ c = σ c) (hc : CH τ A.2.2.1 A.2.2.2.1) : RepC τ A := by
  obtain ⟨h1, h2, h3, h4, h5, h6, h7, h8, h9⟩ := h
  refine ⟨by rw [e 0 (by omega)]; exact h1, fun j hj => by rw [e 1 (by omega)]; exact h2 j hj, DR_cong h3 (fun c _ _ => e c (by omega)), RW_cong h4 (fun c _ _ => e c (by omega)), SHR_cong h5 (e _ (by omega)) (e _ (by omega)), SHR_cong h6 (e _ (by omega)) (e _ (by omega)), by rw [e 0 (by omega)]; exact h7, by rw [e 0 (by omega)]; exact h8, hc⟩
theorem c_order {σ : Sg} {A : ST} {k : Int} (hA : RepC σ A) (hW : WF A) (hx : R32 k) : OK SHc mX5_order 20 [vR 0, vI k] σ (RP (fun v τ => v = qOrder A k ∧ RepC τ A)) := by
  obtain ⟨len, txt, T, n, row, und, kep, sn⟩ := A
  obtain ⟨a1, a2, a3, a4, a5, a6, a7, a8, a9⟩ := RepC_e.mp hA
  obtain ⟨w1, w2, w3, w4, w5, w6, w7, w8, w9⟩ := WF_e.mp hW
  have hn7 := w3.2.1
  have hC := RC_of w3 w5 a3 a4
  obtain ⟨d0, d1, d2, d3, -⟩ := id a3
  have hws := wsh_m w5
  have hst := w5.2.1
  simp only [qOrder, qBest]
  have hbl := bo_len T n (wsh row) (row 0)
  have hle := cnt_le (lfW n (wsh row)) 7
  refine OK.enter (L' := [vR 0, vI k]) (by decide +kernel) (by simp [ent0]) rfl ?_
  refine PP.rg (fun hg => ?_)
  refine PP.iload_n dX5_order_0 rfl ?_
  refine PP.iconst dX5_order_1 ?_
  refine PP.icmp_ge (tgt := 7) (by first | omega | assumption | (unfold R32; omega)) (by first | omega | assumption | (unfold R32; omega)) dX5_order_2 (by decide) (fun h2 => ?_) (fun h2 => ?_)
  · refine PP.aload_n dX5_order_7 rfl ?_
    refine PP.getfR dX5_order_8 fl_X5_42 sc0 rfl ?_
    refine PP.aload_n dX5_order_11 rfl ?_
    refine PP.getfR dX5_order_12 fl_X5_32 sc0 rfl ?_
    refine PP.getfI dX5_order_15 fl_X5_165 sc20 rfl ?_
    refine PP.eqI (a4.2.1.trans hws) ?_
    refine PP.aload_n dX5_order_18 rfl ?_
    refine PP.getfR dX5_order_19 fl_X5_32 sc0 rfl ?_
    refine PP.getfI dX5_order_22 fl_X5_173 sc20 rfl ?_
    refine PP.eqI a4.2.2 ?_
    refine PP.callVnP (ok_find (wa := wsh row) w3 a3 a9 hst) dX5_order_25 vl_X5_203 sc28 rfl rfl rfl rfl (Nat.le_of_ble_eq_true rfl) (by first | exact Nat.le_of_ble_eq_true rfl | omega) (fun τ25 hq25 => ?_)
    obtain ⟨p1, p2, p3⟩ := hq25
    have hA' : RepC τ25 (len, txt, T, n, row, und, kep, sn) := RepC_find hA p1 p2
    have p31 := p3.1
    rw [if_neg (by omega)]
    refine PP.iload_n dX5_order_28 rfl ?_
    refine PP.iconst dX5_order_29 ?_
    refine PP.icmp_ne (tgt := 41) (by first | omega | assumption | (unfold R32; omega)) (by first | omega | assumption | (unfold R32; omega)) dX5_order_30 (by decide) (fun h30 => ?_) (fun h30 => ?_)
    · refine PP.iload_n dX5_order_41 rfl ?_
      refine PP.aload_n dX5_order_42 rfl ?_
      refine PP.getfR dX5_order_43 fl_X5_42 sc0 rfl ?_
      refine PP.getfI dX5_order_46 fl_X5_210 sc28 rfl ?_
      refine PP.icmp_ge (tgt := 70) (by first | omega | assumption | (unfold R32; omega)) (by first | omega | assumption | (unfold R32; omega)) dX5_order_49 (by decide) (fun h49 => ?_) (fun h49 => ?_)
      · refine PP.bipush dX5_order_70 (by decide) ?_
        refine PP.iret dX5_order_72 rfl ?_
        rw [if_neg (by omega)]
        first
          | (obtain ⟨u, hu⟩ : ∃ u, (boO T n (wsh row) (row 0)).2[k.toNat]? = some u := ⟨_, List.getElem?_eq_getElem (by omega)⟩
             rw [hu]
             exact ⟨_, rfl, p3.2.2 _ _ hu, hA'⟩)
          | (rw [List.getElem?_eq_none (by omega)]
             exact ⟨_, rfl, rfl, hA'⟩)
      · refine PP.iload_n dX5_order_52 rfl ?_
        refine PP.bipush dX5_order_53 (by decide) ?_
        refine PP.icmp_ge (tgt := 70) (by first | omega | assumption | (unfold R32; omega)) (by first | omega | assumption | (unfold R32; omega)) dX5_order_55 (by decide) (fun h55 => ?_) (fun h55 => ?_)
        · refine PP.bipush dX5_order_70 (by decide) ?_
          refine PP.iret dX5_order_72 rfl ?_
          rw [if_neg (by omega)]
          first
            | (obtain ⟨u, hu⟩ : ∃ u, (boO T n (wsh row) (row 0)).2[k.toNat]? = some u := ⟨_, List.getElem?_eq_getElem (by omega)⟩
               rw [hu]
               exact ⟨_, rfl, p3.2.2 _ _ hu, hA'⟩)
            | (rw [List.getElem?_eq_none (by omega)]
               exact ⟨_, rfl, rfl, hA'⟩)
        · refine PP.aload_n dX5_order_58 rfl ?_
          refine PP.getfR dX5_order_59 fl_X5_42 sc0 rfl ?_
          refine PP.getfR dX5_order_62 fl_X5_211 sc28 rfl ?_
          refine PP.iload_n dX5_order_65 rfl ?_
          refine PP.ialoadN (n := k.toNat) sc34 (by first | decide | omega) (by omega) (by first | omega | assumption | (unfold R32; omega)) dX5_order_66 ?_
          refine PP.goto (tgt := 72) dX5_order_67 (by decide) ?_
          refine PP.iret dX5_order_72 rfl ?_
          rw [if_neg (by omega)]
          first
            | (obtain ⟨u, hu⟩ : ∃ u, (boO T n (wsh row) (row 0)).2[k.toNat]? = some u := ⟨_, List.getElem?_eq_getElem (by omega)⟩
               rw [hu]
               exact ⟨_, rfl, p3.2.2 _ _ hu, hA'⟩)
            | (rw [List.getElem?_eq_none (by omega)]
               exact ⟨_, rfl, rfl, hA'⟩)
    · refine PP.aload_n dX5_order_33 rfl ?_
      refine PP.getfR dX5_order_34 fl_X5_42 sc0 rfl ?_
      refine PP.getfI dX5_order_37 fl_X5_207 sc28 rfl ?_
      refine PP.iret dX5_order_40 rfl ?_
      rw [if_pos (by omega)]
      exact ⟨_, rfl, p3.2.1, hA'⟩
  · refine PP.iconst dX5_order_5 ?_
    refine PP.iret dX5_order_6 rfl ?_
    rw [if_pos (by omega)]
    exact ⟨_, rfl, rfl, hA⟩
theorem c_ways {σ : Sg} {A : ST} {who : Int} (hA : RepC σ A) (hW : WF A) (hx : R32 who) : OK SHc mX5_ways 20 [vR 0, vI who] σ (RP (fun v τ => v = qWays A who ∧ RepC τ A)) := by
  obtain ⟨len, txt, T, n, row, und, kep, sn⟩ := A
  obtain ⟨a1, a2, a3, a4, a5, a6, a7, a8, a9⟩ := RepC_e.mp hA
  obtain ⟨w1, w2, w3, w4, w5, w6, w7, w8, w9⟩ := WF_e.mp hW
  have hn7 := w3.2.1
  have hC := RC_of w3 w5 a3 a4
  obtain ⟨d0, d1, d2, d3, -⟩ := id a3
  have hws := wsh_m w5
  have hst := w5.2.1
  simp only [qWays, isZ]
  refine OK.enter (L' := [vR 0, vI who]) (by decide +kernel) (by simp [ent0]) rfl ?_
  refine PP.iload_n dX5_ways_0 rfl ?_
  refine PP.callSi (ok_isBit hx) dX5_ways_1 sl_X5_145 rfl rfl (Nat.le_of_ble_eq_true rfl) (by first | exact Nat.le_of_ble_eq_true rfl | omega) ?_
  refine PP.if_ne (tgt := 9) (by first | omega | assumption | exact b2i_R _) dX5_ways_4 (by decide) (fun h4 => ?_) (fun h4 => ?_)
  · have hz := of_decide_eq_true (b2i_n.mp h4)
    rw [if_neg (fun q => q hz)]
    refine PP.iload_n dX5_ways_9 rfl ?_
    refine PP.if_ne (tgt := 37) (by first | omega | assumption | exact b2i_R _) dX5_ways_10 (by decide) (fun h10 => ?_) (fun h10 => ?_)
    · refine PP.aload_n dX5_ways_37 rfl ?_
      refine PP.getfR dX5_ways_38 fl_X5_42 sc0 rfl ?_
      refine PP.aload_n dX5_ways_41 rfl ?_
      refine PP.getfR dX5_ways_42 fl_X5_32 sc0 rfl ?_
      refine PP.getfI dX5_ways_45 fl_X5_165 sc20 rfl ?_
      refine PP.eqI (a4.2.1.trans hws) ?_
      refine PP.aload_n dX5_ways_48 rfl ?_
      refine PP.getfR dX5_ways_49 fl_X5_32 sc0 rfl ?_
      refine PP.getfI dX5_ways_52 fl_X5_173 sc20 rfl ?_
      refine PP.eqI a4.2.2 ?_
      refine PP.callViP (ok_countByHeight (wa := wsh row) w3 a3 hst) dX5_ways_55 vl_X5_217 sc28 rfl rfl rfl rfl (Nat.le_of_ble_eq_true rfl) (by first | exact Nat.le_of_ble_eq_true rfl | omega) (fun v55 τ55 hq55 => ?_)
      obtain ⟨p1, p2⟩ := hq55
      refine PP.iret dX5_ways_58 rfl ?_
      first
        | (rw [if_pos (by omega)]; exact ⟨_, rfl, p1, RepC_cong hA (fun c hc => p2 c (by omega) (by omega) (by omega) (by omega))⟩)
        | (rw [if_neg (by omega)]; exact ⟨_, rfl, p1, RepC_cong hA (fun c hc => p2 c (by omega) (by omega) (by omega) (by omega))⟩)
    · refine PP.aload_n dX5_ways_13 rfl ?_
      refine PP.getfR dX5_ways_14 fl_X5_42 sc0 rfl ?_
      refine PP.aload_n dX5_ways_17 rfl ?_
      refine PP.getfR dX5_ways_18 fl_X5_32 sc0 rfl ?_
      refine PP.getfI dX5_ways_21 fl_X5_165 sc20 rfl ?_
      refine PP.eqI (a4.2.1.trans hws) ?_
      refine PP.aload_n dX5_ways_24 rfl ?_
      refine PP.getfR dX5_ways_25 fl_X5_32 sc0 rfl ?_
      refine PP.getfI dX5_ways_28 fl_X5_173 sc20 rfl ?_
      refine PP.eqI a4.2.2 ?_
      refine PP.callViP (ok_countByNumber (wa := wsh row) w3 a3 hst) dX5_ways_31 vl_X5_214 sc28 rfl rfl rfl rfl (Nat.le_of_ble_eq_true rfl) (by first | exact Nat.le_of_ble_eq_true rfl | omega) (fun v31 τ31 hq31 => ?_)
      obtain ⟨p1, p2⟩ := hq31
      refine PP.goto (tgt := 58) dX5_ways_34 (by decide) ?_
      refine PP.iret dX5_ways_58 rfl ?_
      first
        | (rw [if_pos (by omega)]; exact ⟨_, rfl, p1, RepC_cong hA (fun c hc => p2 c (by omega) (by omega) (by omega) (by omega))⟩)
        | (rw [if_neg (by omega)]; exact ⟨_, rfl, p1, RepC_cong hA (fun c hc => p2 c (by omega) (by omega) (by omega) (by omega))⟩)
  · refine PP.iconst dX5_ways_7 ?_
    refine PP.iret dX5_ways_8 rfl ?_
    rw [if_pos (of_decide_eq_false (b2i_0.mp h4))]
    exact ⟨_, rfl, rfl, hA⟩
theorem ok_costAt {σ : Sg} {T : Nat → Int} {n h : Nat} (hD : DR σ 14 T n) (hh : h < 24) : OK SHc mX5_costAt 2 [vR 0, vI (h : Int)] σ (RV (T (32 + h)) σ) := by
  refine OK.enter (L' := [vR 0, vI (h : Int)]) (by decide +kernel) (by simp [ent0]) rfl ?_
  refine PP.iload_n dX5_costAt_0 rfl ?_
  refine PP.callSi (ok_isHour (by unfold R32; omega)) dX5_costAt_1 sl_X5_220 rfl rfl (Nat.le_of_ble_eq_true rfl) (by first | exact Nat.le_of_ble_eq_true rfl | omega) ?_
  refine PP.if_eq (tgt := 19) (by first | omega | exact b2i_R _) dX5_costAt_4 (by decide) (fun h4 => ?_) (fun h4 => ?_)
  · rw [decide_eq_true (by omega)] at h4; cases h4
  · refine PP.aload_n dX5_costAt_7 rfl ?_
    refine PP.getfR dX5_costAt_8 fl_X5_23 sc0 rfl ?_
    refine PP.getfR dX5_costAt_11 fl_X5_229 sc14 rfl ?_
    refine PP.iload_n dX5_costAt_14 rfl ?_
    refine PP.ialoadN (n := h) sc19 (by first | decide | omega) (by first | rfl | omega) (by first | omega | exact b2i_R _) dX5_costAt_15 ?_
    refine PP.goto (tgt := 20) dX5_costAt_16 (by decide) ?_
    refine PP.iret dX5_costAt_20 rfl ?_
    exact RVe (DR14c hD h hh)
theorem hrS_lt (T : Nat → Int) (h : Nat) : ∀ k, hrS T h k < 24
  | 0 => Nat.mod_lt _ (by decide)
  | k + 1 => by
    have := hrS_lt T h k
    rw [hrS]
    split
    · exact Nat.mod_lt _ (by decide)
    · exact this
theorem ok_cheapestHour {σ : Sg} {T : Nat → Int} {n h m : Nat} (hw : wfT T n) (hD : DR σ 14 T n) (hh : h ≤ 100) (hm : m < 24) : OK SHc mX5_cheapestHour 4 [vR 0, vI (h : Int), vI ((m + 1 : Nat) : Int)] σ (RV (hrS T h m : Nat) σ) := by
  have hc := hw.2.2.2.2.2.2
  refine OK.enter (L' := [vR 0, vI (h : Int), vI ((m + 1) : Int), vN, vN, vN]) (by decide +kernel) (by simp [ent0]) rfl ?_
  have key : ∀ o, o ≤ m → PP SHc mX5_cheapestHour 4 8 [vR 0, vI (h : Int), vI ((m + 1 : Nat) : Int), vI (hrS T h o : Nat), vI ((o : Int) + 1), vN] [] σ (RV (hrS T h m : Nat) σ) := by
    refine loop_dn m ?_ ?_
    · refine PP.iload dX5_cheapestHour_8 rfl ?_
      refine PP.iload_n dX5_cheapestHour_10 rfl ?_
      refine PP.icmp_ge (tgt := 46) (by first | omega | (unfold R32; omega)) (by first | omega | (unfold R32; omega)) dX5_cheapestHour_11 (by decide) (fun h11 => ?_) (fun h11 => ?_)
      · refine PP.iload_n dX5_cheapestHour_46 rfl ?_
        refine PP.iret dX5_cheapestHour_47 rfl ?_
        exact RVe rfl
      · omega
    · intro o ho ih
      have q1 := hrS_lt T h o
      have q2 := Nat.mod_lt (h + (o + 1)) (show 0 < 24 by decide)
      have q3 := hc _ q1
      have q4 := hc _ q2
      have eo : ((h : Int) + ((o : Int) + 1)) % 24 = (((h + (o + 1)) % 24 : Nat) : Int) := by omega
      rw [hrS] at ih
      refine PP.iload dX5_cheapestHour_8 rfl ?_
      refine PP.iload_n dX5_cheapestHour_10 rfl ?_
      refine PP.icmp_ge (tgt := 46) (by first | omega | (unfold R32; omega)) (by first | omega | (unfold R32; omega)) dX5_cheapestHour_11 (by decide) (fun h11 => ?_) (fun h11 => ?_)
      · omega
      · refine PP.iload_n dX5_cheapestHour_14 rfl ?_
        refine PP.iload dX5_cheapestHour_15 rfl ?_
        refine PP.iadd dX5_cheapestHour_17 ?_
        refine PP.bipush dX5_cheapestHour_18 (by decide) ?_
        refine PP.irem (by first | omega | (unfold R32; omega)) (by first | omega | (unfold R32; omega)) (by first | omega | (unfold R32; omega)) (by first | omega | (unfold R32; omega)) dX5_cheapestHour_20 ?_
        refine PP.eqI eo ?_
        refine PP.istore (L' := [_, _, _, _, _, _]) dX5_cheapestHour_21 (Nat.le_of_ble_eq_true rfl) rfl rfl ?_
        refine PP.aload_n dX5_cheapestHour_23 rfl ?_
        refine PP.iload dX5_cheapestHour_24 rfl ?_
        refine PP.callVi (ok_costAt hD q2) dX5_cheapestHour_26 vl_X5_226 sc0 rfl rfl rfl rfl (Nat.le_of_ble_eq_true rfl) (by first | exact Nat.le_of_ble_eq_true rfl | omega) ?_
        refine PP.aload_n dX5_cheapestHour_29 rfl ?_
        refine PP.iload_n dX5_cheapestHour_30 rfl ?_
        refine PP.callVi (ok_costAt hD q1) dX5_cheapestHour_31 vl_X5_226 sc0 rfl rfl rfl rfl (Nat.le_of_ble_eq_true rfl) (by first | exact Nat.le_of_ble_eq_true rfl | omega) ?_
        refine PP.icmp_ge (tgt := 40) (by first | omega | (unfold R32; omega)) (by first | omega | (unfold R32; omega)) dX5_cheapestHour_34 (by decide) (fun h34 => ?_) (fun h34 => ?_)
        · refine PP.iinc (L' := [_, _, _, _, _, _]) dX5_cheapestHour_40 rfl rfl rfl ?_
          refine PP.goto (tgt := 8) dX5_cheapestHour_43 (by decide) ?_
          first
          | (rw [if_pos (by omega)] at ih
             refine PP.frg 5 (L' := [_, _, _, _, _, _]) rfl ?_
             exact PP.eqL (by rw [show ((o + 1 : Nat) : Int) = (o : Int) + 1 by omega]) ih)
          | (rw [if_neg (by omega)] at ih
             refine PP.frg 5 (L' := [_, _, _, _, _, _]) rfl ?_
             exact PP.eqL (by rw [show ((o + 1 : Nat) : Int) = (o : Int) + 1 by omega]) ih)
        · refine PP.iload dX5_cheapestHour_37 rfl ?_
          refine PP.istore_n (L' := [_, _, _, _, _, _]) dX5_cheapestHour_39 (Nat.le_of_ble_eq_true rfl) rfl rfl ?_
          refine PP.iinc (L' := [_, _, _, _, _, _]) dX5_cheapestHour_40 rfl rfl rfl ?_
          refine PP.goto (tgt := 8) dX5_cheapestHour_43 (by decide) ?_
          first
          | (rw [if_pos (by omega)] at ih
             refine PP.frg 5 (L' := [_, _, _, _, _, _]) rfl ?_
             exact PP.eqL (by rw [show ((o + 1 : Nat) : Int) = (o : Int) + 1 by omega]) ih)
          | (rw [if_neg (by omega)] at ih
             refine PP.frg 5 (L' := [_, _, _, _, _, _]) rfl ?_
             exact PP.eqL (by rw [show ((o + 1 : Nat) : Int) = (o : Int) + 1 by omega]) ih)
  refine PP.iload_n dX5_cheapestHour_0 rfl ?_
  refine PP.bipush dX5_cheapestHour_1 (by decide) ?_
  refine PP.irem (by first | omega | (unfold R32; omega)) (by first | omega | (unfold R32; omega)) (by first | omega | (unfold R32; omega)) (by first | omega | (unfold R32; omega)) dX5_cheapestHour_3 ?_
  refine PP.istore_n (L' := [_, _, _, _, _, _]) dX5_cheapestHour_4 (Nat.le_of_ble_eq_true rfl) rfl rfl ?_
  refine PP.iconst dX5_cheapestHour_5 ?_
  refine PP.istore (L' := [_, _, _, _, _, _]) dX5_cheapestHour_6 (Nat.le_of_ble_eq_true rfl) rfl rfl ?_
  exact PP.eqL (by simp [hrS]) (key 0 (by omega))
theorem c_run {σ : Sg} {A : ST} {h m what : Int} (hA : RepC σ A) (hW : WF A) (hx : R32 h) (hx2 : R32 m) (hx3 : R32 what) : OK SHc mX5_run 20 [vR 0, vI h, vI m, vI what] σ (RP (fun v τ => v = qRun A h m what ∧ RepC τ A)) := by
  obtain ⟨len, txt, T, n, row, und, kep, sn⟩ := A
  obtain ⟨a1, a2, a3, a4, a5, a6, a7, a8, a9⟩ := RepC_e.mp hA
  obtain ⟨w1, w2, w3, w4, w5, w6, w7, w8, w9⟩ := WF_e.mp hW
  have hn7 := w3.2.1
  have hC := RC_of w3 w5 a3 a4
  obtain ⟨d0, d1, d2, d3, -⟩ := id a3
  have hws := wsh_m w5
  have hst := w5.2.1
  simp only [qRun, isZ]
  refine OK.enter (L' := [vR 0, vI h, vI m, vI what, vN]) (by decide +kernel) (by simp [ent0]) rfl ?_
  by_cases ht : (0 ≤ h ∧ h < 24) ∧ (1 ≤ m ∧ m ≤ 24) ∧ (what = 0 ∨ what = 1)
  · obtain ⟨i, rfl⟩ : ∃ i : Nat, h = (i : Int) := ⟨h.toNat, by omega⟩
    obtain ⟨k, rfl⟩ : ∃ k : Nat, m = ((k + 1 : Nat) : Int) := ⟨m.toNat - 1, by omega⟩
    rw [if_neg (fun h => h ht), Int.toNat_natCast, Int.toNat_natCast, Nat.add_sub_cancel]
    have q1 := hrS_lt T i k
    refine PP.iload_n dX5_run_0 rfl ?_
    refine PP.callSi (ok_isHour hx) dX5_run_1 sl_X5_220 rfl rfl (Nat.le_of_ble_eq_true rfl) (by first | exact Nat.le_of_ble_eq_true rfl | omega) ?_
    refine PP.if_eq (tgt := 25) (by first | omega | assumption | exact b2i_R _ | (unfold R32; omega)) dX5_run_4 (by decide) (fun h4 => ?_) (fun h4 => ?_)
    · rw [decide_eq_true ht.1] at h4; cases h4
    · refine PP.iload_n dX5_run_7 rfl ?_
      refine PP.iconst dX5_run_8 ?_
      refine PP.icmp_lt (tgt := 25) (by first | omega | assumption | exact b2i_R _ | (unfold R32; omega)) (by first | omega | assumption | exact b2i_R _ | (unfold R32; omega)) dX5_run_9 (by decide) (fun h9 => ?_) (fun h9 => ?_)
      · omega
      · refine PP.iload_n dX5_run_12 rfl ?_
        refine PP.bipush dX5_run_13 (by decide) ?_
        refine PP.icmp_gt (tgt := 25) (by first | omega | assumption | exact b2i_R _ | (unfold R32; omega)) (by first | omega | assumption | exact b2i_R _ | (unfold R32; omega)) dX5_run_15 (by decide) (fun h15 => ?_) (fun h15 => ?_)
        · omega
        · refine PP.iload_n dX5_run_18 rfl ?_
          refine PP.callSi (ok_isBit hx3) dX5_run_19 sl_X5_145 rfl rfl (Nat.le_of_ble_eq_true rfl) (by first | exact Nat.le_of_ble_eq_true rfl | omega) ?_
          refine PP.if_ne (tgt := 27) (by first | omega | assumption | exact b2i_R _ | (unfold R32; omega)) dX5_run_22 (by decide) (fun h22 => ?_) (fun h22 => ?_)
          · refine PP.aload_n dX5_run_27 rfl ?_
            refine PP.iload_n dX5_run_28 rfl ?_
            refine PP.iload_n dX5_run_29 rfl ?_
            refine PP.callVi (ok_cheapestHour w3 a3 (by omega) (by omega)) dX5_run_30 vl_X5_223 sc0 rfl rfl rfl rfl (Nat.le_of_ble_eq_true rfl) (by first | exact Nat.le_of_ble_eq_true rfl | omega) ?_
            refine PP.istore (L' := [_, _, _, _, _]) dX5_run_33 (Nat.le_of_ble_eq_true rfl) rfl rfl ?_
            refine PP.iload_n dX5_run_35 rfl ?_
            refine PP.if_ne (tgt := 44) (by first | omega | assumption | exact b2i_R _ | (unfold R32; omega)) dX5_run_36 (by decide) (fun h36 => ?_) (fun h36 => ?_)
            · refine PP.aload_n dX5_run_44 rfl ?_
              refine PP.iload dX5_run_45 rfl ?_
              refine PP.callVi (ok_costAt a3 q1) dX5_run_47 vl_X5_226 sc0 rfl rfl rfl rfl (Nat.le_of_ble_eq_true rfl) (by first | exact Nat.le_of_ble_eq_true rfl | omega) ?_
              refine PP.iret dX5_run_50 rfl ?_
              first
              | (rw [if_pos (by omega)]; exact ⟨_, rfl, rfl, hA⟩)
              | (rw [if_neg (by omega)]; exact ⟨_, rfl, rfl, hA⟩)
            · refine PP.iload dX5_run_39 rfl ?_
              refine PP.goto (tgt := 50) dX5_run_41 (by decide) ?_
              refine PP.iret dX5_run_50 rfl ?_
              first
              | (rw [if_pos (by omega)]; exact ⟨_, rfl, rfl, hA⟩)
              | (rw [if_neg (by omega)]; exact ⟨_, rfl, rfl, hA⟩)
          · rw [decide_eq_true ht.2.2] at h22; cases h22
  · rw [if_pos ht]
    refine PP.iload_n dX5_run_0 rfl ?_
    refine PP.callSi (ok_isHour hx) dX5_run_1 sl_X5_220 rfl rfl (Nat.le_of_ble_eq_true rfl) (by first | exact Nat.le_of_ble_eq_true rfl | omega) ?_
    refine PP.if_eq (tgt := 25) (by first | omega | assumption | exact b2i_R _ | (unfold R32; omega)) dX5_run_4 (by decide) (fun h4 => ?_) (fun h4 => ?_)
    · refine PP.iconst dX5_run_25 ?_
      refine PP.iret dX5_run_26 rfl ?_
      exact ⟨_, rfl, rfl, hA⟩
    · refine PP.iload_n dX5_run_7 rfl ?_
      refine PP.iconst dX5_run_8 ?_
      refine PP.icmp_lt (tgt := 25) (by first | omega | assumption | exact b2i_R _ | (unfold R32; omega)) (by first | omega | assumption | exact b2i_R _ | (unfold R32; omega)) dX5_run_9 (by decide) (fun h9 => ?_) (fun h9 => ?_)
      · refine PP.iconst dX5_run_25 ?_
        refine PP.iret dX5_run_26 rfl ?_
        exact ⟨_, rfl, rfl, hA⟩
      · refine PP.iload_n dX5_run_12 rfl ?_
        refine PP.bipush dX5_run_13 (by decide) ?_
        refine PP.icmp_gt (tgt := 25) (by first | omega | assumption | exact b2i_R _ | (unfold R32; omega)) (by first | omega | assumption | exact b2i_R _ | (unfold R32; omega)) dX5_run_15 (by decide) (fun h15 => ?_) (fun h15 => ?_)
        · refine PP.iconst dX5_run_25 ?_
          refine PP.iret dX5_run_26 rfl ?_
          exact ⟨_, rfl, rfl, hA⟩
        · refine PP.iload_n dX5_run_18 rfl ?_
          refine PP.callSi (ok_isBit hx3) dX5_run_19 sl_X5_145 rfl rfl (Nat.le_of_ble_eq_true rfl) (by first | exact Nat.le_of_ble_eq_true rfl | omega) ?_
          refine PP.if_ne (tgt := 27) (by first | omega | assumption | exact b2i_R _ | (unfold R32; omega)) dX5_run_22 (by decide) (fun h22 => ?_) (fun h22 => ?_)
          · exact absurd ⟨of_decide_eq_true (b2i_n.mp h4), ⟨by omega, by omega⟩, of_decide_eq_true (b2i_n.mp h22)⟩ ht
          · refine PP.iconst dX5_run_25 ?_
            refine PP.iret dX5_run_26 rfl ?_
            exact ⟨_, rfl, rfl, hA⟩
