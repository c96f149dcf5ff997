/-! the component's orders: find, by height -/
def lfW (n : Nat) (wa : Nat → Bool) : Nat → Bool := fun u => decide (u < n) && !wa u
def boO (T : Nat → Int) (n : Nat) (wa : Nat → Bool) (w : Int) : Int × List Nat := bst (rcl T n w) (-1, []) (prm (cnt (lfW n wa) 7) (lfW n wa))
def RES (σ : Sg) (T : Nat → Int) (n : Nat) (wa : Nat → Bool) (w : Int) : Prop := σ 28 5 = (cnt (lfW n wa) 7 : Nat) ∧ σ 28 6 = (boO T n wa w).1 ∧ BL σ 34 (boO T n wa w).2
def CH (σ : Sg) (T : Nat → Int) (n : Nat) : Prop := σ 28 7 = 0 ∨ (σ 28 7 = 1 ∧ ∃ (wa : Nat → Bool) (w : Int), σ 28 8 = (msk wa n : Nat) ∧ σ 28 9 = w ∧ (1 ≤ w ∧ w ≤ 9) ∧ RES σ T n wa w)
theorem lfW_cong {n : Nat} {wa wb : Nat → Bool} (h : msk wa n = msk wb n) : lfW n wa = lfW n wb := by
  funext u
  unfold lfW
  by_cases hu : u < n
  · rw [msk_inj h u hu]
  · simp [hu]
theorem msk_ones : ∀ n, msk (fun _ => true) n = 2 ^ n - 1
  | 0 => rfl
  | n + 1 => by
    simp only [msk, if_true]
    rw [msk_ones n, Nat.pow_succ]
    have := Nat.two_pow_pos n
    omega
theorem ok_find {σ : Sg} {T : Nat → Int} {n : Nat} {wa : Nat → Bool} {w : Int} (hw : wfT T n) (hD : DR σ 14 T n) (hc : CH σ T n) (hwa : 1 ≤ w ∧ w ≤ 9) : OK SHc mX1_find 14 [vR 28, vI (msk wa n : Nat), vI w] σ (RPn (fun τ => (∀ c, c < 28 ∨ 34 < c → τ c = σ c) ∧ CH τ T n ∧ RES τ T n wa w)) := by
  have hn7 := hw.2.1
  have hm := msk_128 wa hn7
  refine OK.enter (L' := [vR 28, vI (msk wa n : Nat), vI w, vN]) (by decide +kernel) (by simp [ent0]) rfl ?_
  refine PP.rg (fun hg => ?_)
  have h01 : σ 28 7 = 0 ∨ σ 28 7 = 1 := by rcases hc with h | ⟨h, -⟩ <;> omega
  have e7 : cnt (lfW n wa) 7 = cnt (lfW n wa) n := cnt_ext (fun u h1 h2 => by unfold lfW; simp; omega) hn7
  have key : PP SHc mX1_find 14 24 [vR 28, vI (msk wa n : Nat), vI w, vN] [] σ (RPn (fun τ => (∀ c, c < 28 ∨ 34 < c → τ c = σ c) ∧ CH τ T n ∧ RES τ T n wa w)) := by
    have hcn := cnt_le (lfW n wa) n
    have hO := OC_E (w := w) hw hD
    have hD1 := hO.1.2.2.2.2.1
    have hal : msk (fun u => true && !wa u) n = msk (lfW n wa) n := msk_cong (fun u hu => by simp [lfW, hu])
    have hp2 := Nat.two_pow_pos n
    have hpn : 2 ^ n ≤ 128 := Nat.le_trans (Nat.pow_le_pow_right (by decide) hn7) (by decide)
    refine PP.aload_n dX1_find_24 rfl ?_
    refine PP.iload_n dX1_find_25 rfl ?_
    refine PP.callVn (ok_oEmpty (by unfold R32; omega)) dX1_find_26 vl_X1_42 sc28 rfl rfl rfl rfl (Nat.le_of_ble_eq_true rfl) (by first | exact Nat.le_of_ble_eq_true rfl | omega) ?_
    refine PP.iconst dX1_find_29 ?_
    refine PP.aload_n dX1_find_30 rfl ?_
    refine PP.getfR dX1_find_31 fl_X1_18 sc28 rfl ?_
    refine PP.getfI dX1_find_34 fl_X1_46 sc14 rfl ?_
    refine PP.eqI (y := ((n : Nat) : Int)) hD1.2.2.2.1 ?_
    refine PP.ishlR (z := ((2 ^ n) : Nat)) (shl1_o (by omega)) dX1_find_37 ?_
    refine PP.iconst dX1_find_38 ?_
    refine PP.isub dX1_find_39 ?_
    refine PP.eqI (y := ((msk (fun _ => true) n : Nat) : Int)) (by rw [msk_ones]; generalize 2 ^ n = z at hp2; omega) ?_
    refine PP.iload_n dX1_find_40 rfl ?_
    refine PP.iconst dX1_find_41 ?_
    refine PP.ixorR (z := (-((msk wa n : Nat) : Int) - 1)) (ixor_m _) dX1_find_42 ?_
    refine PP.iandR (z := ((msk (lfW n wa) n) : Nat)) ((iandn_128 _ (msk_128 _ hn7) _ hm).trans (by rw [msk_andn, hal])) dX1_find_43 ?_
    refine PP.istore_n (L' := [_, _, _, _]) dX1_find_44 (Nat.le_of_ble_eq_true rfl) rfl rfl ?_
    refine PP.aload_n dX1_find_45 rfl ?_
    refine PP.aload_n dX1_find_46 rfl ?_
    refine PP.iload_n dX1_find_47 rfl ?_
    refine PP.iload_n dX1_find_48 rfl ?_
    refine PP.callVi (ok_hopefulOf (al := lfW n wa) hw hD1 hwa) dX1_find_49 vl_X1_51 sc28 rfl rfl rfl rfl (Nat.le_of_ble_eq_true rfl) (by first | exact Nat.le_of_ble_eq_true rfl | omega) ?_
    refine PP.putI dX1_find_52 fp_X1_55 sc28 rfl (by first | omega | (unfold R32; omega) | (have := msk_128 (fun t => hpS T w t && lfW n wa t) hn7; unfold R32; omega)) ?_
    refine PP.aload_n dX1_find_55 rfl ?_
    refine PP.iload_n dX1_find_56 rfl ?_
    refine PP.callSi (ok_bitCount (msk_128 _ hn7)) dX1_find_57 sl_X1_58 rfl rfl (Nat.le_of_ble_eq_true rfl) (by first | exact Nat.le_of_ble_eq_true rfl | omega) ?_
    refine PP.eqI (y := ((cnt (lfW n wa) n : Nat) : Int)) (by rw [pc7_msk hn7]) ?_
    refine PP.putI dX1_find_60 fp_X1_64 sc28 rfl (by first | omega | (unfold R32; omega) | (have := msk_128 (fun t => hpS T w t && lfW n wa t) hn7; unfold R32; omega)) ?_
    refine PP.aload_n dX1_find_63 rfl ?_
    refine PP.iconst dX1_find_64 ?_
    refine PP.putI dX1_find_65 fp_X1_67 sc28 rfl (by first | omega | (unfold R32; omega) | (have := msk_128 (fun t => hpS T w t && lfW n wa t) hn7; unfold R32; omega)) ?_
    have hO2 : OC (up (up (up (up (lvU σ 29 7) 29 5 w) 28 3 ((msk (fun t => hpS T w t && lfW n wa t) n : Nat) : Int)) 28 5 ((cnt (lfW n wa) n : Nat) : Int)) 28 6 (-1)) T n w (plL T []) := OC_cong hO (fun c _ _ => by rw [up_ne (by omega), up_ne (by omega), up_ne (by omega)]) (fun c _ _ => by rw [up_ne (by omega), up_ne (by omega), up_ne (by omega)])
    have hS2 : SRC (up (up (up (up (lvU σ 29 7) 29 5 w) 28 3 ((msk (fun t => hpS T w t && lfW n wa t) n : Nat) : Int)) 28 5 ((cnt (lfW n wa) n : Nat) : Int)) 28 6 (-1)) T n w (lfW n wa) [] (-1, []) := ⟨hO2, by rw [up_j (by decide), up_j (by decide), up_at], up_at, fun i u hi => by simp at hi, fun i u hi => by simp at hi⟩
    have hcl0 : clN T n w (plL T []) = 0 := by
      have : clN T n w (plL T []) ≤ cnt (fun _ => false) n := cnt_mono (fun u _ h => by rw [clS_0 (by show (-4 : Int) < 0; decide)] at h; exact h)
      have h0 : ∀ n, cnt (fun _ => false) n = 0 := fun n => by
        induction n with
        | zero => rfl
        | succ n ih => simp [cnt, ih]
      rw [h0] at this
      omega
    have hsr := ok_search (al := lfW n wa) hw hwa (cnt (lfW n wa) n) _ [] (lfW n wa) (-1, []) hS2 rfl (by simp; omega) (fun u hu => ⟨by unfold lfW at hu; rw [Bool.and_eq_true] at hu; simpa using hu.1, hu, by show (-4 : Int) < 0; decide⟩) (by simp)
    rw [hcl0] at hsr
    refine PP.aload_n dX1_find_68 rfl ?_
    refine PP.iconst dX1_find_69 ?_
    refine PP.iconst dX1_find_70 ?_
    refine PP.iload_n dX1_find_71 rfl ?_
    refine PP.iconst dX1_find_72 ?_
    refine PP.callVnP (hsr) dX1_find_73 vl_X1_70 sc28 rfl rfl rfl rfl (Nat.le_of_ble_eq_true rfl) (by first | exact Nat.le_of_ble_eq_true rfl | omega) (fun τ73 hq73 => ?_)
    obtain ⟨r1, r2, r3⟩ := hq73
    refine PP.aload_n dX1_find_76 rfl ?_
    refine PP.iconst dX1_find_77 ?_
    refine PP.putZ dX1_find_78 fp_X1_31 sc28 rfl (by first | omega | (unfold R32; omega) | (have := msk_128 (fun t => hpS T w t && lfW n wa t) hn7; unfold R32; omega)) ?_
    refine PP.aload_n dX1_find_81 rfl ?_
    refine PP.iload_n dX1_find_82 rfl ?_
    refine PP.putI dX1_find_83 fp_X1_35 sc28 rfl (by first | omega | (unfold R32; omega) | (have := msk_128 (fun t => hpS T w t && lfW n wa t) hn7; unfold R32; omega)) ?_
    refine PP.aload_n dX1_find_86 rfl ?_
    refine PP.iload_n dX1_find_87 rfl ?_
    refine PP.putI dX1_find_88 fp_X1_39 sc28 rfl (by first | omega | (unfold R32; omega) | (have := msk_128 (fun t => hpS T w t && lfW n wa t) hn7; unfold R32; omega)) ?_
    refine PP.vret dX1_find_91 rfl ?_
    obtain ⟨q1, q2, q3, q4, q5⟩ := r3
    have eb : bst (rcl T n w) (-1, []) ((prm (cnt (lfW n wa) n) (lfW n wa)).map ([] ++ ·)) = boO T n wa w := by
      unfold boO
      rw [e7]
      congr 1
      exact (List.map_congr_left (fun l _ => List.nil_append l)).trans (List.map_id _)
    rw [eb] at q3 q5
    have hres : RES (up (up (up τ73 28 7 1) 28 8 ((msk wa n : Nat) : Int)) 28 9 w) T n wa w := by
      refine ⟨?_, ?_, ?_⟩
      · rw [up_j (by decide), up_j (by decide), up_j (by decide), r2 5 (by decide), up_j (by decide), up_at, e7]
      · rw [up_j (by decide), up_j (by decide), up_j (by decide)]; exact q3
      · exact BL_cong q5 (fun i _ => by rw [up_ne (by decide), up_ne (by decide), up_ne (by decide)])
    refine ⟨rfl, fun c hc' => ?_, Or.inr ⟨by rw [up_j (by decide), up_j (by decide), up_at], wa, w, by rw [up_j (by decide), up_at], up_at, hwa, hres⟩, hres⟩
    rw [up_ne (by omega), up_ne (by omega), up_ne (by omega), r1 c (by omega) (by omega) (by omega) (by omega) (by omega) (by omega), up_ne (by omega), up_ne (by omega), up_ne (by omega), up_ne (by omega), lvU_ne (by omega) (by omega) (by omega)]
  refine PP.aload_n dX1_find_0 rfl ?_
  refine PP.getfI dX1_find_1 fl_X1_31 sc28 rfl ?_
  refine PP.if_eq (tgt := 24) (by first | omega | exact hg _ _ | (unfold R32; omega)) dX1_find_4 (by decide) (fun h4 => ?_) (fun h4 => ?_)
  · exact key
  · refine PP.aload_n dX1_find_7 rfl ?_
    refine PP.getfI dX1_find_8 fl_X1_35 sc28 rfl ?_
    refine PP.iload_n dX1_find_11 rfl ?_
    refine PP.icmp_ne (tgt := 24) (by first | omega | exact hg _ _ | (unfold R32; omega)) (by first | omega | exact hg _ _ | (unfold R32; omega)) dX1_find_12 (by decide) (fun h12 => ?_) (fun h12 => ?_)
    · exact key
    · refine PP.aload_n dX1_find_15 rfl ?_
      refine PP.getfI dX1_find_16 fl_X1_39 sc28 rfl ?_
      refine PP.iload_n dX1_find_19 rfl ?_
      refine PP.icmp_ne (tgt := 24) (by first | omega | exact hg _ _ | (unfold R32; omega)) (by first | omega | exact hg _ _ | (unfold R32; omega)) dX1_find_20 (by decide) (fun h20 => ?_) (fun h20 => ?_)
      · exact key
      · refine PP.vret dX1_find_23 rfl ?_
        rcases hc with h | ⟨h, wb, w2, c1, c2, c3, c4⟩
        · omega
        · have e1 : msk wb n = msk wa n := by omega
          have e2 : w2 = w := by omega
          subst e2
          refine ⟨rfl, fun c _ => rfl, Or.inr ⟨h, wb, w2, c1, c2, c3, c4⟩, ?_⟩
          unfold RES boO at c4 ⊢
          rw [← lfW_cong e1]
          exact c4
def hlT (T : Nat → Int) (n : Nat) (wa : Nat → Bool) (j : Nat) : List Nat := (List.range j).flatMap fun (i : Nat) => (List.range n).filter (fun t => decide (T (18 + t) = 9 - (i : Int)) && !wa t)
theorem ok_countByHeight {σ : Sg} {n : Nat} {T : Nat → Int} {w : Int} {wa : Nat → Bool} (hw : wfT T n) (hD : DR σ 14 T n) (hwa : 1 ≤ w ∧ w ≤ 9) : OK SHc mX1_countByHeight 6 [vR 28, vI (msk wa n : Nat), vI w] σ (RP (fun v τ => v = (rcl T n w (hlT T n wa 9) : Nat) ∧ ∀ c, c ≠ 29 → c ≠ 30 → c ≠ 31 → c ≠ 32 → τ c = σ c)) := by
  have hn7 := hw.2.1
  have hsl := hw.2.2.1
  refine OK.enter (L' := [vR 28, vI (msk wa n : Nat), vI w, vN, vN, vN]) (by decide +kernel) (by simp [ent0]) rfl ?_
  have outer : ∀ j : Nat, j ≤ 9 → ∀ σ1 : Sg, OC σ1 T n w (plL T (hlT T n wa j)) → (∀ c, c ≠ 29 → c ≠ 30 → c ≠ 31 → c ≠ 32 → σ1 c = σ c) → PP SHc mX1_countByHeight 6 11 [vR 28, vI (msk wa n : Nat), vI w, vI (plL T (hlT T n wa j)).1, vI (9 - (j : Int)), vN] [] σ1 (RP (fun v τ => v = (rcl T n w (hlT T n wa 9) : Nat) ∧ ∀ c, c ≠ 29 → c ≠ 30 → c ≠ 31 → c ≠ 32 → τ c = σ c)) := by
    refine loop_dn 9 ?_ ?_
    · intro σ1 ho hfr
      refine PP.iload dX1_countByHeight_11 rfl ?_
      refine PP.iconst dX1_countByHeight_13 ?_
      refine PP.icmp_lt (tgt := 76) (by first | omega | (unfold R32; omega)) (by first | omega | (unfold R32; omega)) dX1_countByHeight_14 (by decide) (fun h14 => ?_) (fun h14 => ?_)
      · refine PP.aload_n dX1_countByHeight_76 rfl ?_
        refine PP.getfR dX1_countByHeight_77 fl_X1_27 sc28 rfl ?_
        refine PP.callVi (ok_countClean ho.1 ho.2.1 (by omega)) dX1_countByHeight_80 vl_X1_129 sc29 rfl rfl rfl rfl (Nat.le_of_ble_eq_true rfl) (by first | exact Nat.le_of_ble_eq_true rfl | omega) ?_
        refine PP.iret dX1_countByHeight_83 rfl ?_
        exact ⟨_, rfl, rfl, hfr⟩
      · omega
    · intro j hj ihj σ0 ho0 hfr0
      have eL : hlT T n wa (j + 1) = hlT T n wa j ++ (List.range n).filter (fun t => decide (T (18 + t) = 9 - (j : Int)) && !wa t) := by
        unfold hlT; rw [List.range_succ, List.flatMap_append]; simp
      have inner : ∀ o, o ≤ n → ∀ σ1 : Sg, OC σ1 T n w (plL T (hlT T n wa j ++ (List.range o).filter (fun t => decide (T (18 + t) = 9 - (j : Int)) && !wa t))) → (∀ c, c ≠ 29 → c ≠ 30 → c ≠ 31 → c ≠ 32 → σ1 c = σ c) → PP SHc mX1_countByHeight 6 20 [vR 28, vI (msk wa n : Nat), vI w, vI (plL T (hlT T n wa j ++ (List.range o).filter (fun t => decide (T (18 + t) = 9 - (j : Int)) && !wa t))).1, vI (9 - (j : Int)), vI (o : Int)] [] σ1 (RP (fun v τ => v = (rcl T n w (hlT T n wa 9) : Nat) ∧ ∀ c, c ≠ 29 → c ≠ 30 → c ≠ 31 → c ≠ 32 → τ c = σ c)) := by
        refine loop_dn n ?_ ?_
        · intro σ1 ho hfr
          have d3 : σ1 14 3 = (n : Int) := ho.1.2.2.2.2.1.2.2.2.1
          rw [← eL] at ho ⊢
          refine PP.iload dX1_countByHeight_20 rfl ?_
          refine PP.aload_n dX1_countByHeight_22 rfl ?_
          refine PP.getfR dX1_countByHeight_23 fl_X1_18 sc28 rfl ?_
          refine PP.getfI dX1_countByHeight_26 fl_X1_46 sc14 rfl ?_
          refine PP.icmp_ge (tgt := 70) (by first | omega | (unfold R32; omega)) (by first | omega | (unfold R32; omega)) dX1_countByHeight_29 (by decide) (fun h29 => ?_) (fun h29 => ?_)
          · refine PP.iinc (L' := [_, _, _, _, _, _]) dX1_countByHeight_70 rfl rfl rfl ?_
            refine PP.goto (tgt := 11) dX1_countByHeight_73 (by decide) ?_
            refine PP.frg 5 (L' := [_, _, _, _, _, _]) rfl ?_
            refine PP.eqL (L' := [vR 28, vI (msk wa n : Nat), vI w, vI (plL T (hlT T n wa (j + 1))).1, vI (9 - ((j + 1 : Nat) : Int)), vN]) ?_ (ihj σ1 ho hfr)
            rw [show (9 - (j : Int)) + -1 = 9 - ((j + 1 : Nat) : Int) by omega]
          · omega
        · intro o hon ih σ1 ho hfr
          have hDD := ho.1.2.2.2.2.1
          have d3 : σ1 14 3 = (n : Int) := hDD.2.2.2.1
          have g3 := (DR14 hDD o hon).2.2.1
          have v3 := (hw.2.2.2.2.2.1 o hon).2.2.1
          have no : (decide (T (18 + o) = 9 - (j : Int)) && !wa o) = false → PP SHc mX1_countByHeight 6 20 [vR 28, vI (msk wa n : Nat), vI w, vI (plL T (hlT T n wa j ++ (List.range o).filter (fun t => decide (T (18 + t) = 9 - (j : Int)) && !wa t))).1, vI (9 - (j : Int)), vI ((o : Int) + 1)] [] σ1 (RP (fun v τ => v = (rcl T n w (hlT T n wa 9) : Nat) ∧ ∀ c, c ≠ 29 → c ≠ 30 → c ≠ 31 → c ≠ 32 → τ c = σ c)) := by
            intro h
            rw [flt_s0 (lf := fun t => decide (T (18 + t) = 9 - (j : Int)) && !wa t) h] at ih
            exact ih σ1 ho hfr
          refine PP.iload dX1_countByHeight_20 rfl ?_
          refine PP.aload_n dX1_countByHeight_22 rfl ?_
          refine PP.getfR dX1_countByHeight_23 fl_X1_18 sc28 rfl ?_
          refine PP.getfI dX1_countByHeight_26 fl_X1_46 sc14 rfl ?_
          refine PP.icmp_ge (tgt := 70) (by first | omega | exact b2i_R _ | (unfold R32; omega)) (by first | omega | exact b2i_R _ | (unfold R32; omega)) dX1_countByHeight_29 (by decide) (fun h29 => ?_) (fun h29 => ?_)
          · omega
          · refine PP.aload_n dX1_countByHeight_32 rfl ?_
            refine PP.getfR dX1_countByHeight_33 fl_X1_18 sc28 rfl ?_
            refine PP.getfR dX1_countByHeight_36 fl_X1_133 sc14 rfl ?_
            refine PP.iload dX1_countByHeight_39 rfl ?_
            refine PP.ialoadN (n := o) sc17 (by first | decide | omega) (by first | rfl | omega) (by first | omega | exact b2i_R _ | (unfold R32; omega)) dX1_countByHeight_41 ?_
            refine PP.iload dX1_countByHeight_42 rfl ?_
            refine PP.icmp_ne (tgt := 64) (by first | omega | exact b2i_R _ | (unfold R32; omega)) (by first | omega | exact b2i_R _ | (unfold R32; omega)) dX1_countByHeight_44 (by decide) (fun h44 => ?_) (fun h44 => ?_)
            · refine PP.iinc (L' := [_, _, _, _, _, _]) dX1_countByHeight_64 rfl rfl rfl ?_
              refine PP.goto (tgt := 20) dX1_countByHeight_67 (by decide) ?_
              exact no (by rw [decide_eq_false (by omega)]; rfl)
            · refine PP.iload_n dX1_countByHeight_47 rfl ?_
              refine PP.iload dX1_countByHeight_48 rfl ?_
              refine PP.ishrR (z := ((msk wa n / 2 ^ o) : Nat)) (shr_msk hn7 (by omega)) dX1_countByHeight_50 ?_
              refine PP.iconst dX1_countByHeight_51 ?_
              refine PP.iandR (z := (b2i (wa o))) (and_bit hon) dX1_countByHeight_52 ?_
              refine PP.if_ne (tgt := 64) (by first | omega | exact b2i_R _ | (unfold R32; omega)) dX1_countByHeight_53 (by decide) (fun h53 => ?_) (fun h53 => ?_)
              · refine PP.iinc (L' := [_, _, _, _, _, _]) dX1_countByHeight_64 rfl rfl rfl ?_
                refine PP.goto (tgt := 20) dX1_countByHeight_67 (by decide) ?_
                exact no (by rw [b2i_n.mp h53]; simp)
              · refine PP.aload_n dX1_countByHeight_56 rfl ?_
                refine PP.iload dX1_countByHeight_57 rfl ?_
                refine PP.iload_n dX1_countByHeight_59 rfl ?_
                refine PP.callViP (ok_putIfRoom ho hon) dX1_countByHeight_60 vl_X1_126 sc28 rfl rfl rfl rfl (Nat.le_of_ble_eq_true rfl) (by first | exact Nat.le_of_ble_eq_true rfl | omega) (fun v60 τ60 hq60 => ?_)
                obtain ⟨p1, p2, p3⟩ := hq60
                refine PP.istore_n (L' := [_, _, _, _, _, _]) dX1_countByHeight_63 (Nat.le_of_ble_eq_true rfl) rfl rfl ?_
                refine PP.iinc (L' := [_, _, _, _, _, _]) dX1_countByHeight_64 rfl rfl rfl ?_
                refine PP.goto (tgt := 20) dX1_countByHeight_67 (by decide) ?_
                have hy : (decide (T (18 + o) = 9 - (j : Int)) && !wa o) = true := by rw [decide_eq_true (by omega), b2i_0.mp h53]; rfl
                rw [flt_s1 (lf := fun t => decide (T (18 + t) = 9 - (j : Int)) && !wa t) hy, ← List.append_assoc, plL_app] at ih
                subst p1
                exact ih _ p2 (fun c h0 h1 h2 h3 => by rw [p3 c h1 h2 h3]; exact hfr c h0 h1 h2 h3)
      refine PP.iload dX1_countByHeight_11 rfl ?_
      refine PP.iconst dX1_countByHeight_13 ?_
      refine PP.icmp_lt (tgt := 76) (by first | omega | (unfold R32; omega)) (by first | omega | (unfold R32; omega)) dX1_countByHeight_14 (by decide) (fun h14 => ?_) (fun h14 => ?_)
      · omega
      · refine PP.iconst dX1_countByHeight_17 ?_
        refine PP.istore (L' := [_, _, _, _, _, _]) dX1_countByHeight_18 (Nat.le_of_ble_eq_true rfl) rfl rfl ?_
        have h0 := inner 0 (by omega) σ0
        simp only [List.range_zero, List.filter_nil, List.append_nil] at h0
        exact h0 ho0 hfr0
  refine PP.aload_n dX1_countByHeight_0 rfl ?_
  refine PP.iload_n dX1_countByHeight_1 rfl ?_
  refine PP.callVn (ok_oEmpty (by unfold R32; omega)) dX1_countByHeight_2 vl_X1_42 sc28 rfl rfl rfl rfl (Nat.le_of_ble_eq_true rfl) (by first | exact Nat.le_of_ble_eq_true rfl | omega) ?_
  refine PP.iconst dX1_countByHeight_5 ?_
  refine PP.istore_n (L' := [_, _, _, _, _, _]) dX1_countByHeight_6 (Nat.le_of_ble_eq_true rfl) rfl rfl ?_
  refine PP.bipush dX1_countByHeight_7 (by decide) ?_
  refine PP.istore (L' := [_, _, _, _, _, _]) dX1_countByHeight_9 (Nat.le_of_ble_eq_true rfl) rfl rfl ?_
  exact outer 0 (by omega) (up (lvU σ 29 7) 29 5 w) (OC_E hw hD) (fun c h0 h1 h2 h3 => by rw [up_ne h0, lvU_ne (by omega) (by omega) (by omega)])
