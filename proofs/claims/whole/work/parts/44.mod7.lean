/-! the model: undo, keep, back, counts, what was seen -/
theorem RLs_init {σ τ : Sg} {c f m : Nat} {Rs : List (Nat → Int)} {r : Nat → Int} (h : RLs σ c f m (Rs ++ [r])) (e0 : τ 0 f = (Rs.length : Int)) (e1 : τ c = σ c) : RLs τ c f m Rs := by
  obtain ⟨h1, h2, h3⟩ := h
  simp only [List.length_append, List.length_singleton] at h2
  refine ⟨e0, by omega, fun k row j hk hj => ?_⟩
  rw [e1]
  refine h3 k row j ?_ hj
  have hkl : k < Rs.length := by
    rcases Nat.lt_or_ge k Rs.length with q | q
    · exact q
    · rw [List.getElem?_eq_none q] at hk; cases hk
  rw [List.getElem?_append_left hkl]
  exact hk
theorem RLs_last {σ : Sg} {c f m : Nat} {Rs : List (Nat → Int)} {r : Nat → Int} (h : RLs σ c f m (Rs ++ [r])) : ∀ j, j < 16 → σ c (16 * Rs.length + j) = r j := fun j hj => h.2.2 _ r j (by simp) hj
theorem x_undo {σ : Sg} {A : ST} (hA : RepM σ A) (hW : WF A) : OK SHm mX6_undo 20 [vR 0] σ (RP (fun v τ => v = (spUndo A).1 ∧ RepM τ (spUndo A).2)) := by
  obtain ⟨len, txt, T, n, row, und, kep, sn⟩ := A
  obtain ⟨b1, b2, b3, b4, b5, b6, b7⟩ := RepM_e.mp hA
  obtain ⟨w1, w2, w3, w4, w5, w6, w7, w8, w9⟩ := WF_e.mp hW
  have hn7 := w3.2.1
  have hsl := w3.2.2.1
  have hws := wsh_m w5
  have hst := w5.2.1
  have t3 : σ 2 3 = (n : Int) := (b3 3 (by decide)).trans w3.1
  have t0 := b3 0 (by decide)
  have r0 := b4 0 (by decide)
  have r1 : σ 4 1 = ((msk (wsh row) n : Nat) : Int) := (b4 1 (by decide)).trans hws
  have hl := b5.1
  have hl8 := b5.2.1
  refine OK.enter (L' := [vR 0, vN]) (by decide +kernel) (by simp [ent0]) rfl ?_
  rcases List.eq_nil_or_concat und with rfl | ⟨Rs, r, eRs⟩
  · simp only [spUndo, List.getLast?_nil]
    simp only [List.length_nil] at hl
    refine PP.aload_n dX6_undo_0 rfl ?_
    refine PP.getfI dX6_undo_1 fl_X6_117 sm0 rfl ?_
    refine PP.if_ne (tgt := 10) (by first | omega | (unfold R32; omega)) dX6_undo_4 (by decide) (fun h4 => ?_) (fun h4 => ?_)
    · omega
    · refine PP.bipush dX6_undo_7 (by decide) ?_
      refine PP.iret dX6_undo_9 rfl ?_
      exact ⟨_, rfl, rfl, hA⟩
  · rw [List.concat_eq_append] at eRs
    subst eRs
    simp only [spUndo, List.getLast?_concat, List.dropLast_concat, List.length_append, List.length_singleton]
    rw [show (Rs ++ [r]).length = Rs.length + 1 from by simp] at hl hl8
    have hlast := RLs_last b5
    have key : ∀ o, o ≤ 16 → ∀ σ1 : Sg, (∀ c, c ≠ 0 → c ≠ 4 → σ1 c = σ c) → (∀ j, j ≠ 8 → σ1 0 j = σ 0 j) → σ1 0 8 = (Rs.length : Int) → (∀ j, j < o → σ1 4 j = r j) → PP SHm mX6_undo 20 22 [vR 0, vI (o : Int)] [] σ1 (RP (fun v τ => v = ((Rs.length + 1 : Nat) : Int) - 1 ∧ RepM τ (len, txt, T, n, r, Rs, kep, sn))) := by
      refine loop_dn 16 ?_ ?_
      · intro σ1 f1 f2 f3 f4
        refine PP.iload_n dX6_undo_22 rfl ?_
        refine PP.bipush dX6_undo_23 (by decide) ?_
        refine PP.icmp_ge (tgt := 54) (by first | omega | (unfold R32; omega)) (by first | omega | (unfold R32; omega)) dX6_undo_25 (by decide) (fun h25 => ?_) (fun h25 => ?_)
        · refine PP.aload_n dX6_undo_54 rfl ?_
          refine PP.getfI dX6_undo_55 fl_X6_117 sm0 rfl ?_
          refine PP.iret dX6_undo_58 rfl ?_
          refine ⟨_, rfl, by rw [f3]; omega, RepM_e.mpr ⟨by rw [f2 0 (by decide)]; exact b1, fun j hj => by rw [f1 1 (by decide) (by decide)]; exact b2 j hj, mT_cong b3 (f1 2 (by decide) (by decide)), f4, RLs_init b5 f3 (f1 6 (by decide) (by decide)), RLs_cong b6 (f2 10 (by decide)) (f1 7 (by decide) (by decide)), fun t ht => by rw [f1 8 (by decide) (by decide)]; exact b7 t ht⟩⟩
        · omega
      · intro o ho ih σ1 f1 f2 f3 f4
        refine PP.rg (fun hg => ?_)
        have hv : σ1 6 (16 * Rs.length + o) = r o := by rw [f1 6 (by decide) (by decide)]; exact hlast o ho
        refine PP.iload_n dX6_undo_22 rfl ?_
        refine PP.bipush dX6_undo_23 (by decide) ?_
        refine PP.icmp_ge (tgt := 54) (by first | omega | exact hg _ _ | (unfold R32; omega)) (by first | omega | exact hg _ _ | (unfold R32; omega)) dX6_undo_25 (by decide) (fun h25 => ?_) (fun h25 => ?_)
        · omega
        · refine PP.aload_n dX6_undo_28 rfl ?_
          refine PP.getfR dX6_undo_29 fl_X6_19 sm0 rfl ?_
          refine PP.iload_n dX6_undo_32 rfl ?_
          refine PP.aload_n dX6_undo_33 rfl ?_
          refine PP.getfR dX6_undo_34 fl_X6_25 sm0 rfl ?_
          refine PP.bipush dX6_undo_37 (by decide) ?_
          refine PP.aload_n dX6_undo_39 rfl ?_
          refine PP.getfI dX6_undo_40 fl_X6_117 sm0 rfl ?_
          refine PP.imul dX6_undo_43 ?_
          refine PP.iload_n dX6_undo_44 rfl ?_
          refine PP.iadd dX6_undo_45 ?_
          refine PP.ialoadN (n := (16 * Rs.length + o)) sm6 (by first | decide | omega) (by omega) (by first | omega | exact hg _ _ | (unfold R32; omega)) dX6_undo_46 ?_
          refine PP.iastoreN (n := o) sm4 (by first | decide | omega) (by first | rfl | omega) (by first | omega | exact hg _ _ | (unfold R32; omega)) (by first | omega | exact hg _ _ | (unfold R32; omega)) dX6_undo_47 ?_
          refine PP.iinc (L' := [_, _]) dX6_undo_48 rfl rfl rfl ?_
          refine PP.goto (tgt := 22) dX6_undo_51 (by decide) ?_
          refine ih _ (fun c h0 h4 => by rw [up_ne h4]; exact f1 c h0 h4) (fun j hj => by rw [up_ne (by decide)]; exact f2 j hj) (by rw [up_ne (by decide)]; exact f3) (fun j hj => ?_)
          by_cases e : j = o
          · subst e; rw [up_at]; exact hv
          · rw [up_j e]; exact f4 j (by omega)
    refine PP.aload_n dX6_undo_0 rfl ?_
    refine PP.getfI dX6_undo_1 fl_X6_117 sm0 rfl ?_
    refine PP.if_ne (tgt := 10) (by first | omega | (unfold R32; omega)) dX6_undo_4 (by decide) (fun h4 => ?_) (fun h4 => ?_)
    · refine PP.aload_n dX6_undo_10 rfl ?_
      refine PP.dup rfl dX6_undo_11 ?_
      refine PP.getfI dX6_undo_12 fl_X6_117 sm0 rfl ?_
      refine PP.iconst dX6_undo_15 ?_
      refine PP.isub dX6_undo_16 ?_
      refine PP.putI dX6_undo_17 fp_X6_117 sm0 rfl (by first | omega | (unfold R32; omega)) ?_
      refine PP.iconst dX6_undo_20 ?_
      refine PP.istore_n (L' := [_, _]) dX6_undo_21 (Nat.le_of_ble_eq_true rfl) rfl rfl ?_
      exact key 0 (by omega) _ (fun c h0 _ => up_ne h0) (fun j hj => up_j hj) (by rw [up_at, hl]; omega) (fun j hj => by omega)
    · omega
theorem x_keep {σ : Sg} {A : ST} (hA : RepM σ A) (hW : WF A) : OK SHm mX6_keep 20 [vR 0] σ (RP (fun v τ => v = (spKeep A).1 ∧ RepM τ (spKeep A).2)) := by
  obtain ⟨len, txt, T, n, row, und, kep, sn⟩ := A
  obtain ⟨b1, b2, b3, b4, b5, b6, b7⟩ := RepM_e.mp hA
  obtain ⟨w1, w2, w3, w4, w5, w6, w7, w8, w9⟩ := WF_e.mp hW
  have hn7 := w3.2.1
  have hsl := w3.2.2.1
  have hws := wsh_m w5
  have hst := w5.2.1
  have t3 : σ 2 3 = (n : Int) := (b3 3 (by decide)).trans w3.1
  have t0 := b3 0 (by decide)
  have r0 := b4 0 (by decide)
  have r1 : σ 4 1 = ((msk (wsh row) n : Nat) : Int) := (b4 1 (by decide)).trans hws
  have hl := b6.1
  have hl2 := b6.2.1
  simp only [spKeep]
  refine OK.enter (L' := [vR 0, vN]) (by decide +kernel) (by simp [ent0]) rfl ?_
  have key : kep.length < 2 → ∀ o, o ≤ 16 → ∀ σ1 : Sg, (∀ c, c ≠ 7 → σ1 c = σ c) → (∀ j, j < o → σ1 7 (16 * kep.length + j) = row j) → (∀ i, ¬ (16 * kep.length ≤ i ∧ i < 16 * kep.length + 16) → σ1 7 i = σ 7 i) → PP SHm mX6_keep 20 13 [vR 0, vI (o : Int)] [] σ1 (RP (fun v τ => v = (kep.length : Int) + 1 ∧ RepM τ (len, txt, T, n, row, und, kep ++ [row], sn))) := by
    intro hk2
    refine loop_dn 16 ?_ ?_
    · intro σ1 f1 f2 f3
      have hl' : σ1 0 10 = (kep.length : Int) := by rw [f1 0 (by decide)]; exact hl
      refine PP.iload_n dX6_keep_13 rfl ?_
      refine PP.bipush dX6_keep_14 (by decide) ?_
      refine PP.icmp_ge (tgt := 45) (by first | omega | (unfold R32; omega)) (by first | omega | (unfold R32; omega)) dX6_keep_16 (by decide) (fun h16 => ?_) (fun h16 => ?_)
      · refine PP.aload_n dX6_keep_45 rfl ?_
        refine PP.dup rfl dX6_keep_46 ?_
        refine PP.getfI dX6_keep_47 fl_X6_120 sm0 rfl ?_
        refine PP.iconst dX6_keep_50 ?_
        refine PP.iadd dX6_keep_51 ?_
        refine PP.putI dX6_keep_52 fp_X6_120 sm0 rfl (by first | omega | (unfold R32; omega)) ?_
        refine PP.aload_n dX6_keep_55 rfl ?_
        refine PP.getfI dX6_keep_56 fl_X6_120 sm0 rfl ?_
        refine PP.eqI up_at ?_
        refine PP.iret dX6_keep_59 rfl ?_
        refine ⟨_, rfl, by rw [hl'], RepM_e.mpr ⟨?_, fun j hj => ?_, ?_, fun k hk => ?_, ?_, ?_, fun t ht => ?_⟩⟩
        · rw [up_j (by decide), f1 0 (by decide)]; exact b1
        · rw [up_ne (by decide), f1 1 (by decide)]; exact b2 j hj
        · exact mT_cong b3 (by rw [up_ne (by decide), f1 2 (by decide)])
        · rw [up_ne (by decide), f1 4 (by decide)]; exact b4 k hk
        · exact RLs_cong b5 (by rw [up_j (by decide), f1 0 (by decide)]) (by rw [up_ne (by decide), f1 6 (by decide)])
        · exact RLs_app (z := 0) b6 hk2 (by decide) (fun i hi => by rw [up_ne (by decide)]; exact f3 i hi) (fun j hj => by rw [up_ne (by decide)]; exact f2 j hj) (by rw [up_at, hl'])
        · rw [up_ne (by decide), f1 8 (by decide)]; exact b7 t ht
      · omega
    · intro o ho ih σ1 f1 f2 f3
      have hl' : σ1 0 10 = (kep.length : Int) := by rw [f1 0 (by decide)]; exact hl
      refine PP.rg (fun hg => ?_)
      refine PP.iload_n dX6_keep_13 rfl ?_
      refine PP.bipush dX6_keep_14 (by decide) ?_
      refine PP.icmp_ge (tgt := 45) (by first | omega | exact hg _ _ | (unfold R32; omega)) (by first | omega | exact hg _ _ | (unfold R32; omega)) dX6_keep_16 (by decide) (fun h16 => ?_) (fun h16 => ?_)
      · omega
      · refine PP.aload_n dX6_keep_19 rfl ?_
        refine PP.getfR dX6_keep_20 fl_X6_28 sm0 rfl ?_
        refine PP.bipush dX6_keep_23 (by decide) ?_
        refine PP.aload_n dX6_keep_25 rfl ?_
        refine PP.getfI dX6_keep_26 fl_X6_120 sm0 rfl ?_
        refine PP.imul dX6_keep_29 ?_
        refine PP.iload_n dX6_keep_30 rfl ?_
        refine PP.iadd dX6_keep_31 ?_
        refine PP.aload_n dX6_keep_32 rfl ?_
        refine PP.getfR dX6_keep_33 fl_X6_19 sm0 rfl ?_
        refine PP.iload_n dX6_keep_36 rfl ?_
        refine PP.ialoadN (n := o) sm4 (by first | decide | omega) (by first | rfl | omega) (by first | omega | exact hg _ _ | (unfold R32; omega)) dX6_keep_37 ?_
        refine PP.iastoreN (n := (16 * kep.length + o)) sm7 (by first | decide | omega) (by omega) (by first | omega | exact hg _ _ | (unfold R32; omega)) (by first | omega | exact hg _ _ | (unfold R32; omega)) dX6_keep_38 ?_
        refine PP.iinc (L' := [_, _]) dX6_keep_39 rfl rfl rfl ?_
        refine PP.goto (tgt := 13) dX6_keep_42 (by decide) ?_
        refine ih _ (fun c h7 => by rw [up_ne h7]; exact f1 c h7) (fun j hj => ?_) (fun i hi => by rw [up_j (by omega)]; exact f3 i hi)
        by_cases e : j = o
        · subst e; rw [up_at, f1 4 (by decide)]; exact b4 j ho
        · rw [up_j (by omega)]; exact f2 j (by omega)
  refine PP.aload_n dX6_keep_0 rfl ?_
  refine PP.getfI dX6_keep_1 fl_X6_120 sm0 rfl ?_
  refine PP.iconst dX6_keep_4 ?_
  refine PP.icmp_ne (tgt := 11) (by first | omega | (unfold R32; omega)) (by first | omega | (unfold R32; omega)) dX6_keep_5 (by decide) (fun h5 => ?_) (fun h5 => ?_)
  · refine PP.iconst dX6_keep_11 ?_
    refine PP.istore_n (L' := [_, _]) dX6_keep_12 (Nat.le_of_ble_eq_true rfl) rfl rfl ?_
    rw [if_neg (by omega)]
    exact key (by omega) 0 (by omega) σ (fun c _ => rfl) (fun j hj => by omega) (fun i _ => rfl)
  · refine PP.bipush dX6_keep_8 (by decide) ?_
    refine PP.iret dX6_keep_10 rfl ?_
    rw [if_pos (by omega)]
    exact ⟨_, rfl, rfl, hA⟩
theorem x_back {σ : Sg} {A : ST} (hA : RepM σ A) (hW : WF A) : OK SHm mX6_back 20 [vR 0] σ (RP (fun v τ => v = (spBack A).1 ∧ RepM τ (spBack A).2)) := by
  obtain ⟨len, txt, T, n, row, und, kep, sn⟩ := A
  obtain ⟨b1, b2, b3, b4, b5, b6, b7⟩ := RepM_e.mp hA
  obtain ⟨w1, w2, w3, w4, w5, w6, w7, w8, w9⟩ := WF_e.mp hW
  have hn7 := w3.2.1
  have hsl := w3.2.2.1
  have hws := wsh_m w5
  have hst := w5.2.1
  have t3 : σ 2 3 = (n : Int) := (b3 3 (by decide)).trans w3.1
  have t0 := b3 0 (by decide)
  have r0 := b4 0 (by decide)
  have r1 : σ 4 1 = ((msk (wsh row) n : Nat) : Int) := (b4 1 (by decide)).trans hws
  have hl := b6.1
  have hl8 := b6.2.1
  refine OK.enter (L' := [vR 0, vN]) (by decide +kernel) (by simp [ent0]) rfl ?_
  rcases List.eq_nil_or_concat kep with rfl | ⟨Rs, r, eRs⟩
  · simp only [spBack, List.getLast?_nil]
    simp only [List.length_nil] at hl
    refine PP.aload_n dX6_back_0 rfl ?_
    refine PP.getfI dX6_back_1 fl_X6_120 sm0 rfl ?_
    refine PP.if_ne (tgt := 10) (by first | omega | (unfold R32; omega)) dX6_back_4 (by decide) (fun h4 => ?_) (fun h4 => ?_)
    · omega
    · refine PP.bipush dX6_back_7 (by decide) ?_
      refine PP.iret dX6_back_9 rfl ?_
      exact ⟨_, rfl, rfl, hA⟩
  · rw [List.concat_eq_append] at eRs
    subst eRs
    simp only [spBack, List.getLast?_concat, List.dropLast_concat, List.length_append, List.length_singleton]
    rw [show (Rs ++ [r]).length = Rs.length + 1 from by simp] at hl hl8
    have hlast := RLs_last b6
    have key : ∀ o, o ≤ 16 → ∀ σ1 : Sg, (∀ c, c ≠ 0 → c ≠ 4 → σ1 c = σ c) → (∀ j, j ≠ 10 → σ1 0 j = σ 0 j) → σ1 0 10 = (Rs.length : Int) → (∀ j, j < o → σ1 4 j = r j) → PP SHm mX6_back 20 22 [vR 0, vI (o : Int)] [] σ1 (RP (fun v τ => v = ((Rs.length + 1 : Nat) : Int) - 1 ∧ RepM τ (len, txt, T, n, r, [], Rs, sn))) := by
      refine loop_dn 16 ?_ ?_
      · intro σ1 f1 f2 f3 f4
        refine PP.iload_n dX6_back_22 rfl ?_
        refine PP.bipush dX6_back_23 (by decide) ?_
        refine PP.icmp_ge (tgt := 54) (by first | omega | (unfold R32; omega)) (by first | omega | (unfold R32; omega)) dX6_back_25 (by decide) (fun h25 => ?_) (fun h25 => ?_)
        · refine PP.aload_n dX6_back_54 rfl ?_
          refine PP.iconst dX6_back_55 ?_
          refine PP.putI dX6_back_56 fp_X6_117 sm0 rfl (by first | omega | (unfold R32; omega)) ?_
          refine PP.aload_n dX6_back_59 rfl ?_
          refine PP.getfI dX6_back_60 fl_X6_120 sm0 rfl ?_
          refine PP.eqI (y := (Rs.length : Int)) (by rw [up_j (by decide)]; exact f3) ?_
          refine PP.iret dX6_back_63 rfl ?_
          refine ⟨_, rfl, by omega, RepM_e.mpr ⟨by rw [up_j (by decide), f2 0 (by decide)]; exact b1, fun j hj => by rw [up_ne (by decide), f1 1 (by decide) (by decide)]; exact b2 j hj, mT_cong b3 (by rw [up_ne (by decide), f1 2 (by decide) (by decide)]), fun k hk => by rw [up_ne (by decide)]; exact f4 k hk, ⟨by rw [up_at]; rfl, by simp, fun k row j hk => by simp at hk⟩, RLs_init b6 (by rw [up_j (by decide)]; exact f3) (by rw [up_ne (by decide), f1 7 (by decide) (by decide)]), fun t ht => by rw [up_ne (by decide), f1 8 (by decide) (by decide)]; exact b7 t ht⟩⟩
        · omega
      · intro o ho ih σ1 f1 f2 f3 f4
        refine PP.rg (fun hg => ?_)
        have hv : σ1 7 (16 * Rs.length + o) = r o := by rw [f1 7 (by decide) (by decide)]; exact hlast o ho
        refine PP.iload_n dX6_back_22 rfl ?_
        refine PP.bipush dX6_back_23 (by decide) ?_
        refine PP.icmp_ge (tgt := 54) (by first | omega | exact hg _ _ | (unfold R32; omega)) (by first | omega | exact hg _ _ | (unfold R32; omega)) dX6_back_25 (by decide) (fun h25 => ?_) (fun h25 => ?_)
        · omega
        · refine PP.aload_n dX6_back_28 rfl ?_
          refine PP.getfR dX6_back_29 fl_X6_19 sm0 rfl ?_
          refine PP.iload_n dX6_back_32 rfl ?_
          refine PP.aload_n dX6_back_33 rfl ?_
          refine PP.getfR dX6_back_34 fl_X6_28 sm0 rfl ?_
          refine PP.bipush dX6_back_37 (by decide) ?_
          refine PP.aload_n dX6_back_39 rfl ?_
          refine PP.getfI dX6_back_40 fl_X6_120 sm0 rfl ?_
          refine PP.imul dX6_back_43 ?_
          refine PP.iload_n dX6_back_44 rfl ?_
          refine PP.iadd dX6_back_45 ?_
          refine PP.ialoadN (n := (16 * Rs.length + o)) sm7 (by first | decide | omega) (by omega) (by first | omega | exact hg _ _ | (unfold R32; omega)) dX6_back_46 ?_
          refine PP.iastoreN (n := o) sm4 (by first | decide | omega) (by first | rfl | omega) (by first | omega | exact hg _ _ | (unfold R32; omega)) (by first | omega | exact hg _ _ | (unfold R32; omega)) dX6_back_47 ?_
          refine PP.iinc (L' := [_, _]) dX6_back_48 rfl rfl rfl ?_
          refine PP.goto (tgt := 22) dX6_back_51 (by decide) ?_
          refine ih _ (fun c h0 h4 => by rw [up_ne h4]; exact f1 c h0 h4) (fun j hj => by rw [up_ne (by decide)]; exact f2 j hj) (by rw [up_ne (by decide)]; exact f3) (fun j hj => ?_)
          by_cases e : j = o
          · subst e; rw [up_at]; exact hv
          · rw [up_j e]; exact f4 j (by omega)
    refine PP.aload_n dX6_back_0 rfl ?_
    refine PP.getfI dX6_back_1 fl_X6_120 sm0 rfl ?_
    refine PP.if_ne (tgt := 10) (by first | omega | (unfold R32; omega)) dX6_back_4 (by decide) (fun h4 => ?_) (fun h4 => ?_)
    · refine PP.aload_n dX6_back_10 rfl ?_
      refine PP.dup rfl dX6_back_11 ?_
      refine PP.getfI dX6_back_12 fl_X6_120 sm0 rfl ?_
      refine PP.iconst dX6_back_15 ?_
      refine PP.isub dX6_back_16 ?_
      refine PP.putI dX6_back_17 fp_X6_120 sm0 rfl (by first | omega | (unfold R32; omega)) ?_
      refine PP.iconst dX6_back_20 ?_
      refine PP.istore_n (L' := [_, _]) dX6_back_21 (Nat.le_of_ble_eq_true rfl) rfl rfl ?_
      exact key 0 (by omega) _ (fun c h0 _ => up_ne h0) (fun j hj => up_j hj) (by rw [up_at, hl]; omega) (fun j hj => by omega)
    · omega
theorem m_seenMany {σ : Sg} {sn : Nat → Int} {n : Nat} (hS : ∀ t, t < 7 → σ 8 t = sn t) (hr : ∀ t, sn t = -4 ∨ sn t = 0 ∨ sn t = 1) (h9 : ∀ t, n ≤ t → sn t = -4) (hn : n ≤ 7) : OK SHm mX6_seenMany 1 [vR 0] σ (RV (cnt (snP sn) n : Nat) σ) := by
  rw [← cnt_ext (p := snP sn) (n := n) (m := 7) (fun u h1 h2 => by simp only [snP]; rw [h9 u h1]; rfl) hn]
  refine OK.enter (L' := [vR 0, vN, vN]) (by decide +kernel) (by simp [ent0]) rfl ?_
  have key : ∀ o, o ≤ 7 → PP SHm mX6_seenMany 1 4 [vR 0, vI (cnt (snP sn) o : Nat), vI (o : Int)] [] σ (RV (cnt (snP sn) 7 : Nat) σ) := by
    refine loop_dn 7 ?_ ?_
    · refine PP.iload_n dX6_seenMany_4 rfl ?_
      refine PP.bipush dX6_seenMany_5 (by decide) ?_
      refine PP.icmp_ge (tgt := 33) (by first | omega | (unfold R32; omega)) (by first | omega | (unfold R32; omega)) dX6_seenMany_7 (by decide) (fun h7 => ?_) (fun h7 => ?_)
      · refine PP.iload_n dX6_seenMany_33 rfl ?_
        refine PP.iret dX6_seenMany_34 rfl ?_
        exact RVe rfl
      · omega
    · intro o ho ih
      have s1 := hS o ho
      have s2 := hr o
      have hp : snP sn o = true ↔ 0 ≤ sn o := by simp [snP]
      refine PP.iload_n dX6_seenMany_4 rfl ?_
      refine PP.bipush dX6_seenMany_5 (by decide) ?_
      refine PP.icmp_ge (tgt := 33) (by first | omega | (unfold R32; omega)) (by first | omega | (unfold R32; omega)) dX6_seenMany_7 (by decide) (fun h7 => ?_) (fun h7 => ?_)
      · omega
      · refine PP.iload_n dX6_seenMany_10 rfl ?_
        refine PP.aload_n dX6_seenMany_11 rfl ?_
        refine PP.getfR dX6_seenMany_12 fl_X6_31 sm0 rfl ?_
        refine PP.iload_n dX6_seenMany_15 rfl ?_
        refine PP.ialoadN (n := o) sm8 (by first | decide | omega) (by first | rfl | omega) (by first | omega | (unfold R32; omega)) dX6_seenMany_16 ?_
        refine PP.if_lt (tgt := 24) (by first | omega | (unfold R32; omega)) dX6_seenMany_17 (by decide) (fun h17 => ?_) (fun h17 => ?_)
        · refine PP.iconst dX6_seenMany_24 ?_
          refine PP.iadd dX6_seenMany_25 ?_
          refine PP.istore_n (L' := [_, _, _]) dX6_seenMany_26 (Nat.le_of_ble_eq_true rfl) rfl rfl ?_
          refine PP.iinc (L' := [_, _, _]) dX6_seenMany_27 rfl rfl rfl ?_
          refine PP.goto (tgt := 4) dX6_seenMany_30 (by decide) ?_
          first
          | (rw [cnt_s1 (bt hp (by omega))] at ih; exact ih)
          | (rw [cnt_s0 (bf hp (by omega))] at ih; exact PP.eqL (by simp) ih)
        · refine PP.iconst dX6_seenMany_20 ?_
          refine PP.goto (tgt := 25) dX6_seenMany_21 (by decide) ?_
          refine PP.iadd dX6_seenMany_25 ?_
          refine PP.istore_n (L' := [_, _, _]) dX6_seenMany_26 (Nat.le_of_ble_eq_true rfl) rfl rfl ?_
          refine PP.iinc (L' := [_, _, _]) dX6_seenMany_27 rfl rfl rfl ?_
          refine PP.goto (tgt := 4) dX6_seenMany_30 (by decide) ?_
          first
          | (rw [cnt_s1 (bt hp (by omega))] at ih; exact ih)
          | (rw [cnt_s0 (bf hp (by omega))] at ih; exact PP.eqL (by simp) ih)
  refine PP.iconst dX6_seenMany_0 ?_
  refine PP.istore_n (L' := [_, _, _]) dX6_seenMany_1 (Nat.le_of_ble_eq_true rfl) rfl rfl ?_
  refine PP.iconst dX6_seenMany_2 ?_
  refine PP.istore_n (L' := [_, _, _]) dX6_seenMany_3 (Nat.le_of_ble_eq_true rfl) rfl rfl ?_
  exact key 0 (by omega)
theorem x_count {σ : Sg} {A : ST} {what : Int} (hA : RepM σ A) (hW : WF A) (hx : R32 what) : OK SHm mX6_count 20 [vR 0, vI what] σ (RP (fun v τ => v = qCount A what ∧ RepM τ A)) := by
  obtain ⟨len, txt, T, n, row, und, kep, sn⟩ := A
  obtain ⟨b1, b2, b3, b4, b5, b6, b7⟩ := RepM_e.mp hA
  obtain ⟨w1, w2, w3, w4, w5, w6, w7, w8, w9⟩ := WF_e.mp hW
  have hn7 := w3.2.1
  have hsl := w3.2.2.1
  have hws := wsh_m w5
  have hst := w5.2.1
  have t3 : σ 2 3 = (n : Int) := (b3 3 (by decide)).trans w3.1
  have t0 := b3 0 (by decide)
  have r0 := b4 0 (by decide)
  have r1 : σ 4 1 = ((msk (wsh row) n : Nat) : Int) := (b4 1 (by decide)).trans hws
  have t1 := b3 1 (by decide)
  have t2 := b3 2 (by decide)
  have h7 := msk_128 (wsh row) hn7
  simp only [qCount]
  refine OK.enter (L' := [vR 0, vI what]) (by decide +kernel) (by simp [ent0]) rfl ?_
  refine PP.iload_n dX6_count_0 rfl ?_
  by_cases hs1_0 : what = 0
  · refine PP.tabI (i := 0) (off := 59) (tgt := 60) (by omega) (by omega) (by decide) (by first | assumption | omega) dX6_count_1 rfl (by decide) ?_
    refine PP.aload_n dX6_count_60 rfl ?_
    refine PP.getfR dX6_count_61 fl_X6_13 sm0 rfl ?_
    refine PP.iconst dX6_count_64 ?_
    refine PP.ialoadN (n := 3) sm2 (by first | decide | omega) (by first | rfl | omega) (by first | assumption | omega) dX6_count_65 ?_
    refine PP.iret dX6_count_66 rfl ?_
    rw [if_pos (by omega)]; exact ⟨_, rfl, t3, hA⟩
  by_cases hs1_1 : what = 1
  · refine PP.tabI (i := 1) (off := 66) (tgt := 67) (by omega) (by omega) (by decide) (by first | assumption | omega) dX6_count_1 rfl (by decide) ?_
    refine PP.aload_n dX6_count_67 rfl ?_
    refine PP.getfR dX6_count_68 fl_X6_13 sm0 rfl ?_
    refine PP.iconst dX6_count_71 ?_
    refine PP.ialoadN (n := 0) sm2 (by first | decide | omega) (by first | rfl | omega) (by first | assumption | omega) dX6_count_72 ?_
    refine PP.iret dX6_count_73 rfl ?_
    rw [if_neg (by omega), if_pos (by omega)]; exact ⟨_, rfl, t0, hA⟩
  by_cases hs1_2 : what = 2
  · refine PP.tabI (i := 2) (off := 73) (tgt := 74) (by omega) (by omega) (by decide) (by first | assumption | omega) dX6_count_1 rfl (by decide) ?_
    refine PP.aload_n dX6_count_74 rfl ?_
    refine PP.getfR dX6_count_75 fl_X6_13 sm0 rfl ?_
    refine PP.iconst dX6_count_78 ?_
    refine PP.ialoadN (n := 1) sm2 (by first | decide | omega) (by first | rfl | omega) (by first | assumption | omega) dX6_count_79 ?_
    refine PP.iret dX6_count_80 rfl ?_
    rw [if_neg (by omega), if_neg (by omega), if_pos (by omega)]; exact ⟨_, rfl, t1, hA⟩
  by_cases hs1_3 : what = 3
  · refine PP.tabI (i := 3) (off := 80) (tgt := 81) (by omega) (by omega) (by decide) (by first | assumption | omega) dX6_count_1 rfl (by decide) ?_
    refine PP.aload_n dX6_count_81 rfl ?_
    refine PP.getfR dX6_count_82 fl_X6_13 sm0 rfl ?_
    refine PP.iconst dX6_count_85 ?_
    refine PP.ialoadN (n := 2) sm2 (by first | decide | omega) (by first | rfl | omega) (by first | assumption | omega) dX6_count_86 ?_
    refine PP.iret dX6_count_87 rfl ?_
    rw [if_neg (by omega), if_neg (by omega), if_neg (by omega), if_pos (by omega)]; exact ⟨_, rfl, t2, hA⟩
  by_cases hs1_4 : what = 4
  · refine PP.tabI (i := 4) (off := 87) (tgt := 88) (by omega) (by omega) (by decide) (by first | assumption | omega) dX6_count_1 rfl (by decide) ?_
    refine PP.aload_n dX6_count_88 rfl ?_
    refine PP.getfR dX6_count_89 fl_X6_19 sm0 rfl ?_
    refine PP.iconst dX6_count_92 ?_
    refine PP.ialoadN (n := 0) sm4 (by first | decide | omega) (by first | rfl | omega) (by first | assumption | omega) dX6_count_93 ?_
    refine PP.iret dX6_count_94 rfl ?_
    rw [if_neg (by omega), if_neg (by omega), if_neg (by omega), if_neg (by omega), if_pos (by omega)]; exact ⟨_, rfl, r0, hA⟩
  by_cases hs1_5 : what = 5
  · refine PP.tabI (i := 5) (off := 94) (tgt := 95) (by omega) (by omega) (by decide) (by first | assumption | omega) dX6_count_1 rfl (by decide) ?_
    refine PP.aload_n dX6_count_95 rfl ?_
    refine PP.callViP (m_manyIn w3 b3 w5 b4) dX6_count_96 vl_X6_176 sm0 rfl rfl rfl rfl (Nat.le_of_ble_eq_true rfl) (by first | exact Nat.le_of_ble_eq_true rfl | omega) (fun v96 τ96 hq96 => ?_)
    obtain ⟨p1, p2⟩ := hq96
    refine PP.iret dX6_count_99 rfl ?_
    rw [if_neg (by omega), if_neg (by omega), if_neg (by omega), if_neg (by omega), if_neg (by omega), if_pos (by omega)]; exact ⟨_, rfl, p1, RepM_9 hA (fun c hc => p2 c (by omega) (by omega) (by omega))⟩
  by_cases hs1_6 : what = 6
  · refine PP.tabI (i := 6) (off := 99) (tgt := 100) (by omega) (by omega) (by decide) (by first | assumption | omega) dX6_count_1 rfl (by decide) ?_
    refine PP.aload_n dX6_count_100 rfl ?_
    refine PP.getfR dX6_count_101 fl_X6_19 sm0 rfl ?_
    refine PP.iconst dX6_count_104 ?_
    refine PP.ialoadN (n := 1) sm4 (by first | decide | omega) (by first | rfl | omega) (by first | assumption | omega) dX6_count_105 ?_
    refine PP.eqI r1 ?_
    refine PP.callSi (m_ones h7) dX6_count_106 sl_X6_164 rfl rfl (Nat.le_of_ble_eq_true rfl) (by first | exact Nat.le_of_ble_eq_true rfl | omega) ?_
    refine PP.iret dX6_count_109 rfl ?_
    rw [if_neg (by omega), if_neg (by omega), if_neg (by omega), if_neg (by omega), if_neg (by omega), if_neg (by omega), if_pos (by omega)]; exact ⟨_, rfl, by rw [pc7_msk hn7], hA⟩
  by_cases hs1_7 : what = 7
  · refine PP.tabI (i := 7) (off := 109) (tgt := 110) (by omega) (by omega) (by decide) (by first | assumption | omega) dX6_count_1 rfl (by decide) ?_
    refine PP.aload_n dX6_count_110 rfl ?_
    refine PP.callVi (m_seenMany b7 w8 w9 hn7) dX6_count_111 vl_X6_206 sm0 rfl rfl rfl rfl (Nat.le_of_ble_eq_true rfl) (by first | exact Nat.le_of_ble_eq_true rfl | omega) ?_
    refine PP.iret dX6_count_114 rfl ?_
    rw [if_neg (by omega), if_neg (by omega), if_neg (by omega), if_neg (by omega), if_neg (by omega), if_neg (by omega), if_neg (by omega), if_pos (by omega)]; exact ⟨_, rfl, rfl, hA⟩
  by_cases hs1_8 : what = 8
  · refine PP.tabI (i := 8) (off := 114) (tgt := 115) (by omega) (by omega) (by decide) (by first | assumption | omega) dX6_count_1 rfl (by decide) ?_
    refine PP.aload_n dX6_count_115 rfl ?_
    refine PP.getfI dX6_count_116 fl_X6_117 sm0 rfl ?_
    refine PP.iret dX6_count_119 rfl ?_
    rw [if_neg (by omega), if_neg (by omega), if_neg (by omega), if_neg (by omega), if_neg (by omega), if_neg (by omega), if_neg (by omega), if_neg (by omega), if_pos (by omega)]; exact ⟨_, rfl, b5.1, hA⟩
  by_cases hs1_9 : what = 9
  · refine PP.tabI (i := 9) (off := 119) (tgt := 120) (by omega) (by omega) (by decide) (by first | assumption | omega) dX6_count_1 rfl (by decide) ?_
    refine PP.aload_n dX6_count_120 rfl ?_
    refine PP.getfI dX6_count_121 fl_X6_120 sm0 rfl ?_
    refine PP.iret dX6_count_124 rfl ?_
    rw [if_neg (by omega), if_neg (by omega), if_neg (by omega), if_neg (by omega), if_neg (by omega), if_neg (by omega), if_neg (by omega), if_neg (by omega), if_neg (by omega), if_pos (by omega)]; exact ⟨_, rfl, b6.1, hA⟩
  by_cases hs1_10 : what = 10
  · refine PP.tabI (i := 10) (off := 124) (tgt := 125) (by omega) (by omega) (by decide) (by first | assumption | omega) dX6_count_1 rfl (by decide) ?_
    refine PP.aload_n dX6_count_125 rfl ?_
    refine PP.getfI dX6_count_126 fl_X6_74 sm0 rfl ?_
    refine PP.iret dX6_count_129 rfl ?_
    rw [if_neg (by omega), if_neg (by omega), if_neg (by omega), if_neg (by omega), if_neg (by omega), if_neg (by omega), if_neg (by omega), if_neg (by omega), if_neg (by omega), if_neg (by omega), if_pos (by omega)]; exact ⟨_, rfl, b1, hA⟩
  refine PP.tabO (tgt := 130) (by omega) (by first | assumption | omega) dX6_count_1 (by decide) ?_
  refine PP.iconst dX6_count_130 ?_
  refine PP.iret dX6_count_131 rfl ?_
  rw [if_neg (by omega), if_neg (by omega), if_neg (by omega), if_neg (by omega), if_neg (by omega), if_neg (by omega), if_neg (by omega), if_neg (by omega), if_neg (by omega), if_neg (by omega), if_neg (by omega)]; exact ⟨_, rfl, rfl, hA⟩
theorem x_seen {σ : Sg} {A : ST} {t c : Int} (hA : RepM σ A) (hW : WF A) (hx : R32 t) (hx2 : R32 c) : OK SHm mX6_seen 20 [vR 0, vI t, vI c] σ (RP (fun v τ => v = (spSeen A t c).1 ∧ RepM τ (spSeen A t c).2)) := by
  obtain ⟨len, txt, T, n, row, und, kep, sn⟩ := A
  obtain ⟨b1, b2, b3, b4, b5, b6, b7⟩ := RepM_e.mp hA
  obtain ⟨w1, w2, w3, w4, w5, w6, w7, w8, w9⟩ := WF_e.mp hW
  have hn7 := w3.2.1
  have hsl := w3.2.2.1
  have hws := wsh_m w5
  have hst := w5.2.1
  have t3 : σ 2 3 = (n : Int) := (b3 3 (by decide)).trans w3.1
  have t0 := b3 0 (by decide)
  have r0 := b4 0 (by decide)
  have r1 : σ 4 1 = ((msk (wsh row) n : Nat) : Int) := (b4 1 (by decide)).trans hws
  simp only [spSeen, isT, isZ]
  refine OK.enter (L' := [vR 0, vI t, vI c]) (by decide +kernel) (by simp [ent0]) rfl ?_
  by_cases ht : (0 ≤ t ∧ t < (n : Int)) ∧ (c = 0 ∨ c = 1)
  · obtain ⟨j, rfl⟩ : ∃ j : Nat, t = (j : Int) := ⟨t.toNat, by omega⟩
    have hj : j < n := by omega
    have q2 := b4 (2 + j) (by omega)
    have q9 := b4 (9 + j) (by omega)
    have hrg := wfR_rng w3 w5 hj
    obtain ⟨x1, x2, x3, x4⟩ := w3.2.2.2.2.2.1 j hj
    have hsj := w8 j
    have s8 := b7 j (by omega)
    rw [if_neg (fun h => h ht), Int.toNat_natCast]
    have hs3 : ∀ u, uf sn j c u = -4 ∨ uf sn j c u = 0 ∨ uf sn j c u = 1 := fun u => by
      by_cases e : u = j
      · subst e; rw [uf_at]; omega
      · rw [uf_ne e]; exact w8 u
    have hsn' : ∀ u, u < 7 → up σ 8 j c 8 u = uf sn j c u := fun u hu => by
      by_cases e : u = j
      · subst e; rw [up_at, uf_at]
      · rw [up_j e, uf_ne e]; exact b7 u hu
    refine PP.aload_n dX6_seen_0 rfl ?_
    refine PP.iload_n dX6_seen_1 rfl ?_
    refine PP.callVi (m_isThing w3 b3 hx) dX6_seen_2 vl_X6_150 sm0 rfl rfl rfl rfl (Nat.le_of_ble_eq_true rfl) (by first | exact Nat.le_of_ble_eq_true rfl | omega) ?_
    refine PP.if_eq (tgt := 18) (by first | omega | assumption | exact b2i_R _ | (unfold R32; omega)) dX6_seen_5 (by decide) (fun h5 => ?_) (fun h5 => ?_)
    · rw [decide_eq_true ht.1] at h5; cases h5
    · refine PP.iload_n dX6_seen_8 rfl ?_
      refine PP.i2l (by first | omega | assumption | exact b2i_R _ | (unfold R32; omega)) dX6_seen_9 ?_
      refine PP.lconst (z := 0) dX6_seen_10 (by decide) ?_
      refine PP.lconst (z := 1) dX6_seen_11 (by decide) ?_
      refine PP.callSi (m_in hx2 (by unfold R32; omega) (by unfold R32; omega)) dX6_seen_12 sl_X6_70 rfl rfl (Nat.le_of_ble_eq_true rfl) (by first | exact Nat.le_of_ble_eq_true rfl | omega) ?_
      refine PP.if_ne (tgt := 20) (by first | omega | assumption | exact b2i_R _ | (unfold R32; omega)) dX6_seen_15 (by decide) (fun h15 => ?_) (fun h15 => ?_)
      · refine PP.aload_n dX6_seen_20 rfl ?_
        refine PP.getfR dX6_seen_21 fl_X6_19 sm0 rfl ?_
        refine PP.iconst dX6_seen_24 ?_
        refine PP.iload_n dX6_seen_25 rfl ?_
        refine PP.iadd dX6_seen_26 ?_
        refine PP.ialoadN (n := (2 + j)) sm4 (by first | decide | omega) (by first | rfl | omega) (by first | omega | assumption | exact b2i_R _ | (unfold R32; omega)) dX6_seen_27 ?_
        refine PP.if_lt (tgt := 40) (by first | omega | assumption | exact b2i_R _ | (unfold R32; omega)) dX6_seen_28 (by decide) (fun h28 => ?_) (fun h28 => ?_)
        · refine PP.bipush dX6_seen_40 (by decide) ?_
          refine PP.iret dX6_seen_42 rfl ?_
          rw [if_pos (by omega)]
          exact ⟨_, rfl, rfl, hA⟩
        · refine PP.aload_n dX6_seen_31 rfl ?_
          refine PP.getfR dX6_seen_32 fl_X6_31 sm0 rfl ?_
          refine PP.iload_n dX6_seen_35 rfl ?_
          refine PP.ialoadN (n := j) sm8 (by first | decide | omega) (by first | rfl | omega) (by first | omega | assumption | exact b2i_R _ | (unfold R32; omega)) dX6_seen_36 ?_
          refine PP.if_lt (tgt := 43) (by first | omega | assumption | exact b2i_R _ | (unfold R32; omega)) dX6_seen_37 (by decide) (fun h37 => ?_) (fun h37 => ?_)
          · rw [if_neg (by omega)]
            refine PP.aload_n dX6_seen_43 rfl ?_
            refine PP.getfR dX6_seen_44 fl_X6_31 sm0 rfl ?_
            refine PP.iload_n dX6_seen_47 rfl ?_
            refine PP.iload_n dX6_seen_48 rfl ?_
            refine PP.iastoreN (n := j) sm8 (by first | decide | omega) (by first | rfl | omega) (by first | omega | assumption | exact b2i_R _ | (unfold R32; omega)) (by first | omega | assumption | exact b2i_R _ | (unfold R32; omega)) dX6_seen_49 ?_
            refine PP.aload_n dX6_seen_50 rfl ?_
            refine PP.callVi (m_seenMany (n := n) hsn' hs3 (fun u hu => by rw [uf_ne (by omega)]; exact w9 u hu) hn7) dX6_seen_51 vl_X6_206 sm0 rfl rfl rfl rfl (Nat.le_of_ble_eq_true rfl) (by first | exact Nat.le_of_ble_eq_true rfl | omega) ?_
            refine PP.iret dX6_seen_54 rfl ?_
            exact ⟨_, rfl, rfl, RepM_e.mpr ⟨by rw [up_ne (by decide)]; exact b1, fun i hi => by rw [up_ne (by decide)]; exact b2 i hi, mT_cong b3 (up_ne (by decide)), fun k hk => by rw [up_ne (by decide)]; exact b4 k hk, RLs_cong b5 (by rw [up_ne (by decide)]) (up_ne (by decide)), RLs_cong b6 (by rw [up_ne (by decide)]) (up_ne (by decide)), hsn'⟩⟩
          · refine PP.bipush dX6_seen_40 (by decide) ?_
            refine PP.iret dX6_seen_42 rfl ?_
            rw [if_pos (by omega)]
            exact ⟨_, rfl, rfl, hA⟩
      · rw [decide_eq_true (by omega)] at h15; cases h15
  · rw [if_pos ht]
    refine PP.aload_n dX6_seen_0 rfl ?_
    refine PP.iload_n dX6_seen_1 rfl ?_
    refine PP.callVi (m_isThing w3 b3 hx) dX6_seen_2 vl_X6_150 sm0 rfl rfl rfl rfl (Nat.le_of_ble_eq_true rfl) (by first | exact Nat.le_of_ble_eq_true rfl | omega) ?_
    refine PP.if_eq (tgt := 18) (by first | omega | assumption | exact b2i_R _ | (unfold R32; omega)) dX6_seen_5 (by decide) (fun h5 => ?_) (fun h5 => ?_)
    · refine PP.iconst dX6_seen_18 ?_
      refine PP.iret dX6_seen_19 rfl ?_
      exact ⟨_, rfl, rfl, hA⟩
    · refine PP.iload_n dX6_seen_8 rfl ?_
      refine PP.i2l (by first | omega | assumption | exact b2i_R _ | (unfold R32; omega)) dX6_seen_9 ?_
      refine PP.lconst (z := 0) dX6_seen_10 (by decide) ?_
      refine PP.lconst (z := 1) dX6_seen_11 (by decide) ?_
      refine PP.callSi (m_in hx2 (by unfold R32; omega) (by unfold R32; omega)) dX6_seen_12 sl_X6_70 rfl rfl (Nat.le_of_ble_eq_true rfl) (by first | exact Nat.le_of_ble_eq_true rfl | omega) ?_
      refine PP.if_ne (tgt := 20) (by first | omega | assumption | exact b2i_R _ | (unfold R32; omega)) dX6_seen_15 (by decide) (fun h15 => ?_) (fun h15 => ?_)
      · exact absurd ⟨of_decide_eq_true (b2i_n.mp h5), by have := of_decide_eq_true (b2i_n.mp h15); omega⟩ ht
      · refine PP.iconst dX6_seen_18 ?_
        refine PP.iret dX6_seen_19 rfl ?_
        exact ⟨_, rfl, rfl, hA⟩
theorem x_forget {σ : Sg} {A : ST} (hA : RepM σ A) (hW : WF A) : OK SHm mX6_forget 20 [vR 0] σ (RP (fun v τ => v = (spForget A).1 ∧ RepM τ (spForget A).2)) := by
  obtain ⟨len, txt, T, n, row, und, kep, sn⟩ := A
  obtain ⟨b1, b2, b3, b4, b5, b6, b7⟩ := RepM_e.mp hA
  obtain ⟨w1, w2, w3, w4, w5, w6, w7, w8, w9⟩ := WF_e.mp hW
  have hn7 := w3.2.1
  have hsl := w3.2.2.1
  have hws := wsh_m w5
  have hst := w5.2.1
  have t3 : σ 2 3 = (n : Int) := (b3 3 (by decide)).trans w3.1
  have t0 := b3 0 (by decide)
  have r0 := b4 0 (by decide)
  have r1 : σ 4 1 = ((msk (wsh row) n : Nat) : Int) := (b4 1 (by decide)).trans hws
  simp only [spForget]
  refine OK.enter (L' := [vR 0, vN, vN]) (by decide +kernel) (by simp [ent0]) rfl ?_
  have key : ∀ o, o ≤ 7 → ∀ σ1 : Sg, (∀ c, c ≠ 8 → σ1 c = σ c) → (∀ j, j < o → σ1 8 j = -4) → PP SHm mX6_forget 20 7 [vR 0, vI (cnt (snP sn) n : Nat), vI (o : Int)] [] σ1 (RP (fun v τ => v = ((cnt (snP sn) n : Nat) : Int) ∧ RepM τ (len, txt, T, n, row, und, kep, fun _ => -4))) := by
    refine loop_dn 7 ?_ ?_
    · intro σ1 f1 f2
      refine PP.iload_n dX6_forget_7 rfl ?_
      refine PP.bipush dX6_forget_8 (by decide) ?_
      refine PP.icmp_ge (tgt := 27) (by first | omega | (unfold R32; omega)) (by first | omega | (unfold R32; omega)) dX6_forget_10 (by decide) (fun h10 => ?_) (fun h10 => ?_)
      · refine PP.iload_n dX6_forget_27 rfl ?_
        refine PP.iret dX6_forget_28 rfl ?_
        exact ⟨_, rfl, rfl, RepM_e.mpr ⟨by rw [f1 0 (by decide)]; exact b1, fun i hi => by rw [f1 1 (by decide)]; exact b2 i hi, mT_cong b3 (f1 2 (by decide)), fun k hk => by rw [f1 4 (by decide)]; exact b4 k hk, RLs_cong b5 (by rw [f1 0 (by decide)]) (f1 6 (by decide)), RLs_cong b6 (by rw [f1 0 (by decide)]) (f1 7 (by decide)), f2⟩⟩
      · omega
    · intro o ho ih σ1 f1 f2
      refine PP.iload_n dX6_forget_7 rfl ?_
      refine PP.bipush dX6_forget_8 (by decide) ?_
      refine PP.icmp_ge (tgt := 27) (by first | omega | (unfold R32; omega)) (by first | omega | (unfold R32; omega)) dX6_forget_10 (by decide) (fun h10 => ?_) (fun h10 => ?_)
      · omega
      · refine PP.aload_n dX6_forget_13 rfl ?_
        refine PP.getfR dX6_forget_14 fl_X6_31 sm0 rfl ?_
        refine PP.iload_n dX6_forget_17 rfl ?_
        refine PP.bipush dX6_forget_18 (by decide) ?_
        refine PP.iastoreN (n := o) sm8 (by first | decide | omega) (by first | rfl | omega) (by first | omega | (unfold R32; omega)) (by first | omega | (unfold R32; omega)) dX6_forget_20 ?_
        refine PP.iinc (L' := [_, _, _]) dX6_forget_21 rfl rfl rfl ?_
        refine PP.goto (tgt := 7) dX6_forget_24 (by decide) ?_
        refine ih _ (fun c h8 => by rw [up_ne h8]; exact f1 c h8) (fun j hj => ?_)
        by_cases e : j = o
        · subst e; rw [up_at]
        · rw [up_j e]; exact f2 j (by omega)
  refine PP.aload_n dX6_forget_0 rfl ?_
  refine PP.callVi (m_seenMany b7 w8 w9 hn7) dX6_forget_1 vl_X6_206 sm0 rfl rfl rfl rfl (Nat.le_of_ble_eq_true rfl) (by first | exact Nat.le_of_ble_eq_true rfl | omega) ?_
  refine PP.istore_n (L' := [_, _, _]) dX6_forget_4 (Nat.le_of_ble_eq_true rfl) rfl rfl ?_
  refine PP.iconst dX6_forget_5 ?_
  refine PP.istore_n (L' := [_, _, _]) dX6_forget_6 (Nat.le_of_ble_eq_true rfl) rfl rfl ?_
  exact key 0 (by omega) σ (fun c _ => rfl) (fun j hj => by omega)
