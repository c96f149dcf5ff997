/-! the model: orders, by hand -/
theorem flt_le (p : Nat → Bool) (o : Nat) : ((List.range o).filter p).length ≤ o := by rw [flt_len]; exact cnt_le p o
theorem m_takeAll {σ : Sg} {T : Nat → Int} {n : Nat} {row : Nat → Int} (hw : wfT T n) (hT : mT σ T) (hr : wfR T n row) (hN : ∀ k, k < 16 → σ 4 k = row k) : OK SHm mX6_takeAll 2 [vR 0] σ (RPn (fun τ => (∀ c, c ≠ 0 → c ≠ 13 → τ c = σ c) ∧ (∀ j, j ≠ 19 → τ 0 j = σ 0 j) ∧ τ 0 19 = (((List.range n).filter (fun t => !wsh row t)).length : Int) ∧ BL τ 13 ((List.range n).filter (fun t => !wsh row t)))) := by
  have t3 : σ 2 3 = (n : Int) := (hT 3 (by decide)).trans hw.1
  have hn7 := hw.2.1
  have r1 : σ 4 1 = ((msk (wsh row) n : Nat) : Int) := (hN 1 (by decide)).trans (wsh_m hr)
  refine OK.enter (L' := [vR 0, vN]) (by decide +kernel) (by simp [ent0]) rfl ?_
  have key : ∀ o, o ≤ n → ∀ σ1 : Sg, (∀ c, c ≠ 0 → c ≠ 13 → σ1 c = σ c) → (∀ j, j ≠ 19 → σ1 0 j = σ 0 j) → σ1 0 19 = (((List.range o).filter (fun t => !wsh row t)).length : Int) → BL σ1 13 ((List.range o).filter (fun t => !wsh row t)) → PP SHm mX6_takeAll 2 7 [vR 0, vI (o : Int)] [] σ1 (RPn (fun τ => (∀ c, c ≠ 0 → c ≠ 13 → τ c = σ c) ∧ (∀ j, j ≠ 19 → τ 0 j = σ 0 j) ∧ τ 0 19 = (((List.range n).filter (fun t => !wsh row t)).length : Int) ∧ BL τ 13 ((List.range n).filter (fun t => !wsh row t)))) := by
    refine loop_dn n ?_ ?_
    · intro σ1 f1 f2 f3 f4
      have t3' : σ1 2 3 = (n : Int) := by rw [f1 2 (by decide) (by decide)]; exact t3
      refine PP.iload_n dX6_takeAll_7 rfl ?_
      refine PP.aload_n dX6_takeAll_8 rfl ?_
      refine PP.getfR dX6_takeAll_9 fl_X6_13 sm0 rfl ?_
      refine PP.iconst dX6_takeAll_12 ?_
      refine PP.ialoadN (n := 3) sm2 (by first | decide | omega) (by first | rfl | omega) (by first | omega | (unfold R32; omega)) dX6_takeAll_13 ?_
      refine PP.icmp_ge (tgt := 56) (by first | omega | (unfold R32; omega)) (by first | omega | (unfold R32; omega)) dX6_takeAll_14 (by decide) (fun h14 => ?_) (fun h14 => ?_)
      · refine PP.vret dX6_takeAll_56 rfl ?_
        exact ⟨rfl, f1, f2, f3, f4⟩
      · omega
    · intro o ho ih σ1 f1 f2 f3 f4
      have t3' : σ1 2 3 = (n : Int) := by rw [f1 2 (by decide) (by decide)]; exact t3
      have r1' : σ1 4 1 = ((msk (wsh row) n : Nat) : Int) := by rw [f1 4 (by decide) (by decide)]; exact r1
      have hle := flt_le (fun t => !wsh row t) o
      have ih1 : wsh row o = true → PP SHm mX6_takeAll 2 7 [vR 0, vI ((o : Int) + 1)] [] σ1 (RPn (fun τ => (∀ c, c ≠ 0 → c ≠ 13 → τ c = σ c) ∧ (∀ j, j ≠ 19 → τ 0 j = σ 0 j) ∧ τ 0 19 = (((List.range n).filter (fun t => !wsh row t)).length : Int) ∧ BL τ 13 ((List.range n).filter (fun t => !wsh row t)))) := fun h => by
        rw [flt_s0 (lf := fun t => !wsh row t) (by simp [h])] at ih
        exact ih σ1 f1 f2 f3 f4
      have ih2 : wsh row o = false → PP SHm mX6_takeAll 2 7 [vR 0, vI ((o : Int) + 1)] [] (up (up σ1 13 ((List.range o).filter (fun t => !wsh row t)).length (o : Int)) 0 19 ((((List.range o).filter (fun t => !wsh row t)).length : Int) + 1)) (RPn (fun τ => (∀ c, c ≠ 0 → c ≠ 13 → τ c = σ c) ∧ (∀ j, j ≠ 19 → τ 0 j = σ 0 j) ∧ τ 0 19 = (((List.range n).filter (fun t => !wsh row t)).length : Int) ∧ BL τ 13 ((List.range n).filter (fun t => !wsh row t)))) := fun h => by
        rw [flt_s1 (lf := fun t => !wsh row t) (by simp [h])] at ih
        refine ih _ (fun c h0 h13 => by rw [up_ne h0, up_ne h13]; exact f1 c h0 h13) (fun j hj => by rw [up_j hj, up_ne (by decide)]; exact f2 j hj) (by rw [up_at]; simp) ?_
        refine BL_app (BL_cong f4 (fun i hi => by rw [up_ne (by decide), up_j (by omega)])) (by rw [up_ne (by decide), up_at])
      clear ih
      generalize ((List.range o).filter (fun t => !wsh row t)).length = L0 at *
      refine PP.iload_n dX6_takeAll_7 rfl ?_
      refine PP.aload_n dX6_takeAll_8 rfl ?_
      refine PP.getfR dX6_takeAll_9 fl_X6_13 sm0 rfl ?_
      refine PP.iconst dX6_takeAll_12 ?_
      refine PP.ialoadN (n := 3) sm2 (by first | decide | omega) (by first | rfl | omega) (by first | omega | exact b2i_R _ | (unfold R32; omega)) dX6_takeAll_13 ?_
      refine PP.icmp_ge (tgt := 56) (by first | omega | exact b2i_R _ | (unfold R32; omega)) (by first | omega | exact b2i_R _ | (unfold R32; omega)) dX6_takeAll_14 (by decide) (fun h14 => ?_) (fun h14 => ?_)
      · omega
      · refine PP.aload_n dX6_takeAll_17 rfl ?_
        refine PP.getfR dX6_takeAll_18 fl_X6_19 sm0 rfl ?_
        refine PP.iconst dX6_takeAll_21 ?_
        refine PP.ialoadN (n := 1) sm4 (by first | decide | omega) (by first | rfl | omega) (by first | omega | exact b2i_R _ | (unfold R32; omega)) dX6_takeAll_22 ?_
        refine PP.eqI r1' ?_
        refine PP.iload_n dX6_takeAll_23 rfl ?_
        refine PP.callSi (m_has hn7 ho) dX6_takeAll_24 sl_X6_167 rfl rfl (Nat.le_of_ble_eq_true rfl) (by first | exact Nat.le_of_ble_eq_true rfl | omega) ?_
        refine PP.if_ne (tgt := 50) (by first | omega | exact b2i_R _ | (unfold R32; omega)) dX6_takeAll_27 (by decide) (fun h27 => ?_) (fun h27 => ?_)
        · refine PP.iinc (L' := [_, _]) dX6_takeAll_50 rfl rfl rfl ?_
          refine PP.goto (tgt := 7) dX6_takeAll_53 (by decide) ?_
          first
          | (have h := b2i_n.mp h27; exact ih1 h)
          | (have h := b2i_0.mp h27; exact ih2 h)
        · refine PP.aload_n dX6_takeAll_30 rfl ?_
          refine PP.getfR dX6_takeAll_31 fl_X6_46 sm0 rfl ?_
          refine PP.aload_n dX6_takeAll_34 rfl ?_
          refine PP.getfI dX6_takeAll_35 fl_X6_191 sm0 rfl ?_
          refine PP.iload_n dX6_takeAll_38 rfl ?_
          refine PP.iastoreN (n := L0) sm13 (by first | decide | omega) (by omega) (by first | omega | exact b2i_R _ | (unfold R32; omega)) (by first | omega | exact b2i_R _ | (unfold R32; omega)) dX6_takeAll_39 ?_
          refine PP.aload_n dX6_takeAll_40 rfl ?_
          refine PP.dup rfl dX6_takeAll_41 ?_
          refine PP.getfI dX6_takeAll_42 fl_X6_191 sm0 rfl ?_
          refine PP.eqI (y := (L0 : Int)) (by rw [up_ne (by decide)]; exact f3) ?_
          refine PP.iconst dX6_takeAll_45 ?_
          refine PP.iadd dX6_takeAll_46 ?_
          refine PP.putI dX6_takeAll_47 fp_X6_191 sm0 rfl (by first | omega | exact b2i_R _ | (unfold R32; omega)) ?_
          refine PP.iinc (L' := [_, _]) dX6_takeAll_50 rfl rfl rfl ?_
          refine PP.goto (tgt := 7) dX6_takeAll_53 (by decide) ?_
          first
          | (have h := b2i_n.mp h27; exact ih1 h)
          | (have h := b2i_0.mp h27; exact ih2 h)
  refine PP.aload_n dX6_takeAll_0 rfl ?_
  refine PP.iconst dX6_takeAll_1 ?_
  refine PP.putI dX6_takeAll_2 fp_X6_191 sm0 rfl (by first | omega | (unfold R32; omega)) ?_
  refine PP.iconst dX6_takeAll_5 ?_
  refine PP.istore_n (L' := [_, _]) dX6_takeAll_6 (Nat.le_of_ble_eq_true rfl) rfl rfl ?_
  exact key 0 (by omega) _ (fun c h0 _ => up_ne h0) (fun j hj => up_j hj) (by rw [up_at]; rfl) (fun i u h => by simp at h)
theorem m_cleanByRow {σ : Sg} {T : Nat → Int} {n : Nat} {row : Nat → Int} {l : List Nat} (hw : wfT T n) (hT : mT σ T) (hr : wfR T n row) (hN : ∀ k, k < 16 → σ 4 k = row k) (hl : σ 0 19 = (l.length : Int)) (hl7 : l.length ≤ 7) (hB : BL σ 13 l) (hln : ∀ u ∈ l, u < n) : OK SHm mX6_cleanByRow 6 [vR 0] σ (RP (fun v τ => v = ((rcl T n (row 0) l : Nat) : Int) ∧ ∀ c, c ≠ 10 → c ≠ 11 → c ≠ 12 → τ c = σ c)) := by
  have hn7 := hw.2.1
  have hsl := hw.2.2.1
  have hst := hr.2.1
  refine OK.enter (L' := [vR 0, vN, vN, vN]) (by decide +kernel) (by simp [ent0]) rfl ?_
  have key : ∀ o, o ≤ l.length → ∀ σ1 : Sg, (∀ c, c ≠ 10 → c ≠ 11 → c ≠ 12 → σ1 c = σ c) → MC σ1 T n (plL T (l.take o)).2.1 (plL T (l.take o)).2.2 → (0 ≤ (plL T (l.take o)).1 ∧ (plL T (l.take o)).1 ≤ T 0) → PP SHm mX6_cleanByRow 6 8 [vR 0, vI (plL T (l.take o)).1, vI (o : Int), vN] [] σ1 (RP (fun v τ => v = ((rcl T n (row 0) l : Nat) : Int) ∧ ∀ c, c ≠ 10 → c ≠ 11 → c ≠ 12 → τ c = σ c)) := by
    refine loop_dn l.length ?_ ?_
    · intro σ1 f1 hc hs
      rw [List.take_length] at hc hs ⊢
      have hl' : σ1 0 19 = (l.length : Int) := by rw [f1 0 (by decide) (by decide) (by decide)]; exact hl
      have e40 : σ1 4 0 = row 0 := by rw [f1 4 (by decide) (by decide) (by decide)]; exact hN 0 (by decide)
      have h7 := msk_128 (clS T n (plL T l).2.1 (plL T l).2.2 (row 0)) hn7
      refine PP.iload_n dX6_cleanByRow_8 rfl ?_
      refine PP.aload_n dX6_cleanByRow_9 rfl ?_
      refine PP.getfI dX6_cleanByRow_10 fl_X6_191 sm0 rfl ?_
      refine PP.icmp_ge (tgt := 88) (by first | omega | (unfold R32; omega)) (by first | omega | (unfold R32; omega)) dX6_cleanByRow_13 (by decide) (fun h13 => ?_) (fun h13 => ?_)
      · refine PP.aload_n dX6_cleanByRow_88 rfl ?_
        refine PP.aload_n dX6_cleanByRow_89 rfl ?_
        refine PP.getfR dX6_cleanByRow_90 fl_X6_19 sm0 rfl ?_
        refine PP.iconst dX6_cleanByRow_93 ?_
        refine PP.ialoadN (n := 0) sm4 (by first | decide | omega) (by first | rfl | omega) (by first | omega | (unfold R32; omega)) dX6_cleanByRow_94 ?_
        refine PP.eqI e40 ?_
        refine PP.callVi (m_cleanBy hc (w := row 0) (by omega)) dX6_cleanByRow_95 vl_X6_182 sm0 rfl rfl rfl rfl (Nat.le_of_ble_eq_true rfl) (by first | exact Nat.le_of_ble_eq_true rfl | omega) ?_
        refine PP.callSi (m_ones h7) dX6_cleanByRow_98 sl_X6_164 rfl rfl (Nat.le_of_ble_eq_true rfl) (by first | exact Nat.le_of_ble_eq_true rfl | omega) ?_
        refine PP.iret dX6_cleanByRow_101 rfl ?_
        exact ⟨_, rfl, by rw [pc7_msk hn7]; rfl, f1⟩
      · omega
    · intro o ho ih σ1 f1 hc hs
      have hl' : σ1 0 19 = (l.length : Int) := by rw [f1 0 (by decide) (by decide) (by decide)]; exact hl
      obtain ⟨t, htl⟩ : ∃ t, l[o]? = some t := ⟨_, List.getElem?_eq_getElem ho⟩
      have htn : t < n := hln t (List.mem_of_getElem? htl)
      have e13 : σ1 13 o = (t : Int) := by rw [f1 13 (by decide) (by decide) (by decide)]; exact hB o t htl
      have etk : l.take (o + 1) = l.take o ++ [t] := by rw [List.take_succ, htl]; rfl
      have ep : plL T (l.take (o + 1)) = pl1 T (plL T (l.take o)) t := by rw [etk, plL_app]; rfl
      rw [ep] at ih
      generalize plL T (l.take o) = x at *
      have g2 := hc.2.2.1 (11 + t) (by omega)
      have g0 := hc.2.2.1 0 (by decide)
      have x2 := (hw.2.2.2.2.2.1 t htn).2.1
      have ih1 : ¬ x.1 + T (11 + t) ≤ T 0 → PP SHm mX6_cleanByRow 6 8 [vR 0, vI x.1, vI ((o : Int) + 1), vN] [] σ1 (RP (fun v τ => v = ((rcl T n (row 0) l : Nat) : Int) ∧ ∀ c, c ≠ 10 → c ≠ 11 → c ≠ 12 → τ c = σ c)) := fun h => by
        rw [show pl1 T x t = x from by unfold pl1; rw [if_neg h]] at ih
        exact ih σ1 f1 hc hs
      have ih2 : x.1 + T (11 + t) ≤ T 0 → PP SHm mX6_cleanByRow 6 8 [vR 0, vI (x.1 + T (11 + t)), vI ((o : Int) + 1), vN] [] (ptU (ptU σ1 T t x.1 0) T t x.1 (plF T t x.1)) (RP (fun v τ => v = ((rcl T n (row 0) l : Nat) : Int) ∧ ∀ c, c ≠ 10 → c ≠ 11 → c ≠ 12 → τ c = σ c)) := fun h => by
        rw [show pl1 T x t = (x.1 + T (11 + t), uf x.2.1 t x.1, uf x.2.2 t (plF T t x.1)) from by unfold pl1; rw [if_pos h]] at ih
        have m1 := MC_put hc (s := x.1) (f := 0) htn (Or.inr ⟨hs.1, h, Or.inl rfl⟩)
        have m2 := MC_put m1 (s := x.1) (f := plF T t x.1) htn (Or.inr ⟨hs.1, h, by unfold plF; split <;> simp⟩)
        rw [uf_uf, uf_uf] at m2
        exact ih _ (fun c h0 h1 h2 => by rw [ptU_ne h0 h1 h2, ptU_ne h0 h1 h2]; exact f1 c h0 h1 h2) m2 (by simp only []; omega)
      have es : ptU σ1 T t x.1 0 12 t = sdV T t x.1 := ptU_at.2.2
      have hmi := hw.2.2.2.1
      have g2' : ptU (ptU σ1 T t x.1 0) T t x.1 (plF T t x.1) 2 (11 + t) = T (11 + t) := by rw [ptU_ne (by decide) (by decide) (by decide), ptU_ne (by decide) (by decide) (by decide)]; exact g2
      have hT2 : mT (ptU σ1 T t x.1 0) T := mT_cong hc.2.2.1 (ptU_ne (by decide) (by decide) (by decide))
      have sd1 : sdV T t x.1 < 0 → 1 = plF T t x.1 := fun h => by
        unfold plF; unfold sdV at h
        rw [if_neg (by omega)] at h
        by_cases q : x.1 + T (11 + t) - 1 < T 1
        · rw [if_pos q]
        · rw [if_neg q] at h; split at h <;> omega
      have sd0 : 0 ≤ sdV T t x.1 → 0 = plF T t x.1 := fun h => by
        unfold plF; unfold sdV at h
        rw [if_neg (by omega)] at h
        by_cases q : x.1 + T (11 + t) - 1 < T 1
        · rw [if_pos q] at h; omega
        · rw [if_neg q]
      have sdr : -4 ≤ sdV T t x.1 ∧ sdV T t x.1 ≤ 1 := by unfold sdV; split <;> (try split) <;> (try split) <;> omega
      have hpf : plF T t x.1 = 0 ∨ plF T t x.1 = 1 := by unfold plF; split <;> simp
      have J : ∀ z, z = plF T t x.1 → x.1 + T (11 + t) ≤ T 0 → PP SHm mX6_cleanByRow 6 67 [vR 0, vI x.1, vI (o : Int), vI (t : Int)] [vI z, vI x.1, vI (t : Int), vR 0] (ptU σ1 T t x.1 0) (RP (fun v τ => v = ((rcl T n (row 0) l : Nat) : Int) ∧ ∀ c, c ≠ 10 → c ≠ 11 → c ≠ 12 → τ c = σ c)) := by
        intro z hz hfit
        subst hz
        refine PP.callVn (m_put hw hT2 (t := t) (by omega) (by unfold R32; omega) (Or.inr ⟨by omega, x2⟩)) dX6_cleanByRow_67 vl_X6_127 sm0 rfl rfl rfl rfl (Nat.le_of_ble_eq_true rfl) (by first | exact Nat.le_of_ble_eq_true rfl | omega) ?_
        refine PP.iload_n dX6_cleanByRow_70 rfl ?_
        refine PP.aload_n dX6_cleanByRow_71 rfl ?_
        refine PP.getfR dX6_cleanByRow_72 fl_X6_13 sm0 rfl ?_
        refine PP.bipush dX6_cleanByRow_75 (by decide) ?_
        refine PP.iload_n dX6_cleanByRow_77 rfl ?_
        refine PP.iadd dX6_cleanByRow_78 ?_
        refine PP.ialoadN (n := (11 + t)) sm2 (by first | decide | omega) (by first | rfl | omega) (by first | omega | (unfold R32; omega)) dX6_cleanByRow_79 ?_
        refine PP.eqI g2' ?_
        refine PP.iadd dX6_cleanByRow_80 ?_
        refine PP.istore_n (L' := [_, _, _, _]) dX6_cleanByRow_81 (Nat.le_of_ble_eq_true rfl) rfl rfl ?_
        refine PP.iinc (L' := [_, _, _, _]) dX6_cleanByRow_82 rfl rfl rfl ?_
        refine PP.goto (tgt := 8) dX6_cleanByRow_85 (by decide) ?_
        refine PP.frg 3 (L' := [_, _, _, _]) rfl ?_
        exact ih2 hfit
      clear ih
      refine PP.iload_n dX6_cleanByRow_8 rfl ?_
      refine PP.aload_n dX6_cleanByRow_9 rfl ?_
      refine PP.getfI dX6_cleanByRow_10 fl_X6_191 sm0 rfl ?_
      refine PP.icmp_ge (tgt := 88) (by first | omega | (unfold R32; omega)) (by first | omega | (unfold R32; omega)) dX6_cleanByRow_13 (by decide) (fun h13 => ?_) (fun h13 => ?_)
      · omega
      · refine PP.aload_n dX6_cleanByRow_16 rfl ?_
        refine PP.getfR dX6_cleanByRow_17 fl_X6_46 sm0 rfl ?_
        refine PP.iload_n dX6_cleanByRow_20 rfl ?_
        refine PP.ialoadN (n := o) sm13 (by first | decide | omega) (by first | rfl | omega) (by first | omega | (unfold R32; omega)) dX6_cleanByRow_21 ?_
        refine PP.eqI e13 ?_
        refine PP.istore_n (L' := [_, _, _, _]) dX6_cleanByRow_22 (Nat.le_of_ble_eq_true rfl) rfl rfl ?_
        refine PP.iload_n dX6_cleanByRow_23 rfl ?_
        refine PP.aload_n dX6_cleanByRow_24 rfl ?_
        refine PP.getfR dX6_cleanByRow_25 fl_X6_13 sm0 rfl ?_
        refine PP.bipush dX6_cleanByRow_28 (by decide) ?_
        refine PP.iload_n dX6_cleanByRow_30 rfl ?_
        refine PP.iadd dX6_cleanByRow_31 ?_
        refine PP.ialoadN (n := (11 + t)) sm2 (by first | decide | omega) (by first | rfl | omega) (by first | omega | (unfold R32; omega)) dX6_cleanByRow_32 ?_
        refine PP.eqI g2 ?_
        refine PP.iadd dX6_cleanByRow_33 ?_
        refine PP.aload_n dX6_cleanByRow_34 rfl ?_
        refine PP.getfR dX6_cleanByRow_35 fl_X6_13 sm0 rfl ?_
        refine PP.iconst dX6_cleanByRow_38 ?_
        refine PP.ialoadN (n := 0) sm2 (by first | decide | omega) (by first | rfl | omega) (by first | omega | (unfold R32; omega)) dX6_cleanByRow_39 ?_
        refine PP.eqI g0 ?_
        refine PP.icmp_gt (tgt := 82) (by first | omega | (unfold R32; omega)) (by first | omega | (unfold R32; omega)) dX6_cleanByRow_40 (by decide) (fun h40 => ?_) (fun h40 => ?_)
        · refine PP.iinc (L' := [_, _, _, _]) dX6_cleanByRow_82 rfl rfl rfl ?_
          refine PP.goto (tgt := 8) dX6_cleanByRow_85 (by decide) ?_
          refine PP.frg 3 (L' := [_, _, _, _]) rfl ?_
          exact ih1 (by omega)
        · refine PP.aload_n dX6_cleanByRow_43 rfl ?_
          refine PP.iload_n dX6_cleanByRow_44 rfl ?_
          refine PP.iload_n dX6_cleanByRow_45 rfl ?_
          refine PP.iconst dX6_cleanByRow_46 ?_
          refine PP.callVn (m_put hw hc.2.2.1 (t := t) (by omega) (by unfold R32; omega) (Or.inr ⟨by omega, x2⟩)) dX6_cleanByRow_47 vl_X6_127 sm0 rfl rfl rfl rfl (Nat.le_of_ble_eq_true rfl) (by first | exact Nat.le_of_ble_eq_true rfl | omega) ?_
          refine PP.aload_n dX6_cleanByRow_50 rfl ?_
          refine PP.iload_n dX6_cleanByRow_51 rfl ?_
          refine PP.iload_n dX6_cleanByRow_52 rfl ?_
          refine PP.aload_n dX6_cleanByRow_53 rfl ?_
          refine PP.getfR dX6_cleanByRow_54 fl_X6_43 sm0 rfl ?_
          refine PP.iload_n dX6_cleanByRow_57 rfl ?_
          refine PP.ialoadN (n := t) sm12 (by first | decide | omega) (by first | rfl | omega) (by first | omega | (unfold R32; omega)) dX6_cleanByRow_58 ?_
          refine PP.eqI es ?_
          refine PP.if_ge (tgt := 66) (by first | omega | (unfold R32; omega)) dX6_cleanByRow_59 (by decide) (fun h59 => ?_) (fun h59 => ?_)
          · refine PP.iconst dX6_cleanByRow_66 ?_
            first
            | exact J _ (sd1 (by omega)) (by omega)
            | exact J _ (sd0 (by omega)) (by omega)
          · refine PP.iconst dX6_cleanByRow_62 ?_
            refine PP.goto (tgt := 67) dX6_cleanByRow_63 (by decide) ?_
            first
            | exact J _ (sd1 (by omega)) (by omega)
            | exact J _ (sd0 (by omega)) (by omega)
  refine PP.aload_n dX6_cleanByRow_0 rfl ?_
  refine PP.callVnP (m_clear hw hT) dX6_cleanByRow_1 vl_X6_188 sm0 rfl rfl rfl rfl (Nat.le_of_ble_eq_true rfl) (by first | exact Nat.le_of_ble_eq_true rfl | omega) (fun τ1 hq1 => ?_)
  obtain ⟨p1, p2⟩ := hq1
  refine PP.iconst dX6_cleanByRow_4 ?_
  refine PP.istore_n (L' := [_, _, _, _]) dX6_cleanByRow_5 (Nat.le_of_ble_eq_true rfl) rfl rfl ?_
  refine PP.iconst dX6_cleanByRow_6 ?_
  refine PP.istore_n (L' := [_, _, _, _]) dX6_cleanByRow_7 (Nat.le_of_ble_eq_true rfl) rfl rfl ?_
  exact key 0 (by omega) _ p1 ⟨hw, ⟨fun u hu => Or.inl ⟨rfl, rfl⟩, fun u _ _ => ⟨rfl, rfl⟩⟩, mT_cong hT (p1 2 (by decide) (by decide) (by decide)), p2⟩ ⟨Int.le_refl 0, by show (0 : Int) ≤ T 0; omega⟩
