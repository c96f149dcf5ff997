/-! the model: the best order -/
theorem asc_lfW {n : Nat} {wa : Nat → Bool} (hn : n ≤ 7) : asc (lfW n wa) = (List.range n).filter (fun t => !wa t) := by
  have key : ∀ d, (List.range (n + d)).filter (lfW n wa) = (List.range n).filter (fun t => !wa t) := by
    intro d
    induction d with
    | zero => exact List.filter_congr (fun u hu => by have := List.mem_range.mp hu; unfold lfW; rw [decide_eq_true (by omega)]; rfl)
    | succ d ih => rw [show n + (d + 1) = (n + d) + 1 by omega, flt_s0 (by unfold lfW; rw [decide_eq_false (by omega)]; rfl), ih]
  unfold asc
  have := key (7 - n)
  rw [show n + (7 - n) = 7 by omega] at this
  exact this
theorem mb_s {σ : Sg} {T : Nat → Int} {n M : Nat} {row : Nat → Int} {Q : Option pv → Sg → Prop} (hw : wfT T n) (hT : mT σ T) (hr : wfR T n row) (hN : ∀ k, k < 16 → σ 4 k = row k) (hM : M ≤ 7) (p : List Nat) (σ1 : Sg) (acc : Int × List Nat) (hp : (∀ u ∈ p, u < n) ∧ p.length = M) (f1 : ∀ c, 1 ≤ c → c < 10 → σ1 c = σ c) (f2 : ∀ j, j ≠ 19 → σ1 0 j = σ 0 j) (f3 : σ1 0 19 = (M : Int)) (hB : BL σ1 13 p) (hB2 : BL σ1 14 acc.2) (ha : -4 ≤ acc.1 ∧ acc.1 ≤ 7) (cont : ∀ (acc' : Int × List Nat) (σ2 : Sg) (z3 z4 : Int), acc' = (if acc.1 < (rcl T n (row 0) p : Int) then ((rcl T n (row 0) p : Int), p) else acc) → (∀ c, c ≠ 14 → σ2 c = σ1 c ∨ c = 10 ∨ c = 11 ∨ c = 12) → BL σ2 13 p → BL σ2 14 acc'.2 → PP SHm mX6_mostByOrder 9 66 [vR 0, vI acc'.1, vI 1, vI z3, vI z4] [] σ2 Q) : PP SHm mX6_mostByOrder 9 9 [vR 0, vI acc.1, vI 1, vN, vN] [] σ1 Q := by
  have hn7 := hw.2.1
  have hfr : rcl T n (row 0) p ≤ n := cnt_le _ n
  have hT1 : mT σ1 T := mT_cong hT (f1 2 (by decide) (by decide))
  have hN1 : ∀ k, k < 16 → σ1 4 k = row k := fun k hk => by rw [f1 4 (by decide) (by decide)]; exact hN k hk
  have copy : ∀ τ : Sg, (∀ c, c ≠ 10 → c ≠ 11 → c ≠ 12 → τ c = σ1 c) → acc.1 < (rcl T n (row 0) p : Int) → ∀ o, o ≤ M → ∀ σ2 : Sg, (∀ c, c ≠ 14 → σ2 c = τ c) → (∀ i u, i < o → p[i]? = some u → σ2 14 i = (u : Int)) → PP SHm mX6_mostByOrder 9 21 [vR 0, vI acc.1, vI 1, vI (rcl T n (row 0) p : Nat), vI (o : Int)] [] σ2 Q := by
    intro τ g1 hlt
    refine loop_dn M ?_ ?_
    · intro σ2 h1 h2
      have e19 : σ2 0 19 = (M : Int) := by rw [h1 0 (by decide), g1 0 (by decide) (by decide) (by decide)]; exact f3
      have c1 := cont ((rcl T n (row 0) p : Int), p) σ2 ((rcl T n (row 0) p : Nat) : Int) (M : Int) (by rw [if_pos hlt]) (fun c hc => by
        by_cases e : c = 10 ∨ c = 11 ∨ c = 12
        · exact Or.inr e
        · exact Or.inl (by rw [h1 c hc]; exact g1 c (by omega) (by omega) (by omega))) (fun i u hi => by rw [h1 13 (by decide), g1 13 (by decide) (by decide) (by decide)]; exact hB i u hi) (fun i u hi => h2 i u (by
          rcases Nat.lt_or_ge i M with h | h
          · exact h
          · rw [List.getElem?_eq_none (by rw [hp.2]; exact h)] at hi; cases hi) hi)
      refine PP.iload dX6_mostByOrder_21 rfl ?_
      refine PP.aload_n dX6_mostByOrder_23 rfl ?_
      refine PP.getfI dX6_mostByOrder_24 fl_X6_191 sm0 rfl ?_
      refine PP.icmp_ge (tgt := 55) (by first | omega | (unfold R32; omega)) (by first | omega | (unfold R32; omega)) dX6_mostByOrder_27 (by decide) (fun h27 => ?_) (fun h27 => ?_)
      · refine PP.iload_n dX6_mostByOrder_55 rfl ?_
        refine PP.iload_n dX6_mostByOrder_56 rfl ?_
        refine PP.icmp_le (tgt := 64) (by first | omega | (unfold R32; omega)) (by first | omega | (unfold R32; omega)) dX6_mostByOrder_57 (by decide) (fun h57 => ?_) (fun h57 => ?_)
        · omega
        · refine PP.iload_n dX6_mostByOrder_60 rfl ?_
          refine PP.goto (tgt := 65) dX6_mostByOrder_61 (by decide) ?_
          refine PP.istore_n (L' := [_, _, _, _, _]) dX6_mostByOrder_65 (Nat.le_of_ble_eq_true rfl) rfl rfl ?_
          exact c1
      · omega
    · intro o ho ih σ2 h1 h2
      have e19 : σ2 0 19 = (M : Int) := by rw [h1 0 (by decide), g1 0 (by decide) (by decide) (by decide)]; exact f3
      refine PP.rg (fun hg => ?_)
      refine PP.iload dX6_mostByOrder_21 rfl ?_
      refine PP.aload_n dX6_mostByOrder_23 rfl ?_
      refine PP.getfI dX6_mostByOrder_24 fl_X6_191 sm0 rfl ?_
      refine PP.icmp_ge (tgt := 55) (by first | omega | exact hg _ _ | (unfold R32; omega)) (by first | omega | exact hg _ _ | (unfold R32; omega)) dX6_mostByOrder_27 (by decide) (fun h27 => ?_) (fun h27 => ?_)
      · omega
      · refine PP.iload_n dX6_mostByOrder_30 rfl ?_
        refine PP.iload_n dX6_mostByOrder_31 rfl ?_
        refine PP.icmp_le (tgt := 55) (by first | omega | exact hg _ _ | (unfold R32; omega)) (by first | omega | exact hg _ _ | (unfold R32; omega)) dX6_mostByOrder_32 (by decide) (fun h32 => ?_) (fun h32 => ?_)
        · omega
        · refine PP.aload_n dX6_mostByOrder_35 rfl ?_
          refine PP.getfR dX6_mostByOrder_36 fl_X6_49 sm0 rfl ?_
          refine PP.iload dX6_mostByOrder_39 rfl ?_
          refine PP.aload_n dX6_mostByOrder_41 rfl ?_
          refine PP.getfR dX6_mostByOrder_42 fl_X6_46 sm0 rfl ?_
          refine PP.iload dX6_mostByOrder_45 rfl ?_
          refine PP.ialoadN (n := o) sm13 (by first | decide | omega) (by first | rfl | omega) (by first | omega | exact hg _ _ | (unfold R32; omega)) dX6_mostByOrder_47 ?_
          refine PP.iastoreN (n := o) sm14 (by first | decide | omega) (by first | rfl | omega) (by first | omega | exact hg _ _ | (unfold R32; omega)) (by first | omega | exact hg _ _ | (unfold R32; omega)) dX6_mostByOrder_48 ?_
          refine PP.iinc (L' := [_, _, _, _, _]) dX6_mostByOrder_49 rfl rfl rfl ?_
          refine PP.goto (tgt := 21) dX6_mostByOrder_52 (by decide) ?_
          refine ih _ (fun c hc => by rw [up_ne hc]; exact h1 c hc) (fun i u hi hu => ?_)
          by_cases e : i = o
          · subst e; rw [up_at, h1 13 (by decide), g1 13 (by decide) (by decide) (by decide)]; exact hB i u hu
          · rw [up_j e]; exact h2 i u (by omega) hu
  have nocopy : ∀ τ : Sg, (∀ c, c ≠ 10 → c ≠ 11 → c ≠ 12 → τ c = σ1 c) → ¬ acc.1 < (rcl T n (row 0) p : Int) → PP SHm mX6_mostByOrder 9 21 [vR 0, vI acc.1, vI 1, vI (rcl T n (row 0) p : Nat), vI 0] [] τ Q := by
    intro τ g1 hlt
    have e19 : τ 0 19 = (M : Int) := by rw [g1 0 (by decide) (by decide) (by decide)]; exact f3
    have c1 := cont acc τ ((rcl T n (row 0) p : Nat) : Int) 0 (by rw [if_neg hlt]) (fun c hc => by
        by_cases e : c = 10 ∨ c = 11 ∨ c = 12
        · exact Or.inr e
        · exact Or.inl (g1 c (by omega) (by omega) (by omega))) (fun i u hi => by rw [g1 13 (by decide) (by decide) (by decide)]; exact hB i u hi) (fun i u hi => by rw [g1 14 (by decide) (by decide) (by decide)]; exact hB2 i u hi)
    refine PP.iload dX6_mostByOrder_21 rfl ?_
    refine PP.aload_n dX6_mostByOrder_23 rfl ?_
    refine PP.getfI dX6_mostByOrder_24 fl_X6_191 sm0 rfl ?_
    refine PP.icmp_ge (tgt := 55) (by first | omega | (unfold R32; omega)) (by first | omega | (unfold R32; omega)) dX6_mostByOrder_27 (by decide) (fun h27 => ?_) (fun h27 => ?_)
    · refine PP.iload_n dX6_mostByOrder_55 rfl ?_
      refine PP.iload_n dX6_mostByOrder_56 rfl ?_
      refine PP.icmp_le (tgt := 64) (by first | omega | (unfold R32; omega)) (by first | omega | (unfold R32; omega)) dX6_mostByOrder_57 (by decide) (fun h57 => ?_) (fun h57 => ?_)
      · refine PP.iload_n dX6_mostByOrder_64 rfl ?_
        refine PP.istore_n (L' := [_, _, _, _, _]) dX6_mostByOrder_65 (Nat.le_of_ble_eq_true rfl) rfl rfl ?_
        exact c1
      · omega
    · refine PP.iload_n dX6_mostByOrder_30 rfl ?_
      refine PP.iload_n dX6_mostByOrder_31 rfl ?_
      refine PP.icmp_le (tgt := 55) (by first | omega | (unfold R32; omega)) (by first | omega | (unfold R32; omega)) dX6_mostByOrder_32 (by decide) (fun h32 => ?_) (fun h32 => ?_)
      · refine PP.iload_n dX6_mostByOrder_55 rfl ?_
        refine PP.iload_n dX6_mostByOrder_56 rfl ?_
        refine PP.icmp_le (tgt := 64) (by first | omega | (unfold R32; omega)) (by first | omega | (unfold R32; omega)) dX6_mostByOrder_57 (by decide) (fun h57 => ?_) (fun h57 => ?_)
        · refine PP.iload_n dX6_mostByOrder_64 rfl ?_
          refine PP.istore_n (L' := [_, _, _, _, _]) dX6_mostByOrder_65 (Nat.le_of_ble_eq_true rfl) rfl rfl ?_
          exact c1
        · omega
      · omega
  refine PP.iload_n dX6_mostByOrder_9 rfl ?_
  refine PP.if_eq (tgt := 74) (by first | omega | (unfold R32; omega)) dX6_mostByOrder_10 (by decide) (fun h10 => ?_) (fun h10 => ?_)
  · omega
  · refine PP.aload_n dX6_mostByOrder_13 rfl ?_
    refine PP.callViP (m_cleanByRow (l := p) hw hT1 hr hN1 (by rw [f3, hp.2]) (by rw [hp.2]; exact hM) hB hp.1) dX6_mostByOrder_14 vl_X6_197 sm0 rfl rfl rfl rfl (Nat.le_of_ble_eq_true rfl) (by first | exact Nat.le_of_ble_eq_true rfl | omega) (fun v14 τ14 hq14 => ?_)
    obtain ⟨rfl, g1⟩ := hq14
    refine PP.istore_n (L' := [_, _, _, _, _]) dX6_mostByOrder_17 (Nat.le_of_ble_eq_true rfl) rfl rfl ?_
    refine PP.iconst dX6_mostByOrder_18 ?_
    refine PP.istore (L' := [_, _, _, _, _]) dX6_mostByOrder_19 (Nat.le_of_ble_eq_true rfl) rfl rfl ?_
    by_cases hlt : acc.1 < (rcl T n (row 0) p : Int)
    · exact copy τ14 g1 hlt 0 (by omega) τ14 (fun c _ => rfl) (fun i u hi => by omega)
    · exact nocopy τ14 g1 hlt
theorem mb_l {σ : Sg} {T : Nat → Int} {n M : Nat} {row : Nat → Int} {G : Int × List Nat} (hw : wfT T n) (hT : mT σ T) (hr : wfR T n row) (hN : ∀ k, k < 16 → σ 4 k = row k) (hM : M ≤ 7) : ∀ (R : List (List Nat)) (p : List Nat) (σ1 : Sg) (acc : Int × List Nat), chn p R → (∀ q ∈ p :: R, (∀ u ∈ q, u < n) ∧ q.length = M) → (∀ c, 1 ≤ c → c < 10 → σ1 c = σ c) → (∀ j, j ≠ 19 → σ1 0 j = σ 0 j) → σ1 0 19 = (M : Int) → BL σ1 13 p → BL σ1 14 acc.2 → (-4 ≤ acc.1 ∧ acc.1 ≤ 7) → bst (rcl T n (row 0)) acc (p :: R) = G → PP SHm mX6_mostByOrder 9 9 [vR 0, vI acc.1, vI 1, vN, vN] [] σ1 (RP (fun v τ => v = G.1 ∧ (∀ c, 1 ≤ c → c < 10 → τ c = σ c) ∧ (∀ j, j ≠ 19 → τ 0 j = σ 0 j) ∧ τ 0 19 = (M : Int) ∧ BL τ 14 G.2)) := by
  have hn7 := hw.2.1
  intro R
  have stopc : ∀ (acc : Int × List Nat) (σ1 : Sg), (∀ c, 1 ≤ c → c < 10 → σ1 c = σ c) → (∀ j, j ≠ 19 → σ1 0 j = σ 0 j) → σ1 0 19 = (M : Int) → BL σ1 14 acc.2 → acc = G → PP SHm mX6_mostByOrder 9 9 [vR 0, vI acc.1, vI 0, vN, vN] [] σ1 (RP (fun v τ => v = G.1 ∧ (∀ c, 1 ≤ c → c < 10 → τ c = σ c) ∧ (∀ j, j ≠ 19 → τ 0 j = σ 0 j) ∧ τ 0 19 = (M : Int) ∧ BL τ 14 G.2)) := by
    intro acc σ1 f1 f2 f3 f4 e
    subst e
    refine PP.iload_n dX6_mostByOrder_9 rfl ?_
    refine PP.if_eq (tgt := 74) (by first | omega | (unfold R32; omega)) dX6_mostByOrder_10 (by decide) (fun h10 => ?_) (fun h10 => ?_)
    · refine PP.iload_n dX6_mostByOrder_74 rfl ?_
      refine PP.iret dX6_mostByOrder_75 rfl ?_
      exact ⟨_, rfl, rfl, f1, f2, f3, f4⟩
    · exact absurd rfl h10
  induction R with
  | nil =>
    intro p σ1 acc hch hq f1 f2 f3 hB hB2 ha hG
    have cont : ∀ (acc' : Int × List Nat) (σ2 : Sg) (z3 z4 : Int), acc' = G → (∀ c, c ≠ 14 → σ2 c = σ1 c ∨ c = 10 ∨ c = 11 ∨ c = 12) → BL σ2 13 p → BL σ2 14 acc'.2 → PP SHm mX6_mostByOrder 9 66 [vR 0, vI acc'.1, vI 1, vI z3, vI z4] [] σ2 (RP (fun v τ => v = G.1 ∧ (∀ c, 1 ≤ c → c < 10 → τ c = σ c) ∧ (∀ j, j ≠ 19 → τ 0 j = σ 0 j) ∧ τ 0 19 = (M : Int) ∧ BL τ 14 G.2)) := by
      intro acc' σ2 z3 z4 hacc hf hB' hB2'
      have e0 : σ2 0 = σ1 0 := (hf 0 (by decide)).resolve_right (by omega)
      refine PP.aload_n dX6_mostByOrder_66 rfl ?_
      refine PP.callViP (m_nextRow (l := p) (by rw [e0, f3, (hq p (by simp)).2]) (by rw [(hq p (by simp)).2]; exact hM) hB' (fun u hu => by have := (hq p (by simp)).1 u hu; omega)) dX6_mostByOrder_67 vl_X6_200 sm0 rfl rfl rfl rfl (Nat.le_of_ble_eq_true rfl) (by first | exact Nat.le_of_ble_eq_true rfl | omega) (fun v67 τ67 hq67 => ?_)
      refine PP.istore_n (L' := [_, _, _, _, _]) dX6_mostByOrder_70 (Nat.le_of_ble_eq_true rfl) rfl rfl ?_
      refine PP.goto (tgt := 9) dX6_mostByOrder_71 (by decide) ?_
      rcases hq67 with ⟨rfl, q2, rfl⟩ | ⟨q1, l', q2, -⟩
      · refine PP.frg 3 (L' := [_, _, _, _, _]) rfl ?_
        refine PP.frg 4 (L' := [_, _, _, _, _]) rfl ?_
        exact stopc acc' _ (fun c h1 h2 => by rw [(hf c (by omega)).resolve_right (by omega)]; exact f1 c h1 h2) (fun j hj => by rw [e0]; exact f2 j hj) (by rw [e0]; exact f3) hB2' hacc
      · rw [show nxL p = none from hch] at q2; cases q2
    exact mb_s hw hT hr hN hM p σ1 acc (hq p (by simp)) f1 f2 f3 hB hB2 ha (fun acc' σ2 z3 z4 e hf h1 h2 => cont acc' σ2 z3 z4 (by rw [e]; exact hG) hf h1 h2)
  | cons q R ih =>
    intro p σ1 acc hch hq f1 f2 f3 hB hB2 ha hG
    have hfr : rcl T n (row 0) p ≤ n := cnt_le _ n
    have cont : ∀ (acc' : Int × List Nat) (σ2 : Sg) (z3 z4 : Int), acc' = (if acc.1 < (rcl T n (row 0) p : Int) then ((rcl T n (row 0) p : Int), p) else acc) → (∀ c, c ≠ 14 → σ2 c = σ1 c ∨ c = 10 ∨ c = 11 ∨ c = 12) → BL σ2 13 p → BL σ2 14 acc'.2 → PP SHm mX6_mostByOrder 9 66 [vR 0, vI acc'.1, vI 1, vI z3, vI z4] [] σ2 (RP (fun v τ => v = G.1 ∧ (∀ c, 1 ≤ c → c < 10 → τ c = σ c) ∧ (∀ j, j ≠ 19 → τ 0 j = σ 0 j) ∧ τ 0 19 = (M : Int) ∧ BL τ 14 G.2)) := by
      intro acc' σ2 z3 z4 hacc hf hB' hB2'
      have e0 : σ2 0 = σ1 0 := (hf 0 (by decide)).resolve_right (by omega)
      have har : -4 ≤ acc'.1 ∧ acc'.1 ≤ 7 := by
        rw [hacc]
        split
        · exact ⟨by show (-4 : Int) ≤ ((rcl T n (row 0) p : Nat) : Int); omega, by show ((rcl T n (row 0) p : Nat) : Int) ≤ 7; omega⟩
        · exact ha
      refine PP.aload_n dX6_mostByOrder_66 rfl ?_
      refine PP.callViP (m_nextRow (l := p) (by rw [e0, f3, (hq p (by simp)).2]) (by rw [(hq p (by simp)).2]; exact hM) hB' (fun u hu => by have := (hq p (by simp)).1 u hu; omega)) dX6_mostByOrder_67 vl_X6_200 sm0 rfl rfl rfl rfl (Nat.le_of_ble_eq_true rfl) (by first | exact Nat.le_of_ble_eq_true rfl | omega) (fun v67 τ67 hq67 => ?_)
      refine PP.istore_n (L' := [_, _, _, _, _]) dX6_mostByOrder_70 (Nat.le_of_ble_eq_true rfl) rfl rfl ?_
      refine PP.goto (tgt := 9) dX6_mostByOrder_71 (by decide) ?_
      rcases hq67 with ⟨q1, q2, q3⟩ | ⟨rfl, l', q2, q3, q4⟩
      · rw [hch.1] at q2; cases q2
      · rw [hch.1] at q2
        cases q2
        refine PP.frg 3 (L' := [_, _, _, _, _]) rfl ?_
        refine PP.frg 4 (L' := [_, _, _, _, _]) rfl ?_
        refine ih q τ67 acc' hch.2 (fun z hz => hq z (List.mem_cons_of_mem _ hz)) (fun c h1 h2 => by rw [q4 c (by omega), (hf c (by omega)).resolve_right (by omega)]; exact f1 c h1 h2) (fun j hj => by rw [q4 0 (by decide), e0]; exact f2 j hj) (by rw [q4 0 (by decide), e0]; exact f3) q3 (fun i u hi => by rw [q4 14 (by decide)]; exact hB2' i u hi) har (by rw [hacc]; exact hG)
    exact mb_s hw hT hr hN hM p σ1 acc (hq p (by simp)) f1 f2 f3 hB hB2 ha cont
theorem m_mostByOrder {σ : Sg} {T : Nat → Int} {n : Nat} {row : Nat → Int} (hw : wfT T n) (hT : mT σ T) (hr : wfR T n row) (hN : ∀ k, k < 16 → σ 4 k = row k) : OK SHm mX6_mostByOrder 9 [vR 0] σ (RP (fun v τ => v = (boO T n (wsh row) (row 0)).1 ∧ (∀ c, 1 ≤ c → c < 10 → τ c = σ c) ∧ (∀ j, j ≠ 19 → τ 0 j = σ 0 j) ∧ τ 0 19 = ((cnt (lfW n (wsh row)) 7 : Nat) : Int) ∧ BL τ 14 (boO T n (wsh row) (row 0)).2)) := by
  have hn7 := hw.2.1
  obtain ⟨R, r1, r2, r3⟩ := chn_prm _ (lfW n (wsh row)) rfl
  have hal : asc (lfW n (wsh row)) = (List.range n).filter (fun t => !wsh row t) := asc_lfW hn7
  have hG : bst (rcl T n (row 0)) (-4, []) (asc (lfW n (wsh row)) :: R) = boO T n (wsh row) (row 0) := by
    unfold boO
    rw [r1]
    show bst _ (if (-4 : Int) < _ then _ else _) R = bst _ (if (-1 : Int) < _ then _ else _) R
    rw [if_pos (by omega), if_pos (by omega)]
  have hq : ∀ q ∈ asc (lfW n (wsh row)) :: R, (∀ u ∈ q, u < n) ∧ q.length = cnt (lfW n (wsh row)) 7 := by
    rw [← r1]
    intro q hq
    have := prm_mem hq rfl
    refine ⟨fun u hu => ?_, this.2.2.1⟩
    have h2 := (this.1 u hu).1
    unfold lfW at h2
    simp at h2
    exact h2.1
  have hlen := (hq (asc (lfW n (wsh row))) (by simp)).2
  refine OK.enter (L' := [vR 0, vN, vN, vN, vN]) (by decide +kernel) (by simp [ent0]) rfl ?_
  refine PP.aload_n dX6_mostByOrder_0 rfl ?_
  refine PP.callVnP (m_takeAll hw hT hr hN) dX6_mostByOrder_1 vl_X6_194 sm0 rfl rfl rfl rfl (Nat.le_of_ble_eq_true rfl) (by first | exact Nat.le_of_ble_eq_true rfl | omega) (fun τ1 hq1 => ?_)
  obtain ⟨p1, p2, p3, p4⟩ := hq1
  refine PP.bipush dX6_mostByOrder_4 (by decide) ?_
  refine PP.istore_n (L' := [_, _, _, _, _]) dX6_mostByOrder_6 (Nat.le_of_ble_eq_true rfl) rfl rfl ?_
  refine PP.iconst dX6_mostByOrder_7 ?_
  refine PP.istore_n (L' := [_, _, _, _, _]) dX6_mostByOrder_8 (Nat.le_of_ble_eq_true rfl) rfl rfl ?_
  rw [← hal] at p3 p4
  exact mb_l hw hT hr hN (cnt_le _ 7) R _ τ1 (-4, []) r2 hq (fun c h1 h2 => p1 c (by omega) (by omega)) p2 (by rw [p3, hlen]) p4 (fun i u h => by simp at h) (by decide) hG
theorem x_order {σ : Sg} {A : ST} {k : Int} (hA : RepM σ A) (hW : WF A) (hx : R32 k) : OK SHm mX6_order 20 [vR 0, vI k] σ (RP (fun v τ => v = qOrder A k ∧ RepM τ A)) := by
  obtain ⟨len, txt, T, n, row, und, kep, sn⟩ := A
  obtain ⟨b1, b2, b3, b4, b5, b6, b7⟩ := RepM_e.mp hA
  obtain ⟨w1, w2, w3, w4, w5, w6, w7, w8, w9⟩ := WF_e.mp hW
  have hn7 := w3.2.1
  have hsl := w3.2.2.1
  have hws := wsh_m w5
  have hst := w5.2.1
  have t3 : σ 2 3 = (n : Int) := (b3 3 (by decide)).trans w3.1
  have t0 := b3 0 (by decide)
  have r0 := b4 0 (by decide)
  have r1 : σ 4 1 = ((msk (wsh row) n : Nat) : Int) := (b4 1 (by decide)).trans hws
  simp only [qOrder, qBest]
  have hbl := bo_len T n (wsh row) (row 0)
  have hle := cnt_le (lfW n (wsh row)) 7
  have hbr := bo_rng T n (wsh row) (row 0)
  refine OK.enter (L' := [vR 0, vI k, vN]) (by decide +kernel) (by simp [ent0]) rfl ?_
  refine PP.iload_n dX6_order_0 rfl ?_
  refine PP.iconst dX6_order_1 ?_
  refine PP.icmp_ge (tgt := 7) (by first | omega | assumption | (unfold R32; omega)) (by first | omega | assumption | (unfold R32; omega)) dX6_order_2 (by decide) (fun h2 => ?_) (fun h2 => ?_)
  · refine PP.aload_n dX6_order_7 rfl ?_
    refine PP.callViP (m_mostByOrder w3 b3 w5 b4) dX6_order_8 vl_X6_203 sm0 rfl rfl rfl rfl (Nat.le_of_ble_eq_true rfl) (by first | exact Nat.le_of_ble_eq_true rfl | omega) (fun v8 τ8 hq8 => ?_)
    obtain ⟨p1, p2, p3, p4, p5⟩ := hq8
    have hA' : RepM τ8 (len, txt, T, n, row, und, kep, sn) := RepM_cong hA (fun c hc => p2 c (by omega) (by omega)) (fun j hj => p3 j (by omega))
    rw [if_neg (by omega)]
    refine PP.istore_n (L' := [_, _, _]) dX6_order_11 (Nat.le_of_ble_eq_true rfl) rfl rfl ?_
    refine PP.iload_n dX6_order_12 rfl ?_
    refine PP.if_ge (tgt := 20) (by first | omega | assumption | (unfold R32; omega)) dX6_order_13 (by decide) (fun h13 => ?_) (fun h13 => ?_)
    · refine PP.iload_n dX6_order_20 rfl ?_
      refine PP.aload_n dX6_order_21 rfl ?_
      refine PP.getfI dX6_order_22 fl_X6_191 sm0 rfl ?_
      refine PP.icmp_ge (tgt := 37) (by first | omega | assumption | (unfold R32; omega)) (by first | omega | assumption | (unfold R32; omega)) dX6_order_25 (by decide) (fun h25 => ?_) (fun h25 => ?_)
      · refine PP.bipush dX6_order_37 (by decide) ?_
        refine PP.iret dX6_order_39 rfl ?_
        first
        | (rw [if_pos (by omega)]; exact ⟨_, rfl, p1, hA'⟩)
        | (rw [if_neg (by omega)]
           obtain ⟨u, hu⟩ : ∃ u, (boO T n (wsh row) (row 0)).2[k.toNat]? = some u := ⟨_, List.getElem?_eq_getElem (by omega)⟩
           rw [hu]
           exact ⟨_, rfl, p5 _ _ hu, hA'⟩)
        | (rw [if_neg (by omega), List.getElem?_eq_none (by omega)]
           exact ⟨_, rfl, rfl, hA'⟩)
      · refine PP.aload_n dX6_order_28 rfl ?_
        refine PP.getfR dX6_order_29 fl_X6_49 sm0 rfl ?_
        refine PP.iload_n dX6_order_32 rfl ?_
        refine PP.ialoadN (n := k.toNat) sm14 (by first | decide | omega) (by omega) (by first | omega | assumption | (unfold R32; omega)) dX6_order_33 ?_
        refine PP.goto (tgt := 39) dX6_order_34 (by decide) ?_
        refine PP.iret dX6_order_39 rfl ?_
        first
        | (rw [if_pos (by omega)]; exact ⟨_, rfl, p1, hA'⟩)
        | (rw [if_neg (by omega)]
           obtain ⟨u, hu⟩ : ∃ u, (boO T n (wsh row) (row 0)).2[k.toNat]? = some u := ⟨_, List.getElem?_eq_getElem (by omega)⟩
           rw [hu]
           exact ⟨_, rfl, p5 _ _ hu, hA'⟩)
        | (rw [if_neg (by omega), List.getElem?_eq_none (by omega)]
           exact ⟨_, rfl, rfl, hA'⟩)
    · refine PP.iload_n dX6_order_16 rfl ?_
      refine PP.goto (tgt := 39) dX6_order_17 (by decide) ?_
      refine PP.iret dX6_order_39 rfl ?_
      first
      | (rw [if_pos (by omega)]; exact ⟨_, rfl, p1, hA'⟩)
      | (rw [if_neg (by omega)]
         obtain ⟨u, hu⟩ : ∃ u, (boO T n (wsh row) (row 0)).2[k.toNat]? = some u := ⟨_, List.getElem?_eq_getElem (by omega)⟩
         rw [hu]
         exact ⟨_, rfl, p5 _ _ hu, hA'⟩)
      | (rw [if_neg (by omega), List.getElem?_eq_none (by omega)]
         exact ⟨_, rfl, rfl, hA'⟩)
  · refine PP.iconst dX6_order_5 ?_
    refine PP.iret dX6_order_6 rfl ?_
    rw [if_pos (by omega)]
    exact ⟨_, rfl, rfl, hA⟩
theorem x_half {σ : Sg} {A : ST} {h m : Int} (hA : RepM σ A) (hW : WF A) (hx : R32 h) (hx2 : R32 m) : OK SHm mX6_half 20 [vR 0, vI h, vI m] σ (RP (fun v τ => v = qHalf A h m ∧ RepM τ A)) := by
  have hcln := @x_clean σ A hA hW 6 (Nat.le_refl _)
  have hW0 := hW
  obtain ⟨len, txt, T, n, row, und, kep, sn⟩ := A
  obtain ⟨b1, b2, b3, b4, b5, b6, b7⟩ := RepM_e.mp hA
  obtain ⟨w1, w2, w3, w4, w5, w6, w7, w8, w9⟩ := WF_e.mp hW
  have hn7 := w3.2.1
  have hsl := w3.2.2.1
  have hws := wsh_m w5
  have hst := w5.2.1
  have t3 : σ 2 3 = (n : Int) := (b3 3 (by decide)).trans w3.1
  have t0 := b3 0 (by decide)
  have r0 := b4 0 (by decide)
  have r1 : σ 4 1 = ((msk (wsh row) n : Nat) : Int) := (b4 1 (by decide)).trans hws
  simp only [qHalf, qBest]
  simp only [qClean] at hcln
  refine OK.enter (L' := [vR 0, vI h, vI m, vN, vN, vN]) (by decide +kernel) (by simp [ent0]) rfl ?_
  by_cases ht : (0 ≤ h ∧ h < 24) ∧ (1 ≤ m ∧ m ≤ 24)
  · obtain ⟨i, rfl⟩ : ∃ i : Nat, h = (i : Int) := ⟨h.toNat, by omega⟩
    obtain ⟨k, rfl⟩ : ∃ k : Nat, m = ((k + 1 : Nat) : Int) := ⟨m.toNat - 1, by omega⟩
    rw [if_neg (fun h => h ht), Int.toNat_natCast, Int.toNat_natCast, Nat.add_sub_cancel]
    have q1 := hrS_lt T i k
    have q2 := hrS_lt T (i + (k + 1)) k
    have t1 := w3.2.2.2.2.2.2 _ q1
    have t2 := w3.2.2.2.2.2.2 _ q2
    have hcl := cnt_le (clS T n (rP row) (rF row) (row 0)) n
    have hb := bo_rng T n (wsh row) (row 0)
    have h7 := msk_128 (clS T n (rP row) (rF row) (row 0)) hn7
    have m1 := mulR (a := T (32 + hrS T i k)) (b := (boO T n (wsh row) (row 0)).1) (by omega) (by omega) (by omega) (by omega)
    have m2 := mulR (a := T (32 + hrS T (i + (k + 1)) k)) (b := (cnt (clS T n (rP row) (rF row) (row 0)) n : Nat)) (by omega) (by omega) (by omega) (by omega)
    have g1 : qRun (len, txt, T, n, row, und, kep, sn) (i : Int) ((k + 1 : Nat) : Int) 1 = T (32 + hrS T i k) := by
      simp only [qRun]
      rw [if_neg (fun h => h ⟨⟨by omega, by omega⟩, ⟨by omega, by omega⟩, Or.inr rfl⟩), if_neg (by decide), Int.toNat_natCast, Int.toNat_natCast, Nat.add_sub_cancel]
    have g2 : qRun (len, txt, T, n, row, und, kep, sn) (((i + (k + 1)) % 24 : Nat) : Int) ((k + 1 : Nat) : Int) 1 = T (32 + hrS T (i + (k + 1)) k) := by
      simp only [qRun]
      rw [if_neg (fun h => h ⟨⟨by omega, by omega⟩, ⟨by omega, by omega⟩, Or.inr rfl⟩), if_neg (by decide), Int.toNat_natCast, Int.toNat_natCast, Nat.add_sub_cancel, hrS_mod]
    have fin : ∀ (τ : Sg) (z3 z4 z : Int), RepM τ (len, txt, T, n, row, und, kep, sn) → z = (if 0 < cnt (clS T n (rP row) (rF row) (row 0)) n ∧ ((boO T n (wsh row) (row 0)).1 = 0 ∨ T (32 + hrS T i k) * (boO T n (wsh row) (row 0)).1 < T (32 + hrS T (i + (k + 1)) k) * (cnt (clS T n (rP row) (rF row) (row 0)) n : Nat)) then 1 else 0) → (z = 0 ∨ z = 1) → PP SHm mX6_half 20 81 [vR 0, vI (i : Int), vI ((k + 1 : Nat) : Int), vI z3, vI z4, vN] [vI z] τ (RP (fun v τ => v = (if 0 < cnt (clS T n (rP row) (rF row) (row 0)) n ∧ ((boO T n (wsh row) (row 0)).1 = 0 ∨ T (32 + hrS T i k) * (boO T n (wsh row) (row 0)).1 < T (32 + hrS T (i + (k + 1)) k) * (cnt (clS T n (rP row) (rF row) (row 0)) n : Nat)) then 1 else 0) ∧ RepM τ (len, txt, T, n, row, und, kep, sn))) := by
      intro τ z3 z4 z hA' hz hz2
      refine PP.istore (L' := [_, _, _, _, _, _]) dX6_half_81 (Nat.le_of_ble_eq_true rfl) rfl rfl ?_
      refine PP.iload dX6_half_83 rfl ?_
      refine PP.if_eq (tgt := 92) (by first | omega | (unfold R32; omega)) dX6_half_85 (by decide) (fun h85 => ?_) (fun h85 => ?_)
      · refine PP.iconst dX6_half_92 ?_
        refine PP.iret dX6_half_93 rfl ?_
        exact ⟨_, rfl, by omega, hA'⟩
      · refine PP.iconst dX6_half_88 ?_
        refine PP.goto (tgt := 93) dX6_half_89 (by decide) ?_
        refine PP.iret dX6_half_93 rfl ?_
        exact ⟨_, rfl, by omega, hA'⟩
    refine PP.iload_n dX6_half_0 rfl ?_
    refine PP.i2l (by first | omega | assumption | exact b2i_R _ | (unfold R32; omega)) dX6_half_1 ?_
    refine PP.lconst (z := 0) dX6_half_2 (by decide) ?_
    refine PP.ldc2 (z := 23) dX6_half_3 bw1067 ?_
    refine PP.callSi (m_in hx (by unfold R32; omega) (by unfold R32; omega)) dX6_half_6 sl_X6_70 rfl rfl (Nat.le_of_ble_eq_true rfl) (by first | exact Nat.le_of_ble_eq_true rfl | omega) ?_
    refine PP.if_eq (tgt := 24) (by first | omega | assumption | exact b2i_R _ | (unfold R32; omega)) dX6_half_9 (by decide) (fun h9 => ?_) (fun h9 => ?_)
    · rw [decide_eq_true (by omega)] at h9; cases h9
    · refine PP.iload_n dX6_half_12 rfl ?_
      refine PP.i2l (by first | omega | assumption | exact b2i_R _ | (unfold R32; omega)) dX6_half_13 ?_
      refine PP.lconst (z := 1) dX6_half_14 (by decide) ?_
      refine PP.ldc2 (z := 24) dX6_half_15 bw1068 ?_
      refine PP.callSi (m_in hx2 (by unfold R32; omega) (by unfold R32; omega)) dX6_half_18 sl_X6_70 rfl rfl (Nat.le_of_ble_eq_true rfl) (by first | exact Nat.le_of_ble_eq_true rfl | omega) ?_
      refine PP.if_ne (tgt := 26) (by first | omega | assumption | exact b2i_R _ | (unfold R32; omega)) dX6_half_21 (by decide) (fun h21 => ?_) (fun h21 => ?_)
      · refine PP.aload_n dX6_half_26 rfl ?_
        refine PP.callViP (hcln) dX6_half_27 vl_X6_185 sm0 rfl rfl rfl rfl (Nat.le_of_ble_eq_true rfl) (by first | exact Nat.le_of_ble_eq_true rfl | omega) (fun v27 τ27 hq27 => ?_)
        obtain ⟨rfl, p1, p2, p3⟩ := hq27
        refine PP.callSi (m_ones h7) dX6_half_30 sl_X6_164 rfl rfl (Nat.le_of_ble_eq_true rfl) (by first | exact Nat.le_of_ble_eq_true rfl | omega) ?_
        refine PP.eqI (y := ((cnt (clS T n (rP row) (rF row) (row 0)) n : Nat) : Int)) (by rw [pc7_msk hn7]) ?_
        refine PP.istore_n (L' := [_, _, _, _, _, _]) dX6_half_33 (Nat.le_of_ble_eq_true rfl) rfl rfl ?_
        obtain ⟨c1, c2, c3, c4, -⟩ := RepM_e.mp p1
        refine PP.aload_n dX6_half_34 rfl ?_
        refine PP.callViP (m_mostByOrder w3 c3 w5 c4) dX6_half_35 vl_X6_203 sm0 rfl rfl rfl rfl (Nat.le_of_ble_eq_true rfl) (by first | exact Nat.le_of_ble_eq_true rfl | omega) (fun v35 τ35 hq35 => ?_)
        obtain ⟨rfl, p5, p6, p7, p8⟩ := hq35
        have hA' : RepM τ35 (len, txt, T, n, row, und, kep, sn) := RepM_cong p1 (fun c hc => p5 c (by omega) (by omega)) (fun j hj => p6 j (by omega))
        refine PP.istore (L' := [_, _, _, _, _, _]) dX6_half_38 (Nat.le_of_ble_eq_true rfl) rfl rfl ?_
        refine PP.iload_n dX6_half_40 rfl ?_
        refine PP.if_le (tgt := 80) (by first | omega | assumption | exact b2i_R _ | (unfold R32; omega)) dX6_half_41 (by decide) (fun h41 => ?_) (fun h41 => ?_)
        · refine PP.iconst dX6_half_80 ?_
          first
          | exact fin _ _ _ _ hA' (if_pos ⟨by omega, Or.inl (by omega)⟩).symm (by omega)
          | exact fin _ _ _ _ hA' (if_pos ⟨by omega, Or.inr (by omega)⟩).symm (by omega)
          | exact fin _ _ _ _ hA' (if_neg (fun q => absurd q.1 (by omega))).symm (by omega)
          | exact fin _ _ _ _ hA' (if_neg (fun q => absurd q.2 (by omega))).symm (by omega)
        · refine PP.iload dX6_half_44 rfl ?_
          refine PP.if_eq (tgt := 76) (by first | omega | assumption | exact b2i_R _ | (unfold R32; omega)) dX6_half_46 (by decide) (fun h46 => ?_) (fun h46 => ?_)
          · refine PP.iconst dX6_half_76 ?_
            refine PP.goto (tgt := 81) dX6_half_77 (by decide) ?_
            first
            | exact fin _ _ _ _ hA' (if_pos ⟨by omega, Or.inl (by omega)⟩).symm (by omega)
            | exact fin _ _ _ _ hA' (if_pos ⟨by omega, Or.inr (by omega)⟩).symm (by omega)
            | exact fin _ _ _ _ hA' (if_neg (fun q => absurd q.1 (by omega))).symm (by omega)
            | exact fin _ _ _ _ hA' (if_neg (fun q => absurd q.2 (by omega))).symm (by omega)
          · refine PP.aload_n dX6_half_49 rfl ?_
            refine PP.iload_n dX6_half_50 rfl ?_
            refine PP.iload_n dX6_half_51 rfl ?_
            refine PP.iconst dX6_half_52 ?_
            refine PP.callVi (x_run (d := 4) hA' hW0 (by unfold R32; omega) hx2 (by unfold R32; omega) (Nat.le_refl _)) dX6_half_53 vl_X6_213 sm0 rfl rfl rfl rfl (Nat.le_of_ble_eq_true rfl) (by first | exact Nat.le_of_ble_eq_true rfl | omega) ?_
            refine PP.eqI g1 ?_
            refine PP.iload dX6_half_56 rfl ?_
            refine PP.imul dX6_half_58 ?_
            refine PP.aload_n dX6_half_59 rfl ?_
            refine PP.iload_n dX6_half_60 rfl ?_
            refine PP.iload_n dX6_half_61 rfl ?_
            refine PP.iadd dX6_half_62 ?_
            refine PP.bipush dX6_half_63 (by decide) ?_
            refine PP.irem (by first | omega | assumption | exact b2i_R _ | (unfold R32; omega)) (by first | omega | assumption | exact b2i_R _ | (unfold R32; omega)) (by first | omega | assumption | exact b2i_R _ | (unfold R32; omega)) (by first | omega | assumption | exact b2i_R _ | (unfold R32; omega)) dX6_half_65 ?_
            refine PP.eqI (y := (((i + (k + 1)) % 24 : Nat) : Int)) (by omega) ?_
            refine PP.iload_n dX6_half_66 rfl ?_
            refine PP.iconst dX6_half_67 ?_
            refine PP.callVi (x_run (d := 4) hA' hW0 (by unfold R32; omega) hx2 (by unfold R32; omega) (Nat.le_refl _)) dX6_half_68 vl_X6_213 sm0 rfl rfl rfl rfl (Nat.le_of_ble_eq_true rfl) (by first | exact Nat.le_of_ble_eq_true rfl | omega) ?_
            refine PP.eqI g2 ?_
            refine PP.iload_n dX6_half_71 rfl ?_
            refine PP.imul dX6_half_72 ?_
            refine PP.icmp_ge (tgt := 80) (by first | omega | assumption | exact b2i_R _ | (unfold R32; omega)) (by first | omega | assumption | exact b2i_R _ | (unfold R32; omega)) dX6_half_73 (by decide) (fun h73 => ?_) (fun h73 => ?_)
            · refine PP.iconst dX6_half_80 ?_
              first
              | exact fin _ _ _ _ hA' (if_pos ⟨by omega, Or.inl (by omega)⟩).symm (by omega)
              | exact fin _ _ _ _ hA' (if_pos ⟨by omega, Or.inr (by omega)⟩).symm (by omega)
              | exact fin _ _ _ _ hA' (if_neg (fun q => absurd q.1 (by omega))).symm (by omega)
              | exact fin _ _ _ _ hA' (if_neg (fun q => absurd q.2 (by omega))).symm (by omega)
            · refine PP.iconst dX6_half_76 ?_
              refine PP.goto (tgt := 81) dX6_half_77 (by decide) ?_
              first
              | exact fin _ _ _ _ hA' (if_pos ⟨by omega, Or.inl (by omega)⟩).symm (by omega)
              | exact fin _ _ _ _ hA' (if_pos ⟨by omega, Or.inr (by omega)⟩).symm (by omega)
              | exact fin _ _ _ _ hA' (if_neg (fun q => absurd q.1 (by omega))).symm (by omega)
              | exact fin _ _ _ _ hA' (if_neg (fun q => absurd q.2 (by omega))).symm (by omega)
      · rw [decide_eq_true (by omega)] at h21; cases h21
  · rw [if_pos ht]
    refine PP.iload_n dX6_half_0 rfl ?_
    refine PP.i2l (by first | omega | assumption | exact b2i_R _ | (unfold R32; omega)) dX6_half_1 ?_
    refine PP.lconst (z := 0) dX6_half_2 (by decide) ?_
    refine PP.ldc2 (z := 23) dX6_half_3 bw1067 ?_
    refine PP.callSi (m_in hx (by unfold R32; omega) (by unfold R32; omega)) dX6_half_6 sl_X6_70 rfl rfl (Nat.le_of_ble_eq_true rfl) (by first | exact Nat.le_of_ble_eq_true rfl | omega) ?_
    refine PP.if_eq (tgt := 24) (by first | omega | assumption | exact b2i_R _ | (unfold R32; omega)) dX6_half_9 (by decide) (fun h9 => ?_) (fun h9 => ?_)
    · refine PP.iconst dX6_half_24 ?_
      refine PP.iret dX6_half_25 rfl ?_
      exact ⟨_, rfl, rfl, hA⟩
    · refine PP.iload_n dX6_half_12 rfl ?_
      refine PP.i2l (by first | omega | assumption | exact b2i_R _ | (unfold R32; omega)) dX6_half_13 ?_
      refine PP.lconst (z := 1) dX6_half_14 (by decide) ?_
      refine PP.ldc2 (z := 24) dX6_half_15 bw1068 ?_
      refine PP.callSi (m_in hx2 (by unfold R32; omega) (by unfold R32; omega)) dX6_half_18 sl_X6_70 rfl rfl (Nat.le_of_ble_eq_true rfl) (by first | exact Nat.le_of_ble_eq_true rfl | omega) ?_
      refine PP.if_ne (tgt := 26) (by first | omega | assumption | exact b2i_R _ | (unfold R32; omega)) dX6_half_21 (by decide) (fun h21 => ?_) (fun h21 => ?_)
      · exact absurd ⟨by have := of_decide_eq_true (b2i_n.mp h9); omega, of_decide_eq_true (b2i_n.mp h21)⟩ ht
      · refine PP.iconst dX6_half_24 ?_
        refine PP.iret dX6_half_25 rfl ?_
        exact ⟨_, rfl, rfl, hA⟩
