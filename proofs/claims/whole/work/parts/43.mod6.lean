/-! the model: its acts -/
theorem RLs_app {σ τ : Sg} {c f m z : Nat} {Us : List (Nat → Int)} {row : Nat → Int} (h : RLs σ c f m Us) (hl : Us.length < m) (hc : ¬ c = 0) (e : ∀ i, ¬ (16 * Us.length ≤ i ∧ i < 16 * Us.length + 16) → τ c i = σ c i) (hr : ∀ j, j < 16 → τ c (16 * Us.length + j) = row j) (hf : τ 0 f = (Us.length : Int) + 1) : RLs τ c f m (Us ++ [row]) := by
  obtain ⟨h1, h2, h3⟩ := h
  refine ⟨by rw [hf]; simp, by simp; omega, fun k r j hk hj => ?_⟩
  rcases Nat.lt_trichotomy k Us.length with q | q | q
  · rw [List.getElem?_append_left q] at hk
    rw [e _ (by omega)]
    exact h3 k r j hk hj
  · subst q
    rw [List.getElem?_append_right (Nat.le_refl _), Nat.sub_self] at hk
    cases hk
    exact hr j hj
  · rw [List.getElem?_eq_none (by simp; omega)] at hk
    cases hk
theorem m_note {σ : Sg} {und : List (Nat → Int)} {row : Nat → Int} (hU : RLs σ 6 8 8 und) (hN : ∀ k, k < 16 → σ 4 k = row k) : OK SHm mX6_note 1 [vR 0] σ (RPn (fun τ => (∀ c, c ≠ 0 → c ≠ 6 → τ c = σ c) ∧ (∀ j, j ≠ 8 → τ 0 j = σ 0 j) ∧ RLs τ 6 8 8 (pushL 8 und row))) := by
  have key2 : ∀ (Us : List (Nat → Int)), Us.length ≤ 7 → Us ++ [row] = pushL 8 und row → ∀ o, o ≤ 16 → ∀ σ1 : Sg, (∀ c, c ≠ 0 → c ≠ 6 → σ1 c = σ c) → (∀ j, j ≠ 8 → σ1 0 j = σ 0 j) → RLs σ1 6 8 8 Us → (∀ j, j < o → σ1 6 (16 * Us.length + j) = row j) → PP SHm mX6_note 1 50 [vR 0, vI (o : Int)] [] σ1 (RPn (fun τ => (∀ c, c ≠ 0 → c ≠ 6 → τ c = σ c) ∧ (∀ j, j ≠ 8 → τ 0 j = σ 0 j) ∧ RLs τ 6 8 8 (pushL 8 und row))) := by
    intro Us hl he
    refine loop_dn 16 ?_ ?_
    · intro σ1 f1 f2 hR hr
      have hU8 := hR.1
      refine PP.iload_n dX6_note_50 rfl ?_
      refine PP.bipush dX6_note_51 (by decide) ?_
      refine PP.icmp_ge (tgt := 82) (by first | omega | (unfold R32; omega)) (by first | omega | (unfold R32; omega)) dX6_note_53 (by decide) (fun h53 => ?_) (fun h53 => ?_)
      · refine PP.aload_n dX6_note_82 rfl ?_
        refine PP.dup rfl dX6_note_83 ?_
        refine PP.getfI dX6_note_84 fl_X6_117 sm0 rfl ?_
        refine PP.iconst dX6_note_87 ?_
        refine PP.iadd dX6_note_88 ?_
        refine PP.putI dX6_note_89 fp_X6_117 sm0 rfl (by first | omega | (unfold R32; omega)) ?_
        refine PP.vret dX6_note_92 rfl ?_
        refine ⟨rfl, fun c h0 h6 => by rw [up_ne h0]; exact f1 c h0 h6, fun j hj => by rw [up_j hj]; exact f2 j hj, ?_⟩
        rw [← he]
        exact RLs_app (z := 0) hR (by omega) (by decide) (fun i _ => by rw [up_ne (by decide)]) (fun j hj => by rw [up_ne (by decide)]; exact hr j hj) (by rw [up_at, hU8])
      · omega
    · intro o ho ih σ1 f1 f2 hR hr
      have hU8 := hR.1
      refine PP.rg (fun hg => ?_)
      refine PP.iload_n dX6_note_50 rfl ?_
      refine PP.bipush dX6_note_51 (by decide) ?_
      refine PP.icmp_ge (tgt := 82) (by first | omega | exact hg _ _ | (unfold R32; omega)) (by first | omega | exact hg _ _ | (unfold R32; omega)) dX6_note_53 (by decide) (fun h53 => ?_) (fun h53 => ?_)
      · omega
      · refine PP.aload_n dX6_note_56 rfl ?_
        refine PP.getfR dX6_note_57 fl_X6_25 sm0 rfl ?_
        refine PP.bipush dX6_note_60 (by decide) ?_
        refine PP.aload_n dX6_note_62 rfl ?_
        refine PP.getfI dX6_note_63 fl_X6_117 sm0 rfl ?_
        refine PP.imul dX6_note_66 ?_
        refine PP.iload_n dX6_note_67 rfl ?_
        refine PP.iadd dX6_note_68 ?_
        refine PP.aload_n dX6_note_69 rfl ?_
        refine PP.getfR dX6_note_70 fl_X6_19 sm0 rfl ?_
        refine PP.iload_n dX6_note_73 rfl ?_
        refine PP.ialoadN (n := o) sm4 (by first | decide | omega) (by first | rfl | omega) (by first | omega | exact hg _ _ | (unfold R32; omega)) dX6_note_74 ?_
        refine PP.iastoreN (n := (16 * Us.length + o)) sm6 (by first | decide | omega) (by omega) (by first | omega | exact hg _ _ | (unfold R32; omega)) (by first | omega | exact hg _ _ | (unfold R32; omega)) dX6_note_75 ?_
        refine PP.iinc (L' := [_, _]) dX6_note_76 rfl rfl rfl ?_
        refine PP.goto (tgt := 50) dX6_note_79 (by decide) ?_
        refine ih _ (fun c h0 h6 => by rw [up_ne h6]; exact f1 c h0 h6) (fun j hj => by rw [up_ne (by decide)]; exact f2 j hj) ⟨by rw [up_ne (by decide)]; exact hR.1, hR.2.1, fun k r j hk hj => ?_⟩ (fun j hj => ?_)
        · have hkl : k < Us.length := by
            rcases Nat.lt_or_ge k Us.length with q | q
            · exact q
            · rw [List.getElem?_eq_none q] at hk; cases hk
          rw [up_j (by omega)]
          exact hR.2.2 k r j hk hj
        · by_cases e : j = o
          · subst e; rw [up_at, f1 4 (by decide) (by decide)]; exact hN j ho
          · rw [up_j (by omega)]; exact hr j (by omega)
  have hU8 := hU.1
  have hU9 := hU.2.1
  have key1 : und.length = 8 → ∀ o, o ≤ 112 → ∀ σ1 : Sg, (∀ c, c ≠ 6 → σ1 c = σ c) → (∀ j, j < o → σ1 6 j = σ 6 (16 + j)) → (∀ j, o ≤ j → σ1 6 j = σ 6 j) → PP SHm mX6_note 1 11 [vR 0, vI (o : Int)] [] σ1 (RPn (fun τ => (∀ c, c ≠ 0 → c ≠ 6 → τ c = σ c) ∧ (∀ j, j ≠ 8 → τ 0 j = σ 0 j) ∧ RLs τ 6 8 8 (pushL 8 und row))) := by
    intro h8
    refine loop_dn 112 ?_ ?_
    · intro σ1 f1 f2 f3
      have hU8' : σ1 0 8 = (und.length : Int) := by rw [f1 0 (by decide)]; exact hU8
      refine PP.iload_n dX6_note_11 rfl ?_
      refine PP.bipush dX6_note_12 (by decide) ?_
      refine PP.icmp_ge (tgt := 38) (by first | omega | (unfold R32; omega)) (by first | omega | (unfold R32; omega)) dX6_note_14 (by decide) (fun h14 => ?_) (fun h14 => ?_)
      · refine PP.aload_n dX6_note_38 rfl ?_
        refine PP.dup rfl dX6_note_39 ?_
        refine PP.getfI dX6_note_40 fl_X6_117 sm0 rfl ?_
        refine PP.iconst dX6_note_43 ?_
        refine PP.isub dX6_note_44 ?_
        refine PP.putI dX6_note_45 fp_X6_117 sm0 rfl (by first | omega | (unfold R32; omega)) ?_
        refine PP.iconst dX6_note_48 ?_
        refine PP.istore_n (L' := [_, _]) dX6_note_49 (Nat.le_of_ble_eq_true rfl) rfl rfl ?_
        refine key2 (und.drop 1) (by simp; omega) (by unfold pushL; rw [if_neg (by omega)]) 0 (by omega) _ (fun c h0 h6 => by rw [up_ne h0]; exact f1 c h6) (fun j hj => by rw [up_j hj, f1 0 (by decide)]) ⟨by rw [up_at, hU8']; simp; omega, by simp; omega, fun k r j hk hj => ?_⟩ (fun j hj => by omega)
        have hkl : k < 7 := by
          rcases Nat.lt_or_ge k 7 with q | q
          · exact q
          · rw [List.getElem?_eq_none (by simp; omega)] at hk; cases hk
        rw [List.getElem?_drop] at hk
        rw [up_ne (by decide), f2 _ (by omega), show 16 + (16 * k + j) = 16 * (1 + k) + j by omega]
        exact hU.2.2 _ r j hk hj
      · omega
    · intro o ho ih σ1 f1 f2 f3
      refine PP.rg (fun hg => ?_)
      refine PP.iload_n dX6_note_11 rfl ?_
      refine PP.bipush dX6_note_12 (by decide) ?_
      refine PP.icmp_ge (tgt := 38) (by first | omega | exact hg _ _ | (unfold R32; omega)) (by first | omega | exact hg _ _ | (unfold R32; omega)) dX6_note_14 (by decide) (fun h14 => ?_) (fun h14 => ?_)
      · omega
      · refine PP.aload_n dX6_note_17 rfl ?_
        refine PP.getfR dX6_note_18 fl_X6_25 sm0 rfl ?_
        refine PP.iload_n dX6_note_21 rfl ?_
        refine PP.aload_n dX6_note_22 rfl ?_
        refine PP.getfR dX6_note_23 fl_X6_25 sm0 rfl ?_
        refine PP.bipush dX6_note_26 (by decide) ?_
        refine PP.iload_n dX6_note_28 rfl ?_
        refine PP.iadd dX6_note_29 ?_
        refine PP.ialoadN (n := (16 + o)) sm6 (by first | decide | omega) (by first | rfl | omega) (by first | omega | exact hg _ _ | (unfold R32; omega)) dX6_note_30 ?_
        refine PP.iastoreN (n := o) sm6 (by first | decide | omega) (by first | rfl | omega) (by first | omega | exact hg _ _ | (unfold R32; omega)) (by first | omega | exact hg _ _ | (unfold R32; omega)) dX6_note_31 ?_
        refine PP.iinc (L' := [_, _]) dX6_note_32 rfl rfl rfl ?_
        refine PP.goto (tgt := 11) dX6_note_35 (by decide) ?_
        refine ih _ (fun c h6 => by rw [up_ne h6]; exact f1 c h6) (fun j hj => ?_) (fun j hj => by rw [up_j (by omega)]; exact f3 j (by omega))
        by_cases e : j = o
        · subst e; rw [up_at]; exact f3 _ (by omega)
        · rw [up_j e]; exact f2 j (by omega)
  refine OK.enter (L' := [vR 0, vN]) (by decide +kernel) (by simp [ent0]) rfl ?_
  refine PP.aload_n dX6_note_0 rfl ?_
  refine PP.getfI dX6_note_1 fl_X6_117 sm0 rfl ?_
  refine PP.bipush dX6_note_4 (by decide) ?_
  refine PP.icmp_ne (tgt := 48) (by first | omega | (unfold R32; omega)) (by first | omega | (unfold R32; omega)) dX6_note_6 (by decide) (fun h6 => ?_) (fun h6 => ?_)
  · refine PP.iconst dX6_note_48 ?_
    refine PP.istore_n (L' := [_, _]) dX6_note_49 (Nat.le_of_ble_eq_true rfl) rfl rfl ?_
    exact key2 und (by omega) (by unfold pushL; rw [if_pos (by omega)]) 0 (by omega) σ (fun c _ _ => rfl) (fun j _ => rfl) hU (fun j hj => by omega)
  · refine PP.iconst dX6_note_9 ?_
    refine PP.istore_n (L' := [_, _]) dX6_note_10 (Nat.le_of_ble_eq_true rfl) rfl rfl ?_
    exact key1 (by omega) 0 (by omega) σ (fun c _ => rfl) (fun j hj => by omega) (fun j _ => rfl)
theorem RepM_act {σ τ : Sg} {len : Nat} {txt T : Nat → Int} {n : Nat} {row row' : Nat → Int} {und kep : List (Nat → Int)} {sn : Nat → Int} (h : RepM σ (len, txt, T, n, row, und, kep, sn)) (e : ∀ c, c = 1 ∨ c = 2 ∨ c = 7 ∨ c = 8 → τ c = σ c) (e0 : ∀ j, j = 0 ∨ j = 10 → τ 0 j = σ 0 j) (hR : ∀ k, k < 16 → τ 4 k = row' k) (hS : RLs τ 6 8 8 (pushL 8 und row)) : RepM τ (act (len, txt, T, n, row, und, kep, sn) row') := by
  obtain ⟨h1, h2, h3, h4, h5, h6, h7⟩ := h
  exact ⟨by rw [e0 0 (by omega)]; exact h1, fun j hj => by rw [e 1 (by omega)]; exact h2 j hj, mT_cong h3 (e 2 (by omega)), hR, hS, RLs_cong h6 (e0 10 (by omega)) (e 7 (by omega)), fun t ht => by rw [e 8 (by omega)]; exact h7 t ht⟩
theorem m_manyIn {σ : Sg} {T : Nat → Int} {n : Nat} {row : Nat → Int} (hw : wfT T n) (hT : mT σ T) (hr : wfR T n row) (hN : ∀ k, k < 16 → σ 4 k = row k) : OK SHm mX6_manyIn 5 [vR 0] σ (RP (fun v τ => v = ((cnt (inS (rP row)) n : Nat) : Int) ∧ ∀ c, c ≠ 10 → c ≠ 11 → c ≠ 12 → τ c = σ c)) := by
  have hn7 := hw.2.1
  refine OK.enter (L' := [vR 0]) (by decide +kernel) (by simp [ent0]) rfl ?_
  refine PP.aload_n dX6_manyIn_0 rfl ?_
  refine PP.callVnP (m_standUp hw hT hr hN) dX6_manyIn_1 vl_X6_158 sm0 rfl rfl rfl rfl (Nat.le_of_ble_eq_true rfl) (by first | exact Nat.le_of_ble_eq_true rfl | omega) (fun τ1 hq1 => ?_)
  obtain ⟨p1, p2⟩ := hq1
  refine PP.aload_n dX6_manyIn_4 rfl ?_
  refine PP.callVi (m_inside (MC_up hw hr (mT_cong hT (p1 2 (by decide) (by decide) (by decide))) p2)) dX6_manyIn_5 vl_X6_161 sm0 rfl rfl rfl rfl (Nat.le_of_ble_eq_true rfl) (by first | exact Nat.le_of_ble_eq_true rfl | omega) ?_
  refine PP.callSi (m_ones (msk_128 _ hn7)) dX6_manyIn_8 sl_X6_164 rfl rfl (Nat.le_of_ble_eq_true rfl) (by first | exact Nat.le_of_ble_eq_true rfl | omega) ?_
  refine PP.iret dX6_manyIn_11 rfl ?_
  exact ⟨_, rfl, by rw [pc7_msk hn7], p1⟩
theorem m_away {σ : Sg} {t : Nat} (ht : t < 7) : OK SHm mX6_away 1 [vR 0, vI (t : Int)] σ (RN (up (up σ 4 (2 + t) (-4)) 4 (9 + t) (-4))) := by
  refine OK.enter (L' := [vR 0, vI (t : Int)]) (by decide +kernel) (by simp [ent0]) rfl ?_
  refine PP.aload_n dX6_away_0 rfl ?_
  refine PP.getfR dX6_away_1 fl_X6_19 sm0 rfl ?_
  refine PP.iconst dX6_away_4 ?_
  refine PP.iload_n dX6_away_5 rfl ?_
  refine PP.iadd dX6_away_6 ?_
  refine PP.bipush dX6_away_7 (by decide) ?_
  refine PP.iastoreN (n := (2 + t)) sm4 (by first | decide | omega) (by first | rfl | omega) (by first | omega | (unfold R32; omega)) (by first | omega | (unfold R32; omega)) dX6_away_9 ?_
  refine PP.aload_n dX6_away_10 rfl ?_
  refine PP.getfR dX6_away_11 fl_X6_19 sm0 rfl ?_
  refine PP.bipush dX6_away_14 (by decide) ?_
  refine PP.iload_n dX6_away_16 rfl ?_
  refine PP.iadd dX6_away_17 ?_
  refine PP.bipush dX6_away_18 (by decide) ?_
  refine PP.iastoreN (n := (9 + t)) sm4 (by first | decide | omega) (by first | rfl | omega) (by first | omega | (unfold R32; omega)) (by first | omega | (unfold R32; omega)) dX6_away_20 ?_
  refine PP.vret dX6_away_21 rfl ?_
  exact ⟨rfl, rfl⟩
theorem aw_row {σ : Sg} {row : Nat → Int} {t : Nat} {z f : Int} (hN : ∀ k, k < 16 → σ 4 k = row k) : ∀ k, k < 16 → up (up σ 4 (2 + t) z) 4 (9 + t) f 4 k = uf (uf row (2 + t) z) (9 + t) f k := by
  intro k hk
  by_cases e : k = 9 + t
  · subst e; rw [up_at, uf_at]
  · rw [up_j e, uf_ne e]
    by_cases e2 : k = 2 + t
    · subst e2; rw [up_at, uf_at]
    · rw [up_j e2, uf_ne e2]; exact hN k hk
theorem x_putIn {σ : Sg} {A : ST} {t s f : Int} (hA : RepM σ A) (hW : WF A) (hx : R32 t) (hx2 : R32 s) (hx3 : R32 f) : OK SHm mX6_putIn 20 [vR 0, vI t, vI s, vI f] σ (RP (fun v τ => v = (spPutIn A t s f).1 ∧ RepM τ (spPutIn A t s f).2)) := by
  obtain ⟨len, txt, T, n, row, und, kep, sn⟩ := A
  obtain ⟨b1, b2, b3, b4, b5, b6, b7⟩ := RepM_e.mp hA
  obtain ⟨w1, w2, w3, w4, w5, w6, w7, w8, w9⟩ := WF_e.mp hW
  have hn7 := w3.2.1
  have hsl := w3.2.2.1
  have hws := wsh_m w5
  have hst := w5.2.1
  have t3 : σ 2 3 = (n : Int) := (b3 3 (by decide)).trans w3.1
  have t0 := b3 0 (by decide)
  have r0 := b4 0 (by decide)
  have r1 : σ 4 1 = ((msk (wsh row) n : Nat) : Int) := (b4 1 (by decide)).trans hws
  simp only [spPutIn, isT, isZ]
  refine OK.enter (L' := [vR 0, vI t, vI s, vI f]) (by decide +kernel) (by simp [ent0]) rfl ?_
  by_cases ht : (0 ≤ t ∧ t < (n : Int)) ∧ (0 ≤ s ∧ s < T 0) ∧ (f = 0 ∨ f = 1)
  · obtain ⟨j, rfl⟩ : ∃ j : Nat, t = (j : Int) := ⟨t.toNat, by omega⟩
    have hj : j < n := by omega
    have q2 := b4 (2 + j) (by omega)
    have q9 := b4 (9 + j) (by omega)
    have hrg := wfR_rng w3 w5 hj
    obtain ⟨x1, x2, x3, x4⟩ := w3.2.2.2.2.2.1 j hj
    rw [if_neg (fun h => h ht), Int.toNat_natCast]
    refine PP.aload_n dX6_putIn_0 rfl ?_
    refine PP.iload_n dX6_putIn_1 rfl ?_
    refine PP.callVi (m_isThing w3 b3 hx) dX6_putIn_2 vl_X6_150 sm0 rfl rfl rfl rfl (Nat.le_of_ble_eq_true rfl) (by first | exact Nat.le_of_ble_eq_true rfl | omega) ?_
    refine PP.if_eq (tgt := 26) (by first | omega | assumption | exact b2i_R _ | (unfold R32; omega)) dX6_putIn_5 (by decide) (fun h5 => ?_) (fun h5 => ?_)
    · rw [decide_eq_true ht.1] at h5; cases h5
    · refine PP.aload_n dX6_putIn_8 rfl ?_
      refine PP.iload_n dX6_putIn_9 rfl ?_
      refine PP.callVi (m_isSlot w3 b3 hx2) dX6_putIn_10 vl_X6_155 sm0 rfl rfl rfl rfl (Nat.le_of_ble_eq_true rfl) (by first | exact Nat.le_of_ble_eq_true rfl | omega) ?_
      refine PP.if_eq (tgt := 26) (by first | omega | assumption | exact b2i_R _ | (unfold R32; omega)) dX6_putIn_13 (by decide) (fun h13 => ?_) (fun h13 => ?_)
      · rw [decide_eq_true ht.2.1] at h13; cases h13
      · refine PP.iload_n dX6_putIn_16 rfl ?_
        refine PP.i2l (by first | omega | assumption | exact b2i_R _ | (unfold R32; omega)) dX6_putIn_17 ?_
        refine PP.lconst (z := 0) dX6_putIn_18 (by decide) ?_
        refine PP.lconst (z := 1) dX6_putIn_19 (by decide) ?_
        refine PP.callSi (m_in hx3 (by unfold R32; omega) (by unfold R32; omega)) dX6_putIn_20 sl_X6_70 rfl rfl (Nat.le_of_ble_eq_true rfl) (by first | exact Nat.le_of_ble_eq_true rfl | omega) ?_
        refine PP.if_ne (tgt := 28) (by first | omega | assumption | exact b2i_R _ | (unfold R32; omega)) dX6_putIn_23 (by decide) (fun h23 => ?_) (fun h23 => ?_)
        · refine PP.aload_n dX6_putIn_28 rfl ?_
          refine PP.callVnP (m_standUp w3 b3 w5 b4) dX6_putIn_29 vl_X6_158 sm0 rfl rfl rfl rfl (Nat.le_of_ble_eq_true rfl) (by first | exact Nat.le_of_ble_eq_true rfl | omega) (fun τ29 hq29 => ?_)
          obtain ⟨p1, p2⟩ := hq29
          have hMC := MC_up w3 w5 (mT_cong b3 (p1 2 (by decide) (by decide) (by decide))) p2
          have e10 : τ29 10 j = row (2 + j) := (p2 j (by omega)).1
          have e41 : τ29 4 1 = ((msk (wsh row) n : Nat) : Int) := by rw [p1 4 (by decide) (by decide) (by decide)]; exact r1
          have hA' : RepM τ29 (len, txt, T, n, row, und, kep, sn) := RepM_9 hA (fun c hc => p1 c (by omega) (by omega) (by omega))
          refine PP.aload_n dX6_putIn_32 rfl ?_
          refine PP.getfR dX6_putIn_33 fl_X6_37 sm0 rfl ?_
          refine PP.iload_n dX6_putIn_36 rfl ?_
          refine PP.ialoadN (n := j) sm10 (by first | decide | omega) (by first | rfl | omega) (by first | omega | assumption | exact b2i_R _ | (unfold R32; omega)) dX6_putIn_37 ?_
          refine PP.if_ge (tgt := 63) (by first | omega | assumption | exact b2i_R _ | (unfold R32; omega)) dX6_putIn_38 (by decide) (fun h38 => ?_) (fun h38 => ?_)
          · refine PP.bipush dX6_putIn_63 (by decide) ?_
            refine PP.iret dX6_putIn_65 rfl ?_
            rw [if_pos (by first | exact Or.inr (Or.inr (b2i_0.mp h60)) | exact Or.inr (Or.inl (b2i_n.mp h51)) | exact Or.inl (by omega))]
            exact ⟨_, rfl, rfl, hA'⟩
          · refine PP.aload_n dX6_putIn_41 rfl ?_
            refine PP.getfR dX6_putIn_42 fl_X6_19 sm0 rfl ?_
            refine PP.iconst dX6_putIn_45 ?_
            refine PP.ialoadN (n := 1) sm4 (by first | decide | omega) (by first | rfl | omega) (by first | omega | assumption | exact b2i_R _ | (unfold R32; omega)) dX6_putIn_46 ?_
            refine PP.eqI e41 ?_
            refine PP.iload_n dX6_putIn_47 rfl ?_
            refine PP.callSi (m_has hn7 hj) dX6_putIn_48 sl_X6_167 rfl rfl (Nat.le_of_ble_eq_true rfl) (by first | exact Nat.le_of_ble_eq_true rfl | omega) ?_
            refine PP.if_ne (tgt := 63) (by first | omega | assumption | exact b2i_R _ | (unfold R32; omega)) dX6_putIn_51 (by decide) (fun h51 => ?_) (fun h51 => ?_)
            · refine PP.bipush dX6_putIn_63 (by decide) ?_
              refine PP.iret dX6_putIn_65 rfl ?_
              rw [if_pos (by first | exact Or.inr (Or.inr (b2i_0.mp h60)) | exact Or.inr (Or.inl (b2i_n.mp h51)) | exact Or.inl (by omega))]
              exact ⟨_, rfl, rfl, hA'⟩
            · refine PP.aload_n dX6_putIn_54 rfl ?_
              refine PP.iload_n dX6_putIn_55 rfl ?_
              refine PP.iload_n dX6_putIn_56 rfl ?_
              refine PP.callVi (m_hasRoom hMC hj (by omega)) dX6_putIn_57 vl_X6_170 sm0 rfl rfl rfl rfl (Nat.le_of_ble_eq_true rfl) (by first | exact Nat.le_of_ble_eq_true rfl | omega) ?_
              refine PP.if_ne (tgt := 66) (by first | omega | assumption | exact b2i_R _ | (unfold R32; omega)) dX6_putIn_60 (by decide) (fun h60 => ?_) (fun h60 => ?_)
              · have hfit := b2i_n.mp h60
                rw [if_neg (fun q => q.elim (fun q => by omega) (fun q => q.elim (fun q => absurd q (by rw [b2i_0.mp h51]; decide)) (fun q => absurd q (by rw [hfit]; decide))))]
                obtain ⟨c1, c2, c3, c4, c5, c6, c7⟩ := RepM_e.mp hA'
                have hr' := wfR_put w3 w5 hj ht.2.1.1 (fitS_t.mp hfit).1 ht.2.2
                refine PP.aload_n dX6_putIn_66 rfl ?_
                refine PP.callVnP (m_note c5 c4) dX6_putIn_67 vl_X6_173 sm0 rfl rfl rfl rfl (Nat.le_of_ble_eq_true rfl) (by first | exact Nat.le_of_ble_eq_true rfl | omega) (fun τ67 hq67 => ?_)
                obtain ⟨p3, p4, p5⟩ := hq67
                have n4 : ∀ k, k < 16 → τ67 4 k = row k := fun k hk => by rw [p3 4 (by decide) (by decide)]; exact c4 k hk
                have nr := aw_row (t := j) (z := s) (f := f) n4
                refine PP.aload_n dX6_putIn_70 rfl ?_
                refine PP.getfR dX6_putIn_71 fl_X6_19 sm0 rfl ?_
                refine PP.iconst dX6_putIn_74 ?_
                refine PP.iload_n dX6_putIn_75 rfl ?_
                refine PP.iadd dX6_putIn_76 ?_
                refine PP.iload_n dX6_putIn_77 rfl ?_
                refine PP.iastoreN (n := (2 + j)) sm4 (by first | decide | omega) (by first | rfl | omega) (by first | omega | assumption | exact b2i_R _ | (unfold R32; omega)) (by first | omega | assumption | exact b2i_R _ | (unfold R32; omega)) dX6_putIn_78 ?_
                refine PP.aload_n dX6_putIn_79 rfl ?_
                refine PP.getfR dX6_putIn_80 fl_X6_19 sm0 rfl ?_
                refine PP.bipush dX6_putIn_83 (by decide) ?_
                refine PP.iload_n dX6_putIn_85 rfl ?_
                refine PP.iadd dX6_putIn_86 ?_
                refine PP.iload_n dX6_putIn_87 rfl ?_
                refine PP.iastoreN (n := (9 + j)) sm4 (by first | decide | omega) (by first | rfl | omega) (by first | omega | assumption | exact b2i_R _ | (unfold R32; omega)) (by first | omega | assumption | exact b2i_R _ | (unfold R32; omega)) dX6_putIn_88 ?_
                refine PP.aload_n dX6_putIn_89 rfl ?_
                refine PP.callViP (m_manyIn w3 (mT_cong c3 (by rw [up_ne (by decide), up_ne (by decide), p3 2 (by decide) (by decide)])) hr' nr) dX6_putIn_90 vl_X6_176 sm0 rfl rfl rfl rfl (Nat.le_of_ble_eq_true rfl) (by first | exact Nat.le_of_ble_eq_true rfl | omega) (fun v90 τ90 hq90 => ?_)
                obtain ⟨p6, p7⟩ := hq90
                refine PP.iret dX6_putIn_93 rfl ?_
                refine ⟨_, rfl, p6, RepM_act hA (fun c hc => ?_) (fun j hj => ?_) (fun k hk => ?_) (RLs_cong p5 ?_ ?_)⟩
                · rw [p7 c (by omega) (by omega) (by omega), up_ne (by omega), up_ne (by omega), p3 c (by omega) (by omega), p1 c (by omega) (by omega) (by omega)]
                · rw [p7 0 (by omega) (by omega) (by omega), up_ne (by omega), up_ne (by omega), p4 j (by omega), p1 0 (by omega) (by omega) (by omega)]
                · rw [p7 4 (by omega) (by omega) (by omega)]; exact nr k hk
                · rw [p7 0 (by omega) (by omega) (by omega), up_ne (by omega), up_ne (by omega)]
                · rw [p7 6 (by omega) (by omega) (by omega), up_ne (by omega), up_ne (by omega)]
              · refine PP.bipush dX6_putIn_63 (by decide) ?_
                refine PP.iret dX6_putIn_65 rfl ?_
                rw [if_pos (by first | exact Or.inr (Or.inr (b2i_0.mp h60)) | exact Or.inr (Or.inl (b2i_n.mp h51)) | exact Or.inl (by omega))]
                exact ⟨_, rfl, rfl, hA'⟩
        · rw [decide_eq_true (by omega)] at h23; cases h23
  · rw [if_pos ht]
    refine PP.aload_n dX6_putIn_0 rfl ?_
    refine PP.iload_n dX6_putIn_1 rfl ?_
    refine PP.callVi (m_isThing w3 b3 hx) dX6_putIn_2 vl_X6_150 sm0 rfl rfl rfl rfl (Nat.le_of_ble_eq_true rfl) (by first | exact Nat.le_of_ble_eq_true rfl | omega) ?_
    refine PP.if_eq (tgt := 26) (by first | omega | assumption | exact b2i_R _ | (unfold R32; omega)) dX6_putIn_5 (by decide) (fun h5 => ?_) (fun h5 => ?_)
    · refine PP.iconst dX6_putIn_26 ?_
      refine PP.iret dX6_putIn_27 rfl ?_
      exact ⟨_, rfl, rfl, hA⟩
    · refine PP.aload_n dX6_putIn_8 rfl ?_
      refine PP.iload_n dX6_putIn_9 rfl ?_
      refine PP.callVi (m_isSlot w3 b3 hx2) dX6_putIn_10 vl_X6_155 sm0 rfl rfl rfl rfl (Nat.le_of_ble_eq_true rfl) (by first | exact Nat.le_of_ble_eq_true rfl | omega) ?_
      refine PP.if_eq (tgt := 26) (by first | omega | assumption | exact b2i_R _ | (unfold R32; omega)) dX6_putIn_13 (by decide) (fun h13 => ?_) (fun h13 => ?_)
      · refine PP.iconst dX6_putIn_26 ?_
        refine PP.iret dX6_putIn_27 rfl ?_
        exact ⟨_, rfl, rfl, hA⟩
      · refine PP.iload_n dX6_putIn_16 rfl ?_
        refine PP.i2l (by first | omega | assumption | exact b2i_R _ | (unfold R32; omega)) dX6_putIn_17 ?_
        refine PP.lconst (z := 0) dX6_putIn_18 (by decide) ?_
        refine PP.lconst (z := 1) dX6_putIn_19 (by decide) ?_
        refine PP.callSi (m_in hx3 (by unfold R32; omega) (by unfold R32; omega)) dX6_putIn_20 sl_X6_70 rfl rfl (Nat.le_of_ble_eq_true rfl) (by first | exact Nat.le_of_ble_eq_true rfl | omega) ?_
        refine PP.if_ne (tgt := 28) (by first | omega | assumption | exact b2i_R _ | (unfold R32; omega)) dX6_putIn_23 (by decide) (fun h23 => ?_) (fun h23 => ?_)
        · exact absurd ⟨of_decide_eq_true (b2i_n.mp h5), of_decide_eq_true (b2i_n.mp h13), by have := of_decide_eq_true (b2i_n.mp h23); omega⟩ ht
        · refine PP.iconst dX6_putIn_26 ?_
          refine PP.iret dX6_putIn_27 rfl ?_
          exact ⟨_, rfl, rfl, hA⟩
theorem x_turn {σ : Sg} {A : ST} {t : Int} (hA : RepM σ A) (hW : WF A) (hx : R32 t) : OK SHm mX6_turn 20 [vR 0, vI t] σ (RP (fun v τ => v = (spTurn A t).1 ∧ RepM τ (spTurn A t).2)) := by
  obtain ⟨len, txt, T, n, row, und, kep, sn⟩ := A
  obtain ⟨b1, b2, b3, b4, b5, b6, b7⟩ := RepM_e.mp hA
  obtain ⟨w1, w2, w3, w4, w5, w6, w7, w8, w9⟩ := WF_e.mp hW
  have hn7 := w3.2.1
  have hsl := w3.2.2.1
  have hws := wsh_m w5
  have hst := w5.2.1
  have t3 : σ 2 3 = (n : Int) := (b3 3 (by decide)).trans w3.1
  have t0 := b3 0 (by decide)
  have r0 := b4 0 (by decide)
  have r1 : σ 4 1 = ((msk (wsh row) n : Nat) : Int) := (b4 1 (by decide)).trans hws
  simp only [spTurn, isT]
  refine OK.enter (L' := [vR 0, vI t]) (by decide +kernel) (by simp [ent0]) rfl ?_
  by_cases ht : 0 ≤ t ∧ t < (n : Int)
  · obtain ⟨j, rfl⟩ : ∃ j : Nat, t = (j : Int) := ⟨t.toNat, by omega⟩
    have hj : j < n := by omega
    have q2 := b4 (2 + j) (by omega)
    have q9 := b4 (9 + j) (by omega)
    have hrg := wfR_rng w3 w5 hj
    obtain ⟨x1, x2, x3, x4⟩ := w3.2.2.2.2.2.1 j hj
    rw [if_neg (fun h => h ht), Int.toNat_natCast]
    refine PP.aload_n dX6_turn_0 rfl ?_
    refine PP.iload_n dX6_turn_1 rfl ?_
    refine PP.callVi (m_isThing w3 b3 hx) dX6_turn_2 vl_X6_150 sm0 rfl rfl rfl rfl (Nat.le_of_ble_eq_true rfl) (by first | exact Nat.le_of_ble_eq_true rfl | omega) ?_
    refine PP.if_ne (tgt := 10) (by first | omega | assumption | exact b2i_R _ | (unfold R32; omega)) dX6_turn_5 (by decide) (fun h5 => ?_) (fun h5 => ?_)
    · refine PP.aload_n dX6_turn_10 rfl ?_
      refine PP.getfR dX6_turn_11 fl_X6_19 sm0 rfl ?_
      refine PP.iconst dX6_turn_14 ?_
      refine PP.iload_n dX6_turn_15 rfl ?_
      refine PP.iadd dX6_turn_16 ?_
      refine PP.ialoadN (n := (2 + j)) sm4 (by first | decide | omega) (by first | rfl | omega) (by first | omega | assumption | exact b2i_R _ | (unfold R32; omega)) dX6_turn_17 ?_
      refine PP.if_ge (tgt := 24) (by first | omega | assumption | exact b2i_R _ | (unfold R32; omega)) dX6_turn_18 (by decide) (fun h18 => ?_) (fun h18 => ?_)
      · rw [if_neg (by omega)]
        refine PP.aload_n dX6_turn_24 rfl ?_
        refine PP.callVnP (m_note b5 b4) dX6_turn_25 vl_X6_173 sm0 rfl rfl rfl rfl (Nat.le_of_ble_eq_true rfl) (by first | exact Nat.le_of_ble_eq_true rfl | omega) (fun τ25 hq25 => ?_)
        obtain ⟨p3, p4, p5⟩ := hq25
        have n4 : ∀ k, k < 16 → τ25 4 k = row k := fun k hk => by rw [p3 4 (by decide) (by decide)]; exact b4 k hk
        have n9 := n4 (9 + j) (by omega)
        refine PP.aload_n dX6_turn_28 rfl ?_
        refine PP.getfR dX6_turn_29 fl_X6_19 sm0 rfl ?_
        refine PP.bipush dX6_turn_32 (by decide) ?_
        refine PP.iload_n dX6_turn_34 rfl ?_
        refine PP.iadd dX6_turn_35 ?_
        refine PP.iconst dX6_turn_36 ?_
        refine PP.aload_n dX6_turn_37 rfl ?_
        refine PP.getfR dX6_turn_38 fl_X6_19 sm0 rfl ?_
        refine PP.bipush dX6_turn_41 (by decide) ?_
        refine PP.iload_n dX6_turn_43 rfl ?_
        refine PP.iadd dX6_turn_44 ?_
        refine PP.ialoadN (n := (9 + j)) sm4 (by first | decide | omega) (by first | rfl | omega) (by first | omega | assumption | exact b2i_R _ | (unfold R32; omega)) dX6_turn_45 ?_
        refine PP.eqI n9 ?_
        refine PP.isub dX6_turn_46 ?_
        refine PP.iastoreN (n := (9 + j)) sm4 (by first | decide | omega) (by first | rfl | omega) (by first | omega | assumption | exact b2i_R _ | (unfold R32; omega)) (by first | omega | assumption | exact b2i_R _ | (unfold R32; omega)) dX6_turn_47 ?_
        refine PP.aload_n dX6_turn_48 rfl ?_
        refine PP.getfR dX6_turn_49 fl_X6_19 sm0 rfl ?_
        refine PP.bipush dX6_turn_52 (by decide) ?_
        refine PP.iload_n dX6_turn_54 rfl ?_
        refine PP.iadd dX6_turn_55 ?_
        refine PP.ialoadN (n := (9 + j)) sm4 (by first | decide | omega) (by first | rfl | omega) (by first | omega | assumption | exact b2i_R _ | (unfold R32; omega)) dX6_turn_56 ?_
        refine PP.eqI up_at ?_
        refine PP.iret dX6_turn_57 rfl ?_
        refine ⟨_, rfl, rfl, RepM_act hA (fun c hc => ?_) (fun j hj => ?_) (fun k hk => ?_) (RLs_cong p5 ?_ ?_)⟩
        · rw [up_ne (by omega), p3 c (by omega) (by omega)]
        · rw [up_ne (by omega), p4 j (by omega)]
        · by_cases e : k = 9 + j
          · subst e; rw [up_at, uf_at]
          · rw [up_j e, uf_ne e]; exact n4 k hk
        · rw [up_ne (by omega)]
        · rw [up_ne (by omega)]
      · refine PP.bipush dX6_turn_21 (by decide) ?_
        refine PP.iret dX6_turn_23 rfl ?_
        rw [if_pos (by omega)]
        exact ⟨_, rfl, rfl, hA⟩
    · rw [decide_eq_true ht] at h5; cases h5
  · rw [if_pos ht]
    refine PP.aload_n dX6_turn_0 rfl ?_
    refine PP.iload_n dX6_turn_1 rfl ?_
    refine PP.callVi (m_isThing w3 b3 hx) dX6_turn_2 vl_X6_150 sm0 rfl rfl rfl rfl (Nat.le_of_ble_eq_true rfl) (by first | exact Nat.le_of_ble_eq_true rfl | omega) ?_
    refine PP.if_ne (tgt := 10) (by first | omega | exact b2i_R _) dX6_turn_5 (by decide) (fun h5 => ?_) (fun h5 => ?_)
    · rw [decide_eq_false ht] at h5; exact absurd rfl h5
    · refine PP.iconst dX6_turn_8 ?_
      refine PP.iret dX6_turn_9 rfl ?_
      exact ⟨_, rfl, rfl, hA⟩
theorem x_takeOut {σ : Sg} {A : ST} {t : Int} (hA : RepM σ A) (hW : WF A) (hx : R32 t) : OK SHm mX6_takeOut 20 [vR 0, vI t] σ (RP (fun v τ => v = (spTakeOut A t).1 ∧ RepM τ (spTakeOut A t).2)) := by
  obtain ⟨len, txt, T, n, row, und, kep, sn⟩ := A
  obtain ⟨b1, b2, b3, b4, b5, b6, b7⟩ := RepM_e.mp hA
  obtain ⟨w1, w2, w3, w4, w5, w6, w7, w8, w9⟩ := WF_e.mp hW
  have hn7 := w3.2.1
  have hsl := w3.2.2.1
  have hws := wsh_m w5
  have hst := w5.2.1
  have t3 : σ 2 3 = (n : Int) := (b3 3 (by decide)).trans w3.1
  have t0 := b3 0 (by decide)
  have r0 := b4 0 (by decide)
  have r1 : σ 4 1 = ((msk (wsh row) n : Nat) : Int) := (b4 1 (by decide)).trans hws
  simp only [spTakeOut, isT]
  refine OK.enter (L' := [vR 0, vI t]) (by decide +kernel) (by simp [ent0]) rfl ?_
  by_cases ht : 0 ≤ t ∧ t < (n : Int)
  · obtain ⟨j, rfl⟩ : ∃ j : Nat, t = (j : Int) := ⟨t.toNat, by omega⟩
    have hj : j < n := by omega
    have q2 := b4 (2 + j) (by omega)
    have q9 := b4 (9 + j) (by omega)
    have hrg := wfR_rng w3 w5 hj
    obtain ⟨x1, x2, x3, x4⟩ := w3.2.2.2.2.2.1 j hj
    rw [if_neg (fun h => h ht), Int.toNat_natCast]
    refine PP.aload_n dX6_takeOut_0 rfl ?_
    refine PP.iload_n dX6_takeOut_1 rfl ?_
    refine PP.callVi (m_isThing w3 b3 hx) dX6_takeOut_2 vl_X6_150 sm0 rfl rfl rfl rfl (Nat.le_of_ble_eq_true rfl) (by first | exact Nat.le_of_ble_eq_true rfl | omega) ?_
    refine PP.if_ne (tgt := 10) (by first | omega | assumption | exact b2i_R _ | (unfold R32; omega)) dX6_takeOut_5 (by decide) (fun h5 => ?_) (fun h5 => ?_)
    · refine PP.aload_n dX6_takeOut_10 rfl ?_
      refine PP.getfR dX6_takeOut_11 fl_X6_19 sm0 rfl ?_
      refine PP.iconst dX6_takeOut_14 ?_
      refine PP.iload_n dX6_takeOut_15 rfl ?_
      refine PP.iadd dX6_takeOut_16 ?_
      refine PP.ialoadN (n := (2 + j)) sm4 (by first | decide | omega) (by first | rfl | omega) (by first | omega | assumption | exact b2i_R _ | (unfold R32; omega)) dX6_takeOut_17 ?_
      refine PP.if_ge (tgt := 24) (by first | omega | assumption | exact b2i_R _ | (unfold R32; omega)) dX6_takeOut_18 (by decide) (fun h18 => ?_) (fun h18 => ?_)
      · rw [if_neg (by omega)]
        refine PP.aload_n dX6_takeOut_24 rfl ?_
        refine PP.callVnP (m_note b5 b4) dX6_takeOut_25 vl_X6_173 sm0 rfl rfl rfl rfl (Nat.le_of_ble_eq_true rfl) (by first | exact Nat.le_of_ble_eq_true rfl | omega) (fun τ25 hq25 => ?_)
        obtain ⟨p3, p4, p5⟩ := hq25
        have n4 : ∀ k, k < 16 → τ25 4 k = row k := fun k hk => by rw [p3 4 (by decide) (by decide)]; exact b4 k hk
        have nr := aw_row (t := j) (z := -4) (f := -4) n4
        refine PP.aload_n dX6_takeOut_28 rfl ?_
        refine PP.iload_n dX6_takeOut_29 rfl ?_
        refine PP.callVn (m_away (t := j) (by omega)) dX6_takeOut_30 vl_X6_179 sm0 rfl rfl rfl rfl (Nat.le_of_ble_eq_true rfl) (by first | exact Nat.le_of_ble_eq_true rfl | omega) ?_
        refine PP.aload_n dX6_takeOut_33 rfl ?_
        refine PP.callViP (m_manyIn w3 (mT_cong b3 (by rw [up_ne (by decide), up_ne (by decide), p3 2 (by decide) (by decide)])) (wfR_out w3 w5 hj) nr) dX6_takeOut_34 vl_X6_176 sm0 rfl rfl rfl rfl (Nat.le_of_ble_eq_true rfl) (by first | exact Nat.le_of_ble_eq_true rfl | omega) (fun v34 τ34 hq34 => ?_)
        obtain ⟨p6, p7⟩ := hq34
        refine PP.iret dX6_takeOut_37 rfl ?_
        refine ⟨_, rfl, p6, RepM_act hA (fun c hc => ?_) (fun j hj => ?_) (fun k hk => ?_) (RLs_cong p5 ?_ ?_)⟩
        · rw [p7 c (by omega) (by omega) (by omega), up_ne (by omega), up_ne (by omega), p3 c (by omega) (by omega)]
        · rw [p7 0 (by omega) (by omega) (by omega), up_ne (by omega), up_ne (by omega), p4 j (by omega)]
        · rw [p7 4 (by omega) (by omega) (by omega)]; exact nr k hk
        · rw [p7 0 (by omega) (by omega) (by omega), up_ne (by omega), up_ne (by omega)]
        · rw [p7 6 (by omega) (by omega) (by omega), up_ne (by omega), up_ne (by omega)]
      · refine PP.bipush dX6_takeOut_21 (by decide) ?_
        refine PP.iret dX6_takeOut_23 rfl ?_
        rw [if_pos (by omega)]
        exact ⟨_, rfl, rfl, hA⟩
    · rw [decide_eq_true ht] at h5; cases h5
  · rw [if_pos ht]
    refine PP.aload_n dX6_takeOut_0 rfl ?_
    refine PP.iload_n dX6_takeOut_1 rfl ?_
    refine PP.callVi (m_isThing w3 b3 hx) dX6_takeOut_2 vl_X6_150 sm0 rfl rfl rfl rfl (Nat.le_of_ble_eq_true rfl) (by first | exact Nat.le_of_ble_eq_true rfl | omega) ?_
    refine PP.if_ne (tgt := 10) (by first | omega | exact b2i_R _) dX6_takeOut_5 (by decide) (fun h5 => ?_) (fun h5 => ?_)
    · rw [decide_eq_false ht] at h5; exact absurd rfl h5
    · refine PP.iconst dX6_takeOut_8 ?_
      refine PP.iret dX6_takeOut_9 rfl ?_
      exact ⟨_, rfl, rfl, hA⟩
theorem x_wash {σ : Sg} {A : ST} {t : Int} (hA : RepM σ A) (hW : WF A) (hx : R32 t) : OK SHm mX6_wash 20 [vR 0, vI t] σ (RP (fun v τ => v = (spWash A t).1 ∧ RepM τ (spWash A t).2)) := by
  obtain ⟨len, txt, T, n, row, und, kep, sn⟩ := A
  obtain ⟨b1, b2, b3, b4, b5, b6, b7⟩ := RepM_e.mp hA
  obtain ⟨w1, w2, w3, w4, w5, w6, w7, w8, w9⟩ := WF_e.mp hW
  have hn7 := w3.2.1
  have hsl := w3.2.2.1
  have hws := wsh_m w5
  have hst := w5.2.1
  have t3 : σ 2 3 = (n : Int) := (b3 3 (by decide)).trans w3.1
  have t0 := b3 0 (by decide)
  have r0 := b4 0 (by decide)
  have r1 : σ 4 1 = ((msk (wsh row) n : Nat) : Int) := (b4 1 (by decide)).trans hws
  simp only [spWash, isT]
  refine OK.enter (L' := [vR 0, vI t]) (by decide +kernel) (by simp [ent0]) rfl ?_
  by_cases ht : 0 ≤ t ∧ t < (n : Int)
  · obtain ⟨j, rfl⟩ : ∃ j : Nat, t = (j : Int) := ⟨t.toNat, by omega⟩
    have hj : j < n := by omega
    have q2 := b4 (2 + j) (by omega)
    have q9 := b4 (9 + j) (by omega)
    have hrg := wfR_rng w3 w5 hj
    obtain ⟨x1, x2, x3, x4⟩ := w3.2.2.2.2.2.1 j hj
    rw [if_neg (fun h => h ht), Int.toNat_natCast]
    have h7 := msk_128 (fun u => wsh row u || decide (u = j)) hn7
    refine PP.aload_n dX6_wash_0 rfl ?_
    refine PP.iload_n dX6_wash_1 rfl ?_
    refine PP.callVi (m_isThing w3 b3 hx) dX6_wash_2 vl_X6_150 sm0 rfl rfl rfl rfl (Nat.le_of_ble_eq_true rfl) (by first | exact Nat.le_of_ble_eq_true rfl | omega) ?_
    refine PP.if_ne (tgt := 10) (by first | omega | assumption | exact b2i_R _ | (unfold R32; omega)) dX6_wash_5 (by decide) (fun h5 => ?_) (fun h5 => ?_)
    · refine PP.aload_n dX6_wash_10 rfl ?_
      refine PP.getfR dX6_wash_11 fl_X6_19 sm0 rfl ?_
      refine PP.iconst dX6_wash_14 ?_
      refine PP.ialoadN (n := 1) sm4 (by first | decide | omega) (by first | rfl | omega) (by first | omega | assumption | exact b2i_R _ | (unfold R32; omega)) dX6_wash_15 ?_
      refine PP.eqI r1 ?_
      refine PP.iload_n dX6_wash_16 rfl ?_
      refine PP.callSi (m_has hn7 hj) dX6_wash_17 sl_X6_167 rfl rfl (Nat.le_of_ble_eq_true rfl) (by first | exact Nat.le_of_ble_eq_true rfl | omega) ?_
      refine PP.if_eq (tgt := 26) (by first | omega | assumption | exact b2i_R _ | (unfold R32; omega)) dX6_wash_20 (by decide) (fun h20 => ?_) (fun h20 => ?_)
      · rw [if_neg (by rw [b2i_0.mp h20]; decide)]
        refine PP.aload_n dX6_wash_26 rfl ?_
        refine PP.callVnP (m_note b5 b4) dX6_wash_27 vl_X6_173 sm0 rfl rfl rfl rfl (Nat.le_of_ble_eq_true rfl) (by first | exact Nat.le_of_ble_eq_true rfl | omega) (fun τ27 hq27 => ?_)
        obtain ⟨p3, p4, p5⟩ := hq27
        have n4 : ∀ k, k < 16 → τ27 4 k = row k := fun k hk => by rw [p3 4 (by decide) (by decide)]; exact b4 k hk
        have nr := aw_row (t := j) (z := -4) (f := -4) n4
        refine PP.aload_n dX6_wash_30 rfl ?_
        refine PP.iload_n dX6_wash_31 rfl ?_
        refine PP.callVn (m_away (t := j) (by omega)) dX6_wash_32 vl_X6_179 sm0 rfl rfl rfl rfl (Nat.le_of_ble_eq_true rfl) (by first | exact Nat.le_of_ble_eq_true rfl | omega) ?_
        refine PP.aload_n dX6_wash_35 rfl ?_
        refine PP.getfR dX6_wash_36 fl_X6_19 sm0 rfl ?_
        refine PP.iconst dX6_wash_39 ?_
        refine PP.dup2 rfl rfl dX6_wash_40 ?_
        refine PP.ialoadN (n := 1) sm4 (by first | decide | omega) (by first | rfl | omega) (by first | omega | assumption | exact b2i_R _ | (unfold R32; omega)) dX6_wash_41 ?_
        refine PP.eqI (y := ((msk (wsh row) n : Nat) : Int)) (by rw [up_j (by omega), up_j (by omega), n4 1 (by decide), hws]) ?_
        refine PP.iconst dX6_wash_42 ?_
        refine PP.iload_n dX6_wash_43 rfl ?_
        refine PP.ishlR (z := ((2 ^ j) : Nat)) (shl1_o (by omega)) dX6_wash_44 ?_
        refine PP.iorR (z := ((msk (fun u => wsh row u || decide (u = j)) n) : Nat)) ((ior_n _ _).trans (by rw [msk_upd hj])) dX6_wash_45 ?_
        refine PP.iastoreN (n := 1) sm4 (by first | decide | omega) (by first | rfl | omega) (by first | omega | assumption | exact b2i_R _ | (unfold R32; omega)) (by first | omega | assumption | exact b2i_R _ | (unfold R32; omega)) dX6_wash_46 ?_
        refine PP.aload_n dX6_wash_47 rfl ?_
        refine PP.getfR dX6_wash_48 fl_X6_19 sm0 rfl ?_
        refine PP.iconst dX6_wash_51 ?_
        refine PP.ialoadN (n := 1) sm4 (by first | decide | omega) (by first | rfl | omega) (by first | omega | assumption | exact b2i_R _ | (unfold R32; omega)) dX6_wash_52 ?_
        refine PP.eqI up_at ?_
        refine PP.callSi (m_ones h7) dX6_wash_53 sl_X6_164 rfl rfl (Nat.le_of_ble_eq_true rfl) (by first | exact Nat.le_of_ble_eq_true rfl | omega) ?_
        refine PP.iret dX6_wash_56 rfl ?_
        refine ⟨_, rfl, by rw [pc7_msk hn7], RepM_act hA (fun c hc => ?_) (fun j hj => ?_) (fun k hk => ?_) (RLs_cong p5 ?_ ?_)⟩
        · rw [up_ne (by omega), up_ne (by omega), up_ne (by omega), p3 c (by omega) (by omega)]
        · rw [up_ne (by omega), up_ne (by omega), up_ne (by omega), p4 j (by omega)]
        · unfold wshR
          by_cases e : k = 1
          · subst e; rw [up_at, uf_at]
          · rw [up_j e, uf_ne e]; exact nr k hk
        · rw [up_ne (by omega), up_ne (by omega), up_ne (by omega)]
        · rw [up_ne (by omega), up_ne (by omega), up_ne (by omega)]
      · refine PP.bipush dX6_wash_23 (by decide) ?_
        refine PP.iret dX6_wash_25 rfl ?_
        rw [if_pos (b2i_n.mp h20)]
        exact ⟨_, rfl, rfl, hA⟩
    · rw [decide_eq_true ht] at h5; cases h5
  · rw [if_pos ht]
    refine PP.aload_n dX6_wash_0 rfl ?_
    refine PP.iload_n dX6_wash_1 rfl ?_
    refine PP.callVi (m_isThing w3 b3 hx) dX6_wash_2 vl_X6_150 sm0 rfl rfl rfl rfl (Nat.le_of_ble_eq_true rfl) (by first | exact Nat.le_of_ble_eq_true rfl | omega) ?_
    refine PP.if_ne (tgt := 10) (by first | omega | exact b2i_R _) dX6_wash_5 (by decide) (fun h5 => ?_) (fun h5 => ?_)
    · rw [decide_eq_false ht] at h5; exact absurd rfl h5
    · refine PP.iconst dX6_wash_8 ?_
      refine PP.iret dX6_wash_9 rfl ?_
      exact ⟨_, rfl, rfl, hA⟩
theorem x_water {σ : Sg} {A : ST} {p : Int} (hA : RepM σ A) (hW : WF A) (hx : R32 p) : OK SHm mX6_water 20 [vR 0, vI p] σ (RP (fun v τ => v = (spWater A p).1 ∧ RepM τ (spWater A p).2)) := by
  obtain ⟨len, txt, T, n, row, und, kep, sn⟩ := A
  obtain ⟨b1, b2, b3, b4, b5, b6, b7⟩ := RepM_e.mp hA
  obtain ⟨w1, w2, w3, w4, w5, w6, w7, w8, w9⟩ := WF_e.mp hW
  have hn7 := w3.2.1
  have hsl := w3.2.2.1
  have hws := wsh_m w5
  have hst := w5.2.1
  have t3 : σ 2 3 = (n : Int) := (b3 3 (by decide)).trans w3.1
  have t0 := b3 0 (by decide)
  have r0 := b4 0 (by decide)
  have r1 : σ 4 1 = ((msk (wsh row) n : Nat) : Int) := (b4 1 (by decide)).trans hws
  simp only [spWater]
  refine OK.enter (L' := [vR 0, vI p, vN]) (by decide +kernel) (by simp [ent0]) rfl ?_
  refine PP.iload_n dX6_water_0 rfl ?_
  refine PP.i2l (by first | omega | assumption | exact b2i_R _ | (unfold R32; omega)) dX6_water_1 ?_
  refine PP.lconst (z := 1) dX6_water_2 (by decide) ?_
  refine PP.ldc2 (z := 9) dX6_water_3 bw874 ?_
  refine PP.callSi (m_in hx (by unfold R32; omega) (by unfold R32; omega)) dX6_water_6 sl_X6_70 rfl rfl (Nat.le_of_ble_eq_true rfl) (by first | exact Nat.le_of_ble_eq_true rfl | omega) ?_
  refine PP.if_ne (tgt := 14) (by first | omega | assumption | exact b2i_R _ | (unfold R32; omega)) dX6_water_9 (by decide) (fun h9 => ?_) (fun h9 => ?_)
  · have hz := of_decide_eq_true (b2i_n.mp h9)
    rw [if_neg (fun q => q hz)]
    refine PP.aload_n dX6_water_14 rfl ?_
    refine PP.callVnP (m_note b5 b4) dX6_water_15 vl_X6_173 sm0 rfl rfl rfl rfl (Nat.le_of_ble_eq_true rfl) (by first | exact Nat.le_of_ble_eq_true rfl | omega) (fun τ15 hq15 => ?_)
    obtain ⟨p3, p4, p5⟩ := hq15
    have n4 : ∀ k, k < 16 → τ15 4 k = row k := fun k hk => by rw [p3 4 (by decide) (by decide)]; exact b4 k hk
    refine PP.aload_n dX6_water_18 rfl ?_
    refine PP.getfR dX6_water_19 fl_X6_19 sm0 rfl ?_
    refine PP.iconst dX6_water_22 ?_
    refine PP.ialoadN (n := 0) sm4 (by first | decide | omega) (by first | rfl | omega) (by first | omega | assumption | exact b2i_R _ | (unfold R32; omega)) dX6_water_23 ?_
    refine PP.eqI (n4 0 (by decide)) ?_
    refine PP.istore_n (L' := [_, _, _]) dX6_water_24 (Nat.le_of_ble_eq_true rfl) rfl rfl ?_
    refine PP.aload_n dX6_water_25 rfl ?_
    refine PP.getfR dX6_water_26 fl_X6_19 sm0 rfl ?_
    refine PP.iconst dX6_water_29 ?_
    refine PP.iload_n dX6_water_30 rfl ?_
    refine PP.iastoreN (n := 0) sm4 (by first | decide | omega) (by first | rfl | omega) (by first | omega | assumption | exact b2i_R _ | (unfold R32; omega)) (by first | omega | assumption | exact b2i_R _ | (unfold R32; omega)) dX6_water_31 ?_
    refine PP.iload_n dX6_water_32 rfl ?_
    refine PP.iret dX6_water_33 rfl ?_
    refine ⟨_, rfl, rfl, RepM_act hA (fun c hc => ?_) (fun j hj => ?_) (fun k hk => ?_) (RLs_cong p5 ?_ ?_)⟩
    · rw [up_ne (by omega), p3 c (by omega) (by omega)]
    · rw [up_ne (by omega), p4 j (by omega)]
    · by_cases e : k = 0
      · subst e; rw [up_at, uf_at]
      · rw [up_j e, uf_ne e]; exact n4 k hk
    · rw [up_ne (by omega)]
    · rw [up_ne (by omega)]
  · refine PP.iconst dX6_water_12 ?_
    refine PP.iret dX6_water_13 rfl ?_
    rw [if_pos (of_decide_eq_false (b2i_0.mp h9))]
    exact ⟨_, rfl, rfl, hA⟩
