/-! the model: its state, and its acts -/
def RLs (σ : Sg) (c f m : Nat) (Rs : List (Nat → Int)) : Prop := σ 0 f = (Rs.length : Int) ∧ Rs.length ≤ m ∧ ∀ (k : Nat) (row : Nat → Int) (j : Nat), Rs[k]? = some row → j < 16 → σ c (16 * k + j) = row j
def RepM (σ : Sg) (A : ST) : Prop := σ 0 0 = (A.1 : Int) ∧ (∀ j, j < A.1 → σ 1 j = A.2.1 j) ∧ mT σ A.2.2.1 ∧ (∀ k, k < 16 → σ 4 k = A.2.2.2.2.1 k) ∧ RLs σ 6 8 8 A.2.2.2.2.2.1 ∧ RLs σ 7 10 2 A.2.2.2.2.2.2.1 ∧ ∀ t, t < 7 → σ 8 t = A.2.2.2.2.2.2.2 t
theorem RepM_e {σ : Sg} {len : Nat} {txt T : Nat → Int} {n : Nat} {row : Nat → Int} {und kep : List (Nat → Int)} {sn : Nat → Int} : RepM σ (len, txt, T, n, row, und, kep, sn) ↔ (σ 0 0 = (len : Int) ∧ (∀ j, j < len → σ 1 j = txt j) ∧ mT σ T ∧ (∀ k, k < 16 → σ 4 k = row k) ∧ RLs σ 6 8 8 und ∧ RLs σ 7 10 2 kep ∧ ∀ t, t < 7 → σ 8 t = sn t) := Iff.rfl
theorem RLs_cong {σ τ : Sg} {c f m : Nat} {Rs : List (Nat → Int)} (h : RLs σ c f m Rs) (e0 : τ 0 f = σ 0 f) (e1 : τ c = σ c) : RLs τ c f m Rs := by
  obtain ⟨h1, h2, h3⟩ := h
  exact ⟨by rw [e0]; exact h1, h2, fun k row j hk hj => by rw [e1]; exact h3 k row j hk hj⟩
theorem mT_cong {σ τ : Sg} {T : Nat → Int} (h : mT σ T) (e : τ 2 = σ 2) : mT τ T := fun k hk => by rw [e]; exact h k hk
theorem RepM_cong {σ τ : Sg} {A : ST} (h : RepM σ A) (e : ∀ c, c = 1 ∨ c = 2 ∨ c = 4 ∨ c = 6 ∨ c = 7 ∨ c = 8 → τ c = σ c) (e0 : ∀ j, j = 0 ∨ j = 8 ∨ j = 10 → τ 0 j = σ 0 j) : RepM τ A := by
  obtain ⟨h1, h2, h3, h4, h5, h6, h7⟩ := h
  exact ⟨by rw [e0 0 (by omega)]; exact h1, fun j hj => by rw [e 1 (by omega)]; exact h2 j hj, mT_cong h3 (e 2 (by omega)), fun k hk => by rw [e 4 (by omega)]; exact h4 k hk, RLs_cong h5 (e0 8 (by omega)) (e 6 (by omega)), RLs_cong h6 (e0 10 (by omega)) (e 7 (by omega)), fun t ht => by rw [e 8 (by omega)]; exact h7 t ht⟩
theorem RepM_9 {σ τ : Sg} {A : ST} (h : RepM σ A) (e : ∀ c, c < 9 → τ c = σ c) : RepM τ A := RepM_cong h (fun c hc => e c (by omega)) (fun j _ => by rw [e 0 (by omega)])
theorem MC_up {σ : Sg} {T : Nat → Int} {n : Nat} {row : Nat → Int} (hw : wfT T n) (hr : wfR T n row) (hT : mT σ T) (hS : MS σ T (rP row) (rF row)) : MC σ T n (rP row) (rF row) := ⟨hw, hr.1, hT, hS⟩
theorem x_write {σ : Sg} {A : ST} {x : Int} (hA : RepM σ A) (hW : WF A) (hx : R32 x) : OK SHm mX6_write 20 [vR 0, vI x] σ (RP (fun v τ => v = (spWrite A x).1 ∧ RepM τ (spWrite A x).2)) := by
  obtain ⟨len, txt, T, n, row, und, kep, sn⟩ := A
  obtain ⟨b1, b2, b3, b4, b5, b6, b7⟩ := RepM_e.mp hA
  obtain ⟨w1, w2, w3, w4, w5, w6, w7, w8, w9⟩ := WF_e.mp hW
  have hn7 := w3.2.1
  have hsl := w3.2.2.1
  have hws := wsh_m w5
  have hst := w5.2.1
  have t3 : σ 2 3 = (n : Int) := (b3 3 (by decide)).trans w3.1
  have t0 := b3 0 (by decide)
  have r0 := b4 0 (by decide)
  have r1 : σ 4 1 = ((msk (wsh row) n : Nat) : Int) := (b4 1 (by decide)).trans hws
  simp only [spWrite]
  refine OK.enter (L' := [vR 0, vI x]) (by decide +kernel) (by simp [ent0]) rfl ?_
  refine PP.iload_n dX6_write_0 rfl ?_
  refine PP.i2l (by first | omega | assumption | exact b2i_R _ | (unfold R32; omega)) dX6_write_1 ?_
  refine PP.ldc2 (z := 32) dX6_write_2 bw835 ?_
  refine PP.ldc2 (z := 126) dX6_write_5 bw836 ?_
  refine PP.callSi (m_in hx (by unfold R32; omega) (by unfold R32; omega)) dX6_write_8 sl_X6_70 rfl rfl (Nat.le_of_ble_eq_true rfl) (by first | exact Nat.le_of_ble_eq_true rfl | omega) ?_
  refine PP.if_ne (tgt := 16) (by first | omega | assumption | exact b2i_R _ | (unfold R32; omega)) dX6_write_11 (by decide) (fun h11 => ?_) (fun h11 => ?_)
  · have hz := of_decide_eq_true (b2i_n.mp h11)
    rw [if_neg (fun q => q hz)]
    refine PP.aload_n dX6_write_16 rfl ?_
    refine PP.getfI dX6_write_17 fl_X6_74 sm0 rfl ?_
    refine PP.sipush dX6_write_20 (by decide) ?_
    refine PP.icmp_ne (tgt := 29) (by first | omega | assumption | exact b2i_R _ | (unfold R32; omega)) (by first | omega | assumption | exact b2i_R _ | (unfold R32; omega)) dX6_write_23 (by decide) (fun h23 => ?_) (fun h23 => ?_)
    · rw [if_neg (by omega)]
      refine PP.aload_n dX6_write_29 rfl ?_
      refine PP.getfR dX6_write_30 fl_X6_7 sm0 rfl ?_
      refine PP.aload_n dX6_write_33 rfl ?_
      refine PP.getfI dX6_write_34 fl_X6_74 sm0 rfl ?_
      refine PP.iload_n dX6_write_37 rfl ?_
      refine PP.iastoreN (n := len) sm1 (by first | decide | omega) (by omega) (by first | omega | assumption | exact b2i_R _ | (unfold R32; omega)) (by first | omega | assumption | exact b2i_R _ | (unfold R32; omega)) dX6_write_38 ?_
      refine PP.aload_n dX6_write_39 rfl ?_
      refine PP.dup rfl dX6_write_40 ?_
      refine PP.getfI dX6_write_41 fl_X6_74 sm0 rfl ?_
      refine PP.eqI (y := (len : Int)) (by rw [up_ne (by decide)]; exact b1) ?_
      refine PP.iconst dX6_write_44 ?_
      refine PP.iadd dX6_write_45 ?_
      refine PP.putI dX6_write_46 fp_X6_74 sm0 rfl (by first | omega | assumption | exact b2i_R _ | (unfold R32; omega)) ?_
      refine PP.aload_n dX6_write_49 rfl ?_
      refine PP.getfI dX6_write_50 fl_X6_74 sm0 rfl ?_
      refine PP.eqI up_at ?_
      refine PP.iret dX6_write_53 rfl ?_
      refine ⟨_, rfl, rfl, RepM_e.mpr ⟨?_, fun j hj => ?_, ?_, fun k hk => ?_, ?_, ?_, fun t ht => ?_⟩⟩
      · rw [up_at]; rfl
      · rw [up_ne (by decide)]
        by_cases e : j = len
        · subst e; rw [up_at, uf_at]
        · rw [up_j e, uf_ne e]; exact b2 j (by omega)
      · exact mT_cong b3 (by rw [up_ne (by decide), up_ne (by decide)])
      · rw [up_ne (by decide), up_ne (by decide)]; exact b4 k hk
      · exact RLs_cong b5 (by rw [up_j (by decide), up_ne (by decide)]) (by rw [up_ne (by decide), up_ne (by decide)])
      · exact RLs_cong b6 (by rw [up_j (by decide), up_ne (by decide)]) (by rw [up_ne (by decide), up_ne (by decide)])
      · rw [up_ne (by decide), up_ne (by decide)]; exact b7 t ht
    · refine PP.bipush dX6_write_26 (by decide) ?_
      refine PP.iret dX6_write_28 rfl ?_
      rw [if_pos (by omega)]
      exact ⟨_, rfl, rfl, hA⟩
  · refine PP.iconst dX6_write_14 ?_
    refine PP.iret dX6_write_15 rfl ?_
    rw [if_pos (of_decide_eq_false (b2i_0.mp h11))]
    exact ⟨_, rfl, rfl, hA⟩
theorem x_wipe {σ : Sg} {A : ST} (hA : RepM σ A) (hW : WF A) : OK SHm mX6_wipe 20 [vR 0] σ (RP (fun v τ => v = (spWipe A).1 ∧ RepM τ (spWipe A).2)) := by
  obtain ⟨len, txt, T, n, row, und, kep, sn⟩ := A
  obtain ⟨b1, b2, b3, b4, b5, b6, b7⟩ := RepM_e.mp hA
  obtain ⟨w1, w2, w3, w4, w5, w6, w7, w8, w9⟩ := WF_e.mp hW
  have hn7 := w3.2.1
  have hsl := w3.2.2.1
  have hws := wsh_m w5
  have hst := w5.2.1
  have t3 : σ 2 3 = (n : Int) := (b3 3 (by decide)).trans w3.1
  have t0 := b3 0 (by decide)
  have r0 := b4 0 (by decide)
  have r1 : σ 4 1 = ((msk (wsh row) n : Nat) : Int) := (b4 1 (by decide)).trans hws
  simp only [spWipe]
  refine OK.enter (L' := [vR 0, vN]) (by decide +kernel) (by simp [ent0]) rfl ?_
  refine PP.aload_n dX6_wipe_0 rfl ?_
  refine PP.getfI dX6_wipe_1 fl_X6_74 sm0 rfl ?_
  refine PP.istore_n (L' := [_, _]) dX6_wipe_4 (Nat.le_of_ble_eq_true rfl) rfl rfl ?_
  refine PP.aload_n dX6_wipe_5 rfl ?_
  refine PP.iconst dX6_wipe_6 ?_
  refine PP.putI dX6_wipe_7 fp_X6_74 sm0 rfl (by first | omega | assumption | exact b2i_R _ | (unfold R32; omega)) ?_
  refine PP.iload_n dX6_wipe_10 rfl ?_
  refine PP.iret dX6_wipe_11 rfl ?_
  refine ⟨_, rfl, b1, RepM_e.mpr ⟨?_, fun j hj => by omega, ?_, fun k hk => ?_, ?_, ?_, fun t ht => ?_⟩⟩
  · rw [up_at]; rfl
  · exact mT_cong b3 (by rw [up_ne (by decide)])
  · rw [up_ne (by decide)]; exact b4 k hk
  · exact RLs_cong b5 (by rw [up_j (by decide)]) (by rw [up_ne (by decide)])
  · exact RLs_cong b6 (by rw [up_j (by decide)]) (by rw [up_ne (by decide)])
  · rw [up_ne (by decide)]; exact b7 t ht
theorem x_thing {σ : Sg} {A : ST} {t what : Int} (hA : RepM σ A) (hW : WF A) (hx : R32 t) (hx2 : R32 what) : OK SHm mX6_thing 20 [vR 0, vI t, vI what] σ (RP (fun v τ => v = qThing A t what ∧ RepM τ A)) := by
  obtain ⟨len, txt, T, n, row, und, kep, sn⟩ := A
  obtain ⟨b1, b2, b3, b4, b5, b6, b7⟩ := RepM_e.mp hA
  obtain ⟨w1, w2, w3, w4, w5, w6, w7, w8, w9⟩ := WF_e.mp hW
  have hn7 := w3.2.1
  have hsl := w3.2.2.1
  have hws := wsh_m w5
  have hst := w5.2.1
  have t3 : σ 2 3 = (n : Int) := (b3 3 (by decide)).trans w3.1
  have t0 := b3 0 (by decide)
  have r0 := b4 0 (by decide)
  have r1 : σ 4 1 = ((msk (wsh row) n : Nat) : Int) := (b4 1 (by decide)).trans hws
  simp only [qThing, isT]
  refine OK.enter (L' := [vR 0, vI t, vI what]) (by decide +kernel) (by simp [ent0]) rfl ?_
  by_cases ht : 0 ≤ t ∧ t < (n : Int)
  · obtain ⟨j, rfl⟩ : ∃ j : Nat, t = (j : Int) := ⟨t.toNat, by omega⟩
    have hj : j < n := by omega
    have q2 := b4 (2 + j) (by omega)
    have q9 := b4 (9 + j) (by omega)
    have hrg := wfR_rng w3 w5 hj
    obtain ⟨x1, x2, x3, x4⟩ := w3.2.2.2.2.2.1 j hj
    have g1 := b3 (4 + j) (by omega)
    have g2 := b3 (11 + j) (by omega)
    have g3 := b3 (18 + j) (by omega)
    have g4 := b3 (25 + j) (by omega)
    rw [if_neg (fun h => h ht), Int.toNat_natCast]
    refine PP.aload_n dX6_thing_0 rfl ?_
    refine PP.iload_n dX6_thing_1 rfl ?_
    refine PP.callVi (m_isThing w3 b3 hx) dX6_thing_2 vl_X6_150 sm0 rfl rfl rfl rfl (Nat.le_of_ble_eq_true rfl) (by first | exact Nat.le_of_ble_eq_true rfl | omega) ?_
    refine PP.if_eq (tgt := 20) (by first | omega | assumption | exact b2i_R _ | (unfold R32; omega)) dX6_thing_5 (by decide) (fun h5 => ?_) (fun h5 => ?_)
    · rw [decide_eq_true ht] at h5; cases h5
    · refine PP.iload_n dX6_thing_8 rfl ?_
      refine PP.i2l (by first | omega | assumption | exact b2i_R _ | (unfold R32; omega)) dX6_thing_9 ?_
      refine PP.lconst (z := 0) dX6_thing_10 (by decide) ?_
      refine PP.ldc2 (z := 6) dX6_thing_11 bw891 ?_
      refine PP.callSi (m_in hx2 (by unfold R32; omega) (by unfold R32; omega)) dX6_thing_14 sl_X6_70 rfl rfl (Nat.le_of_ble_eq_true rfl) (by first | exact Nat.le_of_ble_eq_true rfl | omega) ?_
      refine PP.if_ne (tgt := 22) (by first | omega | assumption | exact b2i_R _ | (unfold R32; omega)) dX6_thing_17 (by decide) (fun h17 => ?_) (fun h17 => ?_)
      · have hz := of_decide_eq_true (b2i_n.mp h17)
        refine PP.iload_n dX6_thing_22 rfl ?_
        by_cases hs23_0 : what = 0
        · refine PP.tabI (i := 0) (off := 37) (tgt := 60) (by omega) (by omega) (by decide) (by first | omega | assumption | exact b2i_R _ | (unfold R32; omega)) dX6_thing_23 rfl (by decide) ?_
          refine PP.aload_n dX6_thing_60 rfl ?_
          refine PP.getfR dX6_thing_61 fl_X6_13 sm0 rfl ?_
          refine PP.iconst dX6_thing_64 ?_
          refine PP.iload_n dX6_thing_65 rfl ?_
          refine PP.iadd dX6_thing_66 ?_
          refine PP.ialoadN (n := (4 + j)) sm2 (by first | decide | omega) (by first | rfl | omega) (by first | omega | assumption | exact b2i_R _ | (unfold R32; omega)) dX6_thing_67 ?_
          refine PP.iret dX6_thing_68 rfl ?_
          rw [if_pos (by omega)]; exact ⟨_, rfl, g1, hA⟩
        by_cases hs23_1 : what = 1
        · refine PP.tabI (i := 1) (off := 46) (tgt := 69) (by omega) (by omega) (by decide) (by first | omega | assumption | exact b2i_R _ | (unfold R32; omega)) dX6_thing_23 rfl (by decide) ?_
          refine PP.aload_n dX6_thing_69 rfl ?_
          refine PP.getfR dX6_thing_70 fl_X6_13 sm0 rfl ?_
          refine PP.bipush dX6_thing_73 (by decide) ?_
          refine PP.iload_n dX6_thing_75 rfl ?_
          refine PP.iadd dX6_thing_76 ?_
          refine PP.ialoadN (n := (11 + j)) sm2 (by first | decide | omega) (by first | rfl | omega) (by first | omega | assumption | exact b2i_R _ | (unfold R32; omega)) dX6_thing_77 ?_
          refine PP.iret dX6_thing_78 rfl ?_
          rw [if_neg (by omega), if_pos (by omega)]; exact ⟨_, rfl, g2, hA⟩
        by_cases hs23_2 : what = 2
        · refine PP.tabI (i := 2) (off := 56) (tgt := 79) (by omega) (by omega) (by decide) (by first | omega | assumption | exact b2i_R _ | (unfold R32; omega)) dX6_thing_23 rfl (by decide) ?_
          refine PP.aload_n dX6_thing_79 rfl ?_
          refine PP.getfR dX6_thing_80 fl_X6_13 sm0 rfl ?_
          refine PP.bipush dX6_thing_83 (by decide) ?_
          refine PP.iload_n dX6_thing_85 rfl ?_
          refine PP.iadd dX6_thing_86 ?_
          refine PP.ialoadN (n := (18 + j)) sm2 (by first | decide | omega) (by first | rfl | omega) (by first | omega | assumption | exact b2i_R _ | (unfold R32; omega)) dX6_thing_87 ?_
          refine PP.iret dX6_thing_88 rfl ?_
          rw [if_neg (by omega), if_neg (by omega), if_pos (by omega)]; exact ⟨_, rfl, g3, hA⟩
        by_cases hs23_3 : what = 3
        · refine PP.tabI (i := 3) (off := 66) (tgt := 89) (by omega) (by omega) (by decide) (by first | omega | assumption | exact b2i_R _ | (unfold R32; omega)) dX6_thing_23 rfl (by decide) ?_
          refine PP.aload_n dX6_thing_89 rfl ?_
          refine PP.getfR dX6_thing_90 fl_X6_13 sm0 rfl ?_
          refine PP.bipush dX6_thing_93 (by decide) ?_
          refine PP.iload_n dX6_thing_95 rfl ?_
          refine PP.iadd dX6_thing_96 ?_
          refine PP.ialoadN (n := (25 + j)) sm2 (by first | decide | omega) (by first | rfl | omega) (by first | omega | assumption | exact b2i_R _ | (unfold R32; omega)) dX6_thing_97 ?_
          refine PP.iret dX6_thing_98 rfl ?_
          rw [if_neg (by omega), if_neg (by omega), if_neg (by omega), if_pos (by omega)]; exact ⟨_, rfl, g4, hA⟩
        by_cases hs23_4 : what = 4
        · refine PP.tabI (i := 4) (off := 76) (tgt := 99) (by omega) (by omega) (by decide) (by first | omega | assumption | exact b2i_R _ | (unfold R32; omega)) dX6_thing_23 rfl (by decide) ?_
          refine PP.aload_n dX6_thing_99 rfl ?_
          refine PP.getfR dX6_thing_100 fl_X6_19 sm0 rfl ?_
          refine PP.iconst dX6_thing_103 ?_
          refine PP.iload_n dX6_thing_104 rfl ?_
          refine PP.iadd dX6_thing_105 ?_
          refine PP.ialoadN (n := (2 + j)) sm4 (by first | decide | omega) (by first | rfl | omega) (by first | omega | assumption | exact b2i_R _ | (unfold R32; omega)) dX6_thing_106 ?_
          refine PP.iret dX6_thing_107 rfl ?_
          rw [if_neg (by omega), if_neg (by omega), if_neg (by omega), if_neg (by omega), if_pos (by omega)]; exact ⟨_, rfl, q2, hA⟩
        by_cases hs23_5 : what = 5
        · refine PP.tabI (i := 5) (off := 85) (tgt := 108) (by omega) (by omega) (by decide) (by first | omega | assumption | exact b2i_R _ | (unfold R32; omega)) dX6_thing_23 rfl (by decide) ?_
          refine PP.aload_n dX6_thing_108 rfl ?_
          refine PP.getfR dX6_thing_109 fl_X6_19 sm0 rfl ?_
          refine PP.bipush dX6_thing_112 (by decide) ?_
          refine PP.iload_n dX6_thing_114 rfl ?_
          refine PP.iadd dX6_thing_115 ?_
          refine PP.ialoadN (n := (9 + j)) sm4 (by first | decide | omega) (by first | rfl | omega) (by first | omega | assumption | exact b2i_R _ | (unfold R32; omega)) dX6_thing_116 ?_
          refine PP.iret dX6_thing_117 rfl ?_
          rw [if_neg (by omega), if_neg (by omega), if_neg (by omega), if_neg (by omega), if_neg (by omega), if_pos (by omega)]; exact ⟨_, rfl, q9, hA⟩
        refine PP.tabO (tgt := 118) (by omega) (by first | omega | assumption | exact b2i_R _ | (unfold R32; omega)) dX6_thing_23 (by decide) ?_
        refine PP.aload_n dX6_thing_118 rfl ?_
        refine PP.getfR dX6_thing_119 fl_X6_19 sm0 rfl ?_
        refine PP.iconst dX6_thing_122 ?_
        refine PP.ialoadN (n := 1) sm4 (by first | decide | omega) (by first | rfl | omega) (by first | omega | assumption | exact b2i_R _ | (unfold R32; omega)) dX6_thing_123 ?_
        refine PP.eqI r1 ?_
        refine PP.iload_n dX6_thing_124 rfl ?_
        refine PP.ishrR (z := ((msk (wsh row) n / 2 ^ j) : Nat)) (shr_msk hn7 (by omega)) dX6_thing_125 ?_
        refine PP.iconst dX6_thing_126 ?_
        refine PP.iandR (z := (b2i (wsh row j))) (and_bit hj) dX6_thing_127 ?_
        refine PP.iret dX6_thing_128 rfl ?_
        rw [if_neg (by omega), if_neg (by omega), if_neg (by omega), if_neg (by omega), if_neg (by omega), if_neg (by omega), if_pos (by omega)]; exact ⟨_, rfl, rfl, hA⟩
      · refine PP.iconst dX6_thing_20 ?_
        refine PP.iret dX6_thing_21 rfl ?_
        have hz := of_decide_eq_false (b2i_0.mp h17)
        rw [if_neg (by omega), if_neg (by omega), if_neg (by omega), if_neg (by omega), if_neg (by omega), if_neg (by omega), if_neg (by omega)]
        exact ⟨_, rfl, rfl, hA⟩
  · rw [if_pos ht]
    refine PP.aload_n dX6_thing_0 rfl ?_
    refine PP.iload_n dX6_thing_1 rfl ?_
    refine PP.callVi (m_isThing w3 b3 hx) dX6_thing_2 vl_X6_150 sm0 rfl rfl rfl rfl (Nat.le_of_ble_eq_true rfl) (by first | exact Nat.le_of_ble_eq_true rfl | omega) ?_
    refine PP.if_eq (tgt := 20) (by first | omega | exact b2i_R _) dX6_thing_5 (by decide) (fun h5 => ?_) (fun h5 => ?_)
    · refine PP.iconst dX6_thing_20 ?_
      refine PP.iret dX6_thing_21 rfl ?_
      exact ⟨_, rfl, rfl, hA⟩
    · rw [decide_eq_false ht] at h5; exact absurd rfl h5
theorem x_slot {σ : Sg} {A : ST} {s : Int} (hA : RepM σ A) (hW : WF A) (hx : R32 s) : OK SHm mX6_slot 20 [vR 0, vI s] σ (RP (fun v τ => v = qSlot A s ∧ RepM τ A)) := by
  obtain ⟨len, txt, T, n, row, und, kep, sn⟩ := A
  obtain ⟨b1, b2, b3, b4, b5, b6, b7⟩ := RepM_e.mp hA
  obtain ⟨w1, w2, w3, w4, w5, w6, w7, w8, w9⟩ := WF_e.mp hW
  have hn7 := w3.2.1
  have hsl := w3.2.2.1
  have hws := wsh_m w5
  have hst := w5.2.1
  have t3 : σ 2 3 = (n : Int) := (b3 3 (by decide)).trans w3.1
  have t0 := b3 0 (by decide)
  have r0 := b4 0 (by decide)
  have r1 : σ 4 1 = ((msk (wsh row) n : Nat) : Int) := (b4 1 (by decide)).trans hws
  simp only [qSlot]
  refine OK.enter (L' := [vR 0, vI s, vN]) (by decide +kernel) (by simp [ent0]) rfl ?_
  have key : (0 ≤ s ∧ s < T 0) → ∀ o, o ≤ n → ownS T (rP row) s o (n - o) = ownS T (rP row) s 0 n → PP SHm mX6_slot 20 12 [vR 0, vI s, vI (o : Int)] [] σ (RP (fun v τ => v = ownS T (rP row) s 0 n ∧ RepM τ (len, txt, T, n, row, und, kep, sn))) := by
    intro hs
    refine loop_dn n ?_ ?_
    · intro he
      refine PP.iload_n dX6_slot_12 rfl ?_
      refine PP.aload_n dX6_slot_13 rfl ?_
      refine PP.getfR dX6_slot_14 fl_X6_13 sm0 rfl ?_
      refine PP.iconst dX6_slot_17 ?_
      refine PP.ialoadN (n := 3) sm2 (by first | decide | omega) (by first | rfl | omega) (by first | omega | (unfold R32; omega)) dX6_slot_18 ?_
      refine PP.icmp_ge (tgt := 79) (by first | omega | (unfold R32; omega)) (by first | omega | (unfold R32; omega)) dX6_slot_19 (by decide) (fun h19 => ?_) (fun h19 => ?_)
      · refine PP.bipush dX6_slot_79 (by decide) ?_
        refine PP.iret dX6_slot_81 rfl ?_
        exact ⟨_, rfl, by rw [← he, Nat.sub_self]; rfl, hA⟩
      · omega
    · intro o ho ih he
      obtain ⟨v1, v2, v3, v4⟩ := w3.2.2.2.2.2.1 o ho
      have k2 := b3 (11 + o) (by omega)
      have q2 := b4 (2 + o) (by omega)
      have hrg := wfR_rng w3 w5 ho
      have eP : rP row o = row (2 + o) := rfl
      rw [show n - o = (n - (o + 1)) + 1 by omega, ownS] at he
      refine PP.iload_n dX6_slot_12 rfl ?_
      refine PP.aload_n dX6_slot_13 rfl ?_
      refine PP.getfR dX6_slot_14 fl_X6_13 sm0 rfl ?_
      refine PP.iconst dX6_slot_17 ?_
      refine PP.ialoadN (n := 3) sm2 (by first | decide | omega) (by first | rfl | omega) (by first | omega | assumption | exact b2i_R _ | (unfold R32; omega)) dX6_slot_18 ?_
      refine PP.icmp_ge (tgt := 79) (by first | omega | assumption | exact b2i_R _ | (unfold R32; omega)) (by first | omega | assumption | exact b2i_R _ | (unfold R32; omega)) dX6_slot_19 (by decide) (fun h19 => ?_) (fun h19 => ?_)
      · omega
      · refine PP.aload_n dX6_slot_22 rfl ?_
        refine PP.getfR dX6_slot_23 fl_X6_19 sm0 rfl ?_
        refine PP.iconst dX6_slot_26 ?_
        refine PP.iload_n dX6_slot_27 rfl ?_
        refine PP.iadd dX6_slot_28 ?_
        refine PP.ialoadN (n := (2 + o)) sm4 (by first | decide | omega) (by first | rfl | omega) (by first | omega | assumption | exact b2i_R _ | (unfold R32; omega)) dX6_slot_29 ?_
        refine PP.if_lt (tgt := 73) (by first | omega | assumption | exact b2i_R _ | (unfold R32; omega)) dX6_slot_30 (by decide) (fun h30 => ?_) (fun h30 => ?_)
        · refine PP.iinc (L' := [_, _, _]) dX6_slot_73 rfl rfl rfl ?_
          refine PP.goto (tgt := 12) dX6_slot_76 (by decide) ?_
          refine ih ?_
          first
            | (rw [if_neg (fun q => by have := q.1; omega)] at he; exact he)
            | (have hz := of_decide_eq_false (b2i_0.mp h68)
               rw [if_neg (fun q => by omega)] at he; exact he)
        · refine PP.iload_n dX6_slot_33 rfl ?_
          refine PP.i2l (by first | omega | assumption | exact b2i_R _ | (unfold R32; omega)) dX6_slot_34 ?_
          refine PP.aload_n dX6_slot_35 rfl ?_
          refine PP.getfR dX6_slot_36 fl_X6_19 sm0 rfl ?_
          refine PP.iconst dX6_slot_39 ?_
          refine PP.iload_n dX6_slot_40 rfl ?_
          refine PP.iadd dX6_slot_41 ?_
          refine PP.ialoadN (n := (2 + o)) sm4 (by first | decide | omega) (by first | rfl | omega) (by first | omega | assumption | exact b2i_R _ | (unfold R32; omega)) dX6_slot_42 ?_
          refine PP.i2l (by first | omega | assumption | exact b2i_R _ | (unfold R32; omega)) dX6_slot_43 ?_
          refine PP.aload_n dX6_slot_44 rfl ?_
          refine PP.getfR dX6_slot_45 fl_X6_19 sm0 rfl ?_
          refine PP.iconst dX6_slot_48 ?_
          refine PP.iload_n dX6_slot_49 rfl ?_
          refine PP.iadd dX6_slot_50 ?_
          refine PP.ialoadN (n := (2 + o)) sm4 (by first | decide | omega) (by first | rfl | omega) (by first | omega | assumption | exact b2i_R _ | (unfold R32; omega)) dX6_slot_51 ?_
          refine PP.aload_n dX6_slot_52 rfl ?_
          refine PP.getfR dX6_slot_53 fl_X6_13 sm0 rfl ?_
          refine PP.bipush dX6_slot_56 (by decide) ?_
          refine PP.iload_n dX6_slot_58 rfl ?_
          refine PP.iadd dX6_slot_59 ?_
          refine PP.ialoadN (n := (11 + o)) sm2 (by first | decide | omega) (by first | rfl | omega) (by first | omega | assumption | exact b2i_R _ | (unfold R32; omega)) dX6_slot_60 ?_
          refine PP.iadd dX6_slot_61 ?_
          refine PP.iconst dX6_slot_62 ?_
          refine PP.isub dX6_slot_63 ?_
          refine PP.i2l (by first | omega | assumption | exact b2i_R _ | (unfold R32; omega)) dX6_slot_64 ?_
          refine PP.callSi (m_in hx (by unfold R32; omega) (by unfold R32; omega)) dX6_slot_65 sl_X6_70 rfl rfl (Nat.le_of_ble_eq_true rfl) (by first | exact Nat.le_of_ble_eq_true rfl | omega) ?_
          refine PP.if_eq (tgt := 73) (by first | omega | assumption | exact b2i_R _ | (unfold R32; omega)) dX6_slot_68 (by decide) (fun h68 => ?_) (fun h68 => ?_)
          · refine PP.iinc (L' := [_, _, _]) dX6_slot_73 rfl rfl rfl ?_
            refine PP.goto (tgt := 12) dX6_slot_76 (by decide) ?_
            refine ih ?_
            first
              | (rw [if_neg (fun q => by have := q.1; omega)] at he; exact he)
              | (have hz := of_decide_eq_false (b2i_0.mp h68)
                 rw [if_neg (fun q => by omega)] at he; exact he)
          · refine PP.iload_n dX6_slot_71 rfl ?_
            refine PP.iret dX6_slot_72 rfl ?_
            have hz := of_decide_eq_true (b2i_n.mp h68)
            rw [if_pos ⟨by omega, by omega, by omega⟩] at he
            exact ⟨_, rfl, he, hA⟩
  refine PP.aload_n dX6_slot_0 rfl ?_
  refine PP.iload_n dX6_slot_1 rfl ?_
  refine PP.callVi (m_isSlot w3 b3 hx) dX6_slot_2 vl_X6_155 sm0 rfl rfl rfl rfl (Nat.le_of_ble_eq_true rfl) (by first | exact Nat.le_of_ble_eq_true rfl | omega) ?_
  refine PP.if_ne (tgt := 10) (by first | omega | exact b2i_R _) dX6_slot_5 (by decide) (fun h5 => ?_) (fun h5 => ?_)
  · have hz := of_decide_eq_true (b2i_n.mp h5)
    rw [if_neg (fun q => q hz)]
    refine PP.iconst dX6_slot_10 ?_
    refine PP.istore_n (L' := [_, _, _]) dX6_slot_11 (Nat.le_of_ble_eq_true rfl) rfl rfl ?_
    exact key hz 0 (by omega) rfl
  · refine PP.iconst dX6_slot_8 ?_
    refine PP.iret dX6_slot_9 rfl ?_
    rw [if_pos (of_decide_eq_false (b2i_0.mp h5))]
    exact ⟨_, rfl, rfl, hA⟩
