/-! the component's calls: racks, acts -/
theorem RepC_e {σ : Sg} {len : Nat} {txt T : Nat → Int} {n : Nat} {row : Nat → Int} {und kep : List (Nat → Int)} {sn : Nat → Int} : RepC σ (len, txt, T, n, row, und, kep, sn) ↔ (σ 0 1 = (len : Int) ∧ (∀ j, j < len → σ 1 j = txt j) ∧ DR σ 14 T n ∧ RW σ 20 T row ∧ SHR σ 35 8 und ∧ SHR σ 37 2 kep ∧ σ 0 9 = (msk (snP sn) n : Nat) ∧ σ 0 10 = (msk (snC sn) n : Nat) ∧ CH σ T n) := Iff.rfl
theorem WF_e {len : Nat} {txt T : Nat → Int} {n : Nat} {row : Nat → Int} {und kep : List (Nat → Int)} {sn : Nat → Int} : WF (len, txt, T, n, row, und, kep, sn) ↔ (len ≤ 200 ∧ (∀ j, j < len → 32 ≤ txt j ∧ txt j ≤ 126) ∧ wfT T n ∧ 1 ≤ n ∧ wfR T n row ∧ (∀ r ∈ und, wfR T n r) ∧ (∀ r ∈ kep, wfR T n r) ∧ (∀ t, sn t = -4 ∨ sn t = 0 ∨ sn t = 1) ∧ ∀ t, n ≤ t → sn t = -4) := Iff.rfl
theorem RepC_act {σ τ : Sg} {len : Nat} {txt T : Nat → Int} {n : Nat} {row row' : Nat → Int} {und kep : List (Nat → Int)} {sn : Nat → Int} (h : RepC σ (len, txt, T, n, row, und, kep, sn)) (e : ∀ c, c < 2 ∨ (14 ≤ c ∧ c < 20) ∨ c = 28 ∨ c = 34 ∨ 37 ≤ c → τ c = σ c) (hR : RW τ 20 T row') (hS : SHR τ 35 8 (pushL 8 und row)) : RepC τ (act (len, txt, T, n, row, und, kep, sn) row') := by
  obtain ⟨h1, h2, h3, h4, h5, h6, h7, h8, h9⟩ := RepC_e.mp h
  exact RepC_e.mpr ⟨by rw [e 0 (by omega)]; exact h1, fun j hj => by rw [e 1 (by omega)]; exact h2 j hj, DR_cong h3 (fun c _ _ => e c (by omega)), hR, hS, SHR_cong h6 (e _ (by omega)) (e _ (by omega)), by rw [e 0 (by omega)]; exact h7, by rw [e 0 (by omega)]; exact h8, CH_cong h9 (e _ (by omega)) (e _ (by omega))⟩
theorem RC_of {σ : Sg} {T : Nat → Int} {n : Nat} {row : Nat → Int} (hw : wfT T n) (hr : wfR T n row) (hD : DR σ 14 T n) (hR : RW σ 20 T row) : RC σ 20 14 T n (rP row) (rF row) := ⟨RK20, DK14, hw, hr.1, hD, hR.1⟩
theorem c_write {σ : Sg} {A : ST} {x : Int} (hA : RepC σ A) (hW : WF A) (hx : R32 x) : OK SHc mX5_write 20 [vR 0, vI x] σ (RP (fun v τ => v = (spWrite A x).1 ∧ RepC τ (spWrite A x).2)) := by
  obtain ⟨len, txt, T, n, row, und, kep, sn⟩ := A
  obtain ⟨a1, a2, a3, a4, a5, a6, a7, a8, a9⟩ := RepC_e.mp hA
  obtain ⟨w1, w2, -⟩ := WF_e.mp hW
  simp only [spWrite]
  refine OK.enter (L' := [vR 0, vI x]) (by decide +kernel) (by simp [ent0]) rfl ?_
  refine PP.rg (fun hg => ?_)
  refine PP.iload_n dX5_write_0 rfl ?_
  refine PP.bipush dX5_write_1 (by decide) ?_
  refine PP.icmp_lt (tgt := 12) (by first | omega | assumption | exact hg _ _ | (unfold R32; omega)) (by first | omega | assumption | exact hg _ _ | (unfold R32; omega)) dX5_write_3 (by decide) (fun h3 => ?_) (fun h3 => ?_)
  · refine PP.iconst dX5_write_12 ?_
    refine PP.iret dX5_write_13 rfl ?_
    rw [if_pos (by omega)]
    exact ⟨_, rfl, rfl, hA⟩
  · refine PP.iload_n dX5_write_6 rfl ?_
    refine PP.bipush dX5_write_7 (by decide) ?_
    refine PP.icmp_le (tgt := 14) (by first | omega | assumption | exact hg _ _ | (unfold R32; omega)) (by first | omega | assumption | exact hg _ _ | (unfold R32; omega)) dX5_write_9 (by decide) (fun h9 => ?_) (fun h9 => ?_)
    · refine PP.aload_n dX5_write_14 rfl ?_
      refine PP.getfI dX5_write_15 fl_X5_83 sc0 rfl ?_
      refine PP.sipush dX5_write_18 (by decide) ?_
      refine PP.icmp_lt (tgt := 27) (by first | omega | assumption | exact hg _ _ | (unfold R32; omega)) (by first | omega | assumption | exact hg _ _ | (unfold R32; omega)) dX5_write_21 (by decide) (fun h21 => ?_) (fun h21 => ?_)
      · refine PP.aload_n dX5_write_27 rfl ?_
        refine PP.getfR dX5_write_28 fl_X5_9 sc0 rfl ?_
        refine PP.aload_n dX5_write_31 rfl ?_
        refine PP.getfI dX5_write_32 fl_X5_83 sc0 rfl ?_
        refine PP.eqI (y := ((len : Nat) : Int)) a1 ?_
        refine PP.iload_n dX5_write_35 rfl ?_
        refine PP.iastoreN (n := len) sc1 (by first | decide | omega) (by first | rfl | omega) (by first | omega | assumption | exact hg _ _ | (unfold R32; omega)) (by first | omega | assumption | exact hg _ _ | (unfold R32; omega)) dX5_write_36 ?_
        refine PP.aload_n dX5_write_37 rfl ?_
        refine PP.dup rfl dX5_write_38 ?_
        refine PP.getfI dX5_write_39 fl_X5_83 sc0 rfl ?_
        refine PP.eqI (y := ((len : Nat) : Int)) (by rw [up_ne (by decide)]; exact a1) ?_
        refine PP.iconst dX5_write_42 ?_
        refine PP.iadd dX5_write_43 ?_
        refine PP.putI dX5_write_44 fp_X5_83 sc0 rfl (by first | omega | assumption | exact hg _ _ | (unfold R32; omega)) ?_
        refine PP.aload_n dX5_write_47 rfl ?_
        refine PP.getfI dX5_write_48 fl_X5_83 sc0 rfl ?_
        refine PP.eqI (y := ((len : Int) + 1)) up_at ?_
        refine PP.iret dX5_write_51 rfl ?_
        rw [if_neg (by omega), if_neg (by omega)]
        refine ⟨_, rfl, rfl, RepC_e.mpr ⟨?_, fun j hj => ?_, ?_, ?_, ?_, ?_, ?_, ?_, ?_⟩⟩
        · rw [up_at]; omega
        · rw [up_ne (by decide)]
          by_cases e : j = len
          · subst e; rw [up_at, uf_at]
          · rw [up_j e, uf_ne e]; exact a2 j (by omega)
        · exact DR_cong a3 (fun c _ _ => by rw [up_ne (by omega), up_ne (by omega)])
        · exact RW_cong a4 (fun c _ _ => by rw [up_ne (by omega), up_ne (by omega)])
        · exact SHR_cong a5 (by rw [up_ne (by omega), up_ne (by omega)]) (by rw [up_ne (by omega), up_ne (by omega)])
        · exact SHR_cong a6 (by rw [up_ne (by omega), up_ne (by omega)]) (by rw [up_ne (by omega), up_ne (by omega)])
        · rw [up_j (by decide), up_ne (by decide)]; exact a7
        · rw [up_j (by decide), up_ne (by decide)]; exact a8
        · exact CH_cong a9 (by rw [up_ne (by omega), up_ne (by omega)]) (by rw [up_ne (by omega), up_ne (by omega)])
      · refine PP.bipush dX5_write_24 (by decide) ?_
        refine PP.iret dX5_write_26 rfl ?_
        rw [if_neg (by omega), if_pos (by omega)]
        exact ⟨_, rfl, rfl, hA⟩
    · refine PP.iconst dX5_write_12 ?_
      refine PP.iret dX5_write_13 rfl ?_
      rw [if_pos (by omega)]
      exact ⟨_, rfl, rfl, hA⟩
theorem c_wipe {σ : Sg} {A : ST} (hA : RepC σ A) (hW : WF A) : OK SHc mX5_wipe 20 [vR 0] σ (RP (fun v τ => v = (spWipe A).1 ∧ RepC τ (spWipe A).2)) := by
  obtain ⟨len, txt, T, n, row, und, kep, sn⟩ := A
  obtain ⟨a1, a2, a3, a4, a5, a6, a7, a8, a9⟩ := RepC_e.mp hA
  simp only [spWipe]
  refine OK.enter (L' := [vR 0, vN]) (by decide +kernel) (by simp [ent0]) rfl ?_
  refine PP.aload_n dX5_wipe_0 rfl ?_
  refine PP.getfI dX5_wipe_1 fl_X5_83 sc0 rfl ?_
  refine PP.istore_n (L' := [_, _]) dX5_wipe_4 (Nat.le_of_ble_eq_true rfl) rfl rfl ?_
  refine PP.aload_n dX5_wipe_5 rfl ?_
  refine PP.iconst dX5_wipe_6 ?_
  refine PP.putI dX5_wipe_7 fp_X5_83 sc0 rfl (by first | omega | (unfold R32; omega)) ?_
  refine PP.iload_n dX5_wipe_10 rfl ?_
  refine PP.iret dX5_wipe_11 rfl ?_
  refine ⟨_, rfl, a1, RepC_e.mpr ⟨?_, fun j hj => ?_, ?_, ?_, ?_, ?_, ?_, ?_, ?_⟩⟩
  · rw [up_at]; rfl
  · omega
  · exact DR_cong a3 (fun c _ _ => by rw [up_ne (by omega)])
  · exact RW_cong a4 (fun c _ _ => by rw [up_ne (by omega)])
  · exact SHR_cong a5 (by rw [up_ne (by omega)]) (by rw [up_ne (by omega)])
  · exact SHR_cong a6 (by rw [up_ne (by omega)]) (by rw [up_ne (by omega)])
  · rw [up_j (by decide)]; exact a7
  · rw [up_j (by decide)]; exact a8
  · exact CH_cong a9 (by rw [up_ne (by omega)]) (by rw [up_ne (by omega)])
theorem rdA_txt {x y : Nat → Int} {b : Nat} (h : ∀ j, j < b → x j = y j) : ∀ (k i : Nat) (st : RS) (v : Int) (z : RS), rdA x b k i st v z → rdA y b k i st v z := by
  have hN : ∀ (k i : Nat) (ns : List Int) (fig : Nat) (num : Int), i + k ≤ b → rdN x k i ns fig num = rdN y k i ns fig num := by
    intro k
    induction k with
    | zero => intro i ns fig num _; rfl
    | succ k ih =>
      intro i ns fig num hk
      rw [rdN, rdN, h i (by omega), ih _ _ _ _ (by omega), ih _ _ _ _ (by omega)]
  intro k
  induction k with
  | zero => intro i st v z hz; exact hz
  | succ k ih =>
    intro i st v z hz
    rcases hz with h1 | ⟨h1, h2⟩
    · exact Or.inl h1
    · refine Or.inr ⟨h1, ?_⟩
      rw [← hN _ _ _ _ _ (by omega), ← h i h1]
      rcases h2 with h2 | ⟨ns, nx, h2, h3⟩
      · exact Or.inl h2
      · refine Or.inr ⟨ns, nx, h2, ?_⟩
        rcases h3 with h3 | ⟨st', h3, h4⟩
        · exact Or.inl h3
        · exact Or.inr ⟨st', h3, ih _ _ _ _ h4⟩
theorem rdA_rng {x : Nat → Int} {b : Nat} : ∀ {k i : Nat} {st : RS} {v : Int} {y : RS}, rdA x b k i st v y → b ≤ 200 → -4 ≤ v ∧ v ≤ 200
  | 0, i, st, v, y, h, hb => by obtain ⟨rfl, -⟩ := h; omega
  | k + 1, i, st, v, y, h, hb => by
    rcases h with ⟨-, rfl, -⟩ | ⟨h1, h2⟩
    · omega
    · rcases h2 with ⟨-, rfl⟩ | ⟨ns, nx, -, h3⟩
      · omega
      · rcases h3 with ⟨rfl, -⟩ | ⟨st', -, h4⟩
        · omega
        · exact rdA_rng h4 hb
theorem c_fault {σ : Sg} {A : ST} (hA : RepC σ A) (hW : WF A) : OK SHc mX5_fault 20 [vR 0] σ (RP (fun v τ => (∃ y, rdA A.2.1 A.1 200 0 RS0 v y) ∧ RepC τ A)) := by
  obtain ⟨len, txt, T, n, row, und, kep, sn⟩ := A
  obtain ⟨a1, a2, a3, a4, a5, a6, a7, a8, a9⟩ := RepC_e.mp hA
  obtain ⟨w1, w2, -⟩ := WF_e.mp hW
  refine OK.enter (L' := [vR 0]) (by decide +kernel) (by simp [ent0]) rfl ?_
  refine PP.aload_n dX5_fault_0 rfl ?_
  refine PP.getfR dX5_fault_1 fl_X5_16 sc0 rfl ?_
  refine PP.aload_n dX5_fault_4 rfl ?_
  refine PP.getfR dX5_fault_5 fl_X5_9 sc0 rfl ?_
  refine PP.aload_n dX5_fault_8 rfl ?_
  refine PP.getfI dX5_fault_9 fl_X5_83 sc0 rfl ?_
  refine PP.eqI (y := ((len : Nat) : Int)) a1 ?_
  refine PP.callViP (ok_findFault w1 (fun j hj => by rw [a2 j hj]; have := w2 j hj; omega)) dX5_fault_12 vl_X5_76 sc2 rfl rfl rfl rfl (Nat.le_of_ble_eq_true rfl) (by first | exact Nat.le_of_ble_eq_true rfl | omega) (fun v12 τ12 hq12 => ?_)
  obtain ⟨r1, y, r2, r3⟩ := hq12
  refine PP.iret dX5_fault_15 rfl ?_
  exact ⟨_, rfl, ⟨y, rdA_txt a2 _ _ _ _ _ r2⟩, RepC_cong hA (fun c hc => r1 c (by omega))⟩
def dcU (σ : Sg) : Sg := cpy (cpy (cpy (cpy (cpy (up (up (up (up σ 14 0 (σ 3 0)) 14 1 (σ 3 1)) 14 2 (σ 3 2)) 14 3 (σ 3 3)) 4 15 0 0 7) 5 16 0 0 7) 6 17 0 0 7) 7 18 0 0 7) 8 19 0 0 24
theorem ok_dCopy {σ : Sg} : OK SHc mX0_copyFrom 1 [vR 14, vR 3] σ (RN (dcU σ)) := by
  refine OK.enter (L' := [vR 14, vR 3]) (by decide +kernel) (by simp [ent0]) rfl ?_
  refine PP.rg (fun hg => ?_)
  refine PP.aload_n dX0_copyFrom_0 rfl ?_
  refine PP.aload_n dX0_copyFrom_1 rfl ?_
  refine PP.getfI dX0_copyFrom_2 fl_X0_27 sc3 rfl ?_
  refine PP.putI dX0_copyFrom_5 fp_X0_27 sc14 rfl (by first | omega | exact hg _ _ | (unfold R32; omega)) ?_
  refine PP.aload_n dX0_copyFrom_8 rfl ?_
  refine PP.aload_n dX0_copyFrom_9 rfl ?_
  refine PP.getfI dX0_copyFrom_10 fl_X0_31 sc3 rfl ?_
  refine PP.eqI (y := σ 3 1) (by rw [up_ne (by decide)]) ?_
  refine PP.putI dX0_copyFrom_13 fp_X0_31 sc14 rfl (by first | omega | exact hg _ _ | (unfold R32; omega)) ?_
  refine PP.aload_n dX0_copyFrom_16 rfl ?_
  refine PP.aload_n dX0_copyFrom_17 rfl ?_
  refine PP.getfI dX0_copyFrom_18 fl_X0_34 sc3 rfl ?_
  refine PP.eqI (y := σ 3 2) (by rw [up_ne (by decide), up_ne (by decide)]) ?_
  refine PP.putI dX0_copyFrom_21 fp_X0_34 sc14 rfl (by first | omega | exact hg _ _ | (unfold R32; omega)) ?_
  refine PP.aload_n dX0_copyFrom_24 rfl ?_
  refine PP.aload_n dX0_copyFrom_25 rfl ?_
  refine PP.getfI dX0_copyFrom_26 fl_X0_37 sc3 rfl ?_
  refine PP.eqI (y := σ 3 3) (by rw [up_ne (by decide), up_ne (by decide), up_ne (by decide)]) ?_
  refine PP.putI dX0_copyFrom_29 fp_X0_37 sc14 rfl (by first | omega | exact hg _ _ | (unfold R32; omega)) ?_
  refine PP.aload_n dX0_copyFrom_32 rfl ?_
  refine PP.getfR dX0_copyFrom_33 fl_X0_9 sc3 rfl ?_
  refine PP.iconst dX0_copyFrom_36 ?_
  refine PP.aload_n dX0_copyFrom_37 rfl ?_
  refine PP.getfR dX0_copyFrom_38 fl_X0_9 sc14 rfl ?_
  refine PP.iconst dX0_copyFrom_41 ?_
  refine PP.bipush dX0_copyFrom_42 (by decide) ?_
  refine PP.acopy dX0_copyFrom_44 sc_X0_46 sc4 sc15 (by first | decide | omega) (by first | decide | omega) (by first | omega | exact hg _ _ | (unfold R32; omega)) (by first | omega | exact hg _ _ | (unfold R32; omega)) (by first | omega | exact hg _ _ | (unfold R32; omega)) (by first | omega | exact hg _ _ | (unfold R32; omega)) (by first | omega | exact hg _ _ | (unfold R32; omega)) (Nat.le_of_ble_eq_true rfl) (Nat.le_of_ble_eq_true rfl) ?_
  refine PP.aload_n dX0_copyFrom_47 rfl ?_
  refine PP.getfR dX0_copyFrom_48 fl_X0_15 sc3 rfl ?_
  refine PP.iconst dX0_copyFrom_51 ?_
  refine PP.aload_n dX0_copyFrom_52 rfl ?_
  refine PP.getfR dX0_copyFrom_53 fl_X0_15 sc14 rfl ?_
  refine PP.iconst dX0_copyFrom_56 ?_
  refine PP.bipush dX0_copyFrom_57 (by decide) ?_
  refine PP.acopy dX0_copyFrom_59 sc_X0_46 sc5 sc16 (by first | decide | omega) (by first | decide | omega) (by first | omega | exact hg _ _ | (unfold R32; omega)) (by first | omega | exact hg _ _ | (unfold R32; omega)) (by first | omega | exact hg _ _ | (unfold R32; omega)) (by first | omega | exact hg _ _ | (unfold R32; omega)) (by first | omega | exact hg _ _ | (unfold R32; omega)) (Nat.le_of_ble_eq_true rfl) (Nat.le_of_ble_eq_true rfl) ?_
  refine PP.aload_n dX0_copyFrom_62 rfl ?_
  refine PP.getfR dX0_copyFrom_63 fl_X0_18 sc3 rfl ?_
  refine PP.iconst dX0_copyFrom_66 ?_
  refine PP.aload_n dX0_copyFrom_67 rfl ?_
  refine PP.getfR dX0_copyFrom_68 fl_X0_18 sc14 rfl ?_
  refine PP.iconst dX0_copyFrom_71 ?_
  refine PP.bipush dX0_copyFrom_72 (by decide) ?_
  refine PP.acopy dX0_copyFrom_74 sc_X0_46 sc6 sc17 (by first | decide | omega) (by first | decide | omega) (by first | omega | exact hg _ _ | (unfold R32; omega)) (by first | omega | exact hg _ _ | (unfold R32; omega)) (by first | omega | exact hg _ _ | (unfold R32; omega)) (by first | omega | exact hg _ _ | (unfold R32; omega)) (by first | omega | exact hg _ _ | (unfold R32; omega)) (Nat.le_of_ble_eq_true rfl) (Nat.le_of_ble_eq_true rfl) ?_
  refine PP.aload_n dX0_copyFrom_77 rfl ?_
  refine PP.getfR dX0_copyFrom_78 fl_X0_21 sc3 rfl ?_
  refine PP.iconst dX0_copyFrom_81 ?_
  refine PP.aload_n dX0_copyFrom_82 rfl ?_
  refine PP.getfR dX0_copyFrom_83 fl_X0_21 sc14 rfl ?_
  refine PP.iconst dX0_copyFrom_86 ?_
  refine PP.bipush dX0_copyFrom_87 (by decide) ?_
  refine PP.acopy dX0_copyFrom_89 sc_X0_46 sc7 sc18 (by first | decide | omega) (by first | decide | omega) (by first | omega | exact hg _ _ | (unfold R32; omega)) (by first | omega | exact hg _ _ | (unfold R32; omega)) (by first | omega | exact hg _ _ | (unfold R32; omega)) (by first | omega | exact hg _ _ | (unfold R32; omega)) (by first | omega | exact hg _ _ | (unfold R32; omega)) (Nat.le_of_ble_eq_true rfl) (Nat.le_of_ble_eq_true rfl) ?_
  refine PP.aload_n dX0_copyFrom_92 rfl ?_
  refine PP.getfR dX0_copyFrom_93 fl_X0_24 sc3 rfl ?_
  refine PP.iconst dX0_copyFrom_96 ?_
  refine PP.aload_n dX0_copyFrom_97 rfl ?_
  refine PP.getfR dX0_copyFrom_98 fl_X0_24 sc14 rfl ?_
  refine PP.iconst dX0_copyFrom_101 ?_
  refine PP.bipush dX0_copyFrom_102 (by decide) ?_
  refine PP.acopy dX0_copyFrom_104 sc_X0_46 sc8 sc19 (by first | decide | omega) (by first | decide | omega) (by first | omega | exact hg _ _ | (unfold R32; omega)) (by first | omega | exact hg _ _ | (unfold R32; omega)) (by first | omega | exact hg _ _ | (unfold R32; omega)) (by first | omega | exact hg _ _ | (unfold R32; omega)) (by first | omega | exact hg _ _ | (unfold R32; omega)) (Nat.le_of_ble_eq_true rfl) (Nat.le_of_ble_eq_true rfl) ?_
  refine PP.vret dX0_copyFrom_107 rfl ?_
  exact ⟨rfl, rfl⟩
theorem dcU_ne {σ : Sg} {c : Nat} (h : c < 14 ∨ 19 < c) : dcU σ c = σ c := by
  unfold dcU
  rw [cpy_ne (by omega), cpy_ne (by omega), cpy_ne (by omega), cpy_ne (by omega), cpy_ne (by omega), up_ne (by omega), up_ne (by omega), up_ne (by omega), up_ne (by omega)]
theorem dcU_DR {σ : Sg} {T : Nat → Int} {n : Nat} (h : DR σ 3 T n) (hn : n ≤ 7) : DR (dcU σ) 14 T n := by
  obtain ⟨d0, d1, d2, d3, d4, d5⟩ := h
  refine ⟨?_, ?_, ?_, ?_, fun t ht => ?_, fun t ht => ?_⟩
  · unfold dcU; rw [cpy_ne (by omega), cpy_ne (by omega), cpy_ne (by omega), cpy_ne (by omega), cpy_ne (by omega), up_j (by decide), up_j (by decide), up_j (by decide), up_at]; exact d0
  · unfold dcU; rw [cpy_ne (by omega), cpy_ne (by omega), cpy_ne (by omega), cpy_ne (by omega), cpy_ne (by omega), up_j (by decide), up_j (by decide), up_at]; exact d1
  · unfold dcU; rw [cpy_ne (by omega), cpy_ne (by omega), cpy_ne (by omega), cpy_ne (by omega), cpy_ne (by omega), up_j (by decide), up_at]; exact d2
  · unfold dcU; rw [cpy_ne (by omega), cpy_ne (by omega), cpy_ne (by omega), cpy_ne (by omega), cpy_ne (by omega), up_at]; exact d3
  · obtain ⟨g1, g2, g3, g4⟩ := d4 t ht
    unfold dcU
    refine ⟨?_, ?_, ?_, ?_⟩
    · rw [cpy_ne (by omega), cpy_ne (by omega), cpy_ne (by omega), cpy_ne (by omega), cpy_in (by omega) (by omega), up_ne (by omega), up_ne (by omega), up_ne (by omega), up_ne (by omega)]; simpa using g1
    · rw [cpy_ne (by omega), cpy_ne (by omega), cpy_ne (by omega), cpy_in (by omega) (by omega), cpy_ne (by omega), up_ne (by omega), up_ne (by omega), up_ne (by omega), up_ne (by omega)]; simpa using g2
    · rw [cpy_ne (by omega), cpy_ne (by omega), cpy_in (by omega) (by omega), cpy_ne (by omega), cpy_ne (by omega), up_ne (by omega), up_ne (by omega), up_ne (by omega), up_ne (by omega)]; simpa using g3
    · rw [cpy_ne (by omega), cpy_in (by omega) (by omega), cpy_ne (by omega), cpy_ne (by omega), cpy_ne (by omega), up_ne (by omega), up_ne (by omega), up_ne (by omega), up_ne (by omega)]; simpa using g4
  · unfold dcU
    rw [cpy_in (by omega) (by omega), cpy_ne (by omega), cpy_ne (by omega), cpy_ne (by omega), cpy_ne (by omega), up_ne (by omega), up_ne (by omega), up_ne (by omega), up_ne (by omega)]
    have := d5 t ht
    simpa using this
theorem msk_none (n : Nat) : msk (snP (fun _ => -4)) n = 0 ∧ msk (snC (fun _ => -4)) n = 0 := ⟨msk_zero.mpr (fun _ _ => rfl), msk_zero.mpr (fun _ _ => rfl)⟩
/-- what was read is laid: of a state whose letters are (len, txt) and whose shelves have their sizes -/
theorem ok_layWhat {σ : Sg} {len : Nat} {txt : Nat → Int} {y : RS} (hr : RdC σ y) (hy : wfS y) (h1 : σ 0 1 = (len : Int)) (h2 : ∀ j, j < len → σ 1 j = txt j) (h5 : σ 35 0 = 8) (h6 : σ 37 0 = 2) : OK SHc mX5_layWhatWasRead 2 [vR 0] σ (RPn (fun τ => RepC τ (len, txt, y.1, y.2.1, y.2.2.1, [], [], fun _ => -4))) := by
  have hn7 := hy.1.2.1
  refine OK.enter (L' := [vR 0]) (by decide +kernel) (by simp [ent0]) rfl ?_
  refine PP.aload_n dX5_layWhatWasRead_0 rfl ?_
  refine PP.getfR dX5_layWhatWasRead_1 fl_X5_23 sc0 rfl ?_
  refine PP.aload_n dX5_layWhatWasRead_4 rfl ?_
  refine PP.getfR dX5_layWhatWasRead_5 fl_X5_16 sc0 rfl ?_
  refine PP.getfR dX5_layWhatWasRead_8 fl_X5_86 sc2 rfl ?_
  refine PP.callVn (ok_dCopy) dX5_layWhatWasRead_11 vl_X5_90 sc14 rfl rfl rfl rfl (Nat.le_of_ble_eq_true rfl) (by first | exact Nat.le_of_ble_eq_true rfl | omega) ?_
  refine PP.aload_n dX5_layWhatWasRead_14 rfl ?_
  refine PP.getfR dX5_layWhatWasRead_15 fl_X5_32 sc0 rfl ?_
  refine PP.aload_n dX5_layWhatWasRead_18 rfl ?_
  refine PP.getfR dX5_layWhatWasRead_19 fl_X5_16 sc0 rfl ?_
  refine PP.getfR dX5_layWhatWasRead_22 fl_X5_93 sc2 rfl ?_
  refine PP.callVn (ok_copyFrom RK20 RK9 (by omega)) dX5_layWhatWasRead_25 vl_X5_94 sc20 rfl rfl rfl rfl (Nat.le_of_ble_eq_true rfl) (by first | exact Nat.le_of_ble_eq_true rfl | omega) ?_
  refine PP.aload_n dX5_layWhatWasRead_28 rfl ?_
  refine PP.getfR dX5_layWhatWasRead_29 fl_X5_51 sc0 rfl ?_
  refine PP.iconst dX5_layWhatWasRead_32 ?_
  refine PP.putI dX5_layWhatWasRead_33 fp_X5_97 sc35 rfl (by first | omega | (unfold R32; omega)) ?_
  refine PP.aload_n dX5_layWhatWasRead_36 rfl ?_
  refine PP.getfR dX5_layWhatWasRead_37 fl_X5_55 sc0 rfl ?_
  refine PP.iconst dX5_layWhatWasRead_40 ?_
  refine PP.putI dX5_layWhatWasRead_41 fp_X5_97 sc37 rfl (by first | omega | (unfold R32; omega)) ?_
  refine PP.aload_n dX5_layWhatWasRead_44 rfl ?_
  refine PP.iconst dX5_layWhatWasRead_45 ?_
  refine PP.putI dX5_layWhatWasRead_46 fp_X5_100 sc0 rfl (by first | omega | (unfold R32; omega)) ?_
  refine PP.aload_n dX5_layWhatWasRead_49 rfl ?_
  refine PP.iconst dX5_layWhatWasRead_50 ?_
  refine PP.putI dX5_layWhatWasRead_51 fp_X5_103 sc0 rfl (by first | omega | (unfold R32; omega)) ?_
  refine PP.aload_n dX5_layWhatWasRead_54 rfl ?_
  refine PP.getfR dX5_layWhatWasRead_55 fl_X5_42 sc0 rfl ?_
  refine PP.iconst dX5_layWhatWasRead_58 ?_
  refine PP.putZ dX5_layWhatWasRead_59 fp_X5_106 sc28 rfl (by first | omega | (unfold R32; omega)) ?_
  refine PP.vret dX5_layWhatWasRead_62 rfl ?_
  have hRR : RW (dcU σ) 9 y.1 y.2.2.1 := RW_cong hr.2.1 (fun c _ _ => dcU_ne (by omega))
  refine ⟨rfl, RepC_e.mpr ⟨?_, fun j hj => ?_, ?_, ⟨?_, ?_, ?_⟩, ⟨?_, ?_, by simp, fun k row hk => by simp at hk⟩, ⟨?_, ?_, by simp, fun k row hk => by simp at hk⟩, ?_, ?_, Or.inl ?_⟩⟩
  · rw [up_ne (by decide), up_j (by decide), up_j (by decide), up_ne (by decide), up_ne (by decide), crU_ne (by omega) (by omega) (by omega) (by omega), dcU_ne (by omega)]; exact h1
  · rw [up_ne (by decide), up_ne (by decide), up_ne (by decide), up_ne (by decide), up_ne (by decide), crU_ne (by omega) (by omega) (by omega) (by omega), dcU_ne (by omega)]; exact h2 j hj
  · exact DR_cong (dcU_DR hr.1 hn7) (fun c _ _ => by rw [up_ne (by omega), up_ne (by omega), up_ne (by omega), up_ne (by omega), up_ne (by omega), crU_ne (by omega) (by omega) (by omega) (by omega)])
  · exact RR_cong (crU_RR (by omega) hRR.1) (fun c _ _ => by rw [up_ne (by omega), up_ne (by omega), up_ne (by omega), up_ne (by omega), up_ne (by omega)])
  · rw [up_ne (by decide), up_ne (by decide), up_ne (by decide), up_ne (by decide), up_ne (by decide), crU_45.1]; exact hRR.2.1
  · rw [up_ne (by decide), up_ne (by decide), up_ne (by decide), up_ne (by decide), up_ne (by decide), crU_45.2]; exact hRR.2.2
  · rw [up_ne (by decide), up_ne (by decide), up_ne (by decide), up_ne (by decide), up_j (by decide), crU_ne (by omega) (by omega) (by omega) (by omega), dcU_ne (by omega)]; exact h5
  · rw [up_ne (by decide), up_ne (by decide), up_ne (by decide), up_ne (by decide), up_at]; rfl
  · rw [up_ne (by decide), up_ne (by decide), up_ne (by decide), up_j (by decide), up_ne (by decide), crU_ne (by omega) (by omega) (by omega) (by omega), dcU_ne (by omega)]; exact h6
  · rw [up_ne (by decide), up_ne (by decide), up_ne (by decide), up_at]; rfl
  · rw [up_ne (by decide), up_j (by decide), up_at, (msk_none _).1]; rfl
  · rw [up_ne (by decide), up_at, (msk_none _).2]; rfl
  · rw [up_at]
theorem c_lay {σ : Sg} {A : ST} (hA : RepC σ A) (hW : WF A) : OK SHc mX5_lay 20 [vR 0] σ (RP (fun v τ => ∃ f y, rdA A.2.1 A.1 200 0 RS0 f y ∧ (f = -4 → wfS y) ∧ (((f ≠ -4 ∨ y.2.1 = 0) ∧ v = -2 ∧ RepC τ A) ∨ (f = -4 ∧ ¬ y.2.1 = 0 ∧ v = (y.2.1 : Int) ∧ RepC τ (A.1, A.2.1, y.1, y.2.1, y.2.2.1, [], [], fun _ => -4))))) := by
  obtain ⟨len, txt, T, n, row, und, kep, sn⟩ := A
  obtain ⟨a1, a2, a3, a4, a5, a6, a7, a8, a9⟩ := RepC_e.mp hA
  obtain ⟨w1, w2, -⟩ := WF_e.mp hW
  refine OK.enter (L' := [vR 0]) (by decide +kernel) (by simp [ent0]) rfl ?_
  refine PP.aload_n dX5_lay_0 rfl ?_
  refine PP.getfR dX5_lay_1 fl_X5_16 sc0 rfl ?_
  refine PP.aload_n dX5_lay_4 rfl ?_
  refine PP.getfR dX5_lay_5 fl_X5_9 sc0 rfl ?_
  refine PP.aload_n dX5_lay_8 rfl ?_
  refine PP.getfI dX5_lay_9 fl_X5_83 sc0 rfl ?_
  refine PP.eqI (y := ((len : Nat) : Int)) a1 ?_
  refine PP.callViP (ok_findFault w1 (fun j hj => by rw [a2 j hj]; have := w2 j hj; omega)) dX5_lay_12 vl_X5_76 sc2 rfl rfl rfl rfl (Nat.le_of_ble_eq_true rfl) (by first | exact Nat.le_of_ble_eq_true rfl | omega) (fun v12 τ12 hq12 => ?_)
  obtain ⟨r1, y, r2, r3⟩ := hq12
  have r2' := rdA_txt a2 _ _ _ _ _ r2
  have hv := rdA_rng r2' (by omega)
  have hA1 : RepC τ12 (len, txt, T, n, row, und, kep, sn) := RepC_cong hA (fun c hc => r1 c (by omega))
  refine PP.bipush dX5_lay_15 (by decide) ?_
  refine PP.icmp_ne (tgt := 33) (by first | omega | (unfold R32; omega)) (by first | omega | (unfold R32; omega)) dX5_lay_17 (by decide) (fun h17 => ?_) (fun h17 => ?_)
  · refine PP.bipush dX5_lay_33 (by decide) ?_
    refine PP.iret dX5_lay_35 rfl ?_
    exact ⟨_, rfl, v12, y, r2', fun h => (r3 h).2, Or.inl ⟨Or.inl (by omega), rfl, hA1⟩⟩
  · obtain ⟨hr, hy⟩ := r3 (by omega)
    have hy7 := hy.1.2.1
    refine PP.aload_n dX5_lay_20 rfl ?_
    refine PP.getfR dX5_lay_21 fl_X5_16 sc0 rfl ?_
    refine PP.getfR dX5_lay_24 fl_X5_86 sc2 rfl ?_
    refine PP.getfI dX5_lay_27 fl_X5_87 sc3 rfl ?_
    refine PP.eqI hr.1.2.2.2.1 ?_
    refine PP.if_ne (tgt := 36) (by first | omega | (unfold R32; omega)) dX5_lay_30 (by decide) (fun h30 => ?_) (fun h30 => ?_)
    · refine PP.aload_n dX5_lay_36 rfl ?_
      refine PP.callVnP (ok_layWhat (len := len) (txt := txt) hr hy (by rw [r1 0 (by omega)]; exact a1) (fun j hj => by rw [r1 1 (by omega)]; exact a2 j hj) (by rw [r1 35 (by omega)]; exact a5.1) (by rw [r1 37 (by omega)]; exact a6.1)) dX5_lay_37 vl_X5_80 sc0 rfl rfl rfl rfl (Nat.le_of_ble_eq_true rfl) (by first | exact Nat.le_of_ble_eq_true rfl | omega) (fun τ37 hq37 => ?_)
      refine PP.aload_n dX5_lay_40 rfl ?_
      refine PP.getfR dX5_lay_41 fl_X5_23 sc0 rfl ?_
      refine PP.getfI dX5_lay_44 fl_X5_87 sc14 rfl ?_
      refine PP.iret dX5_lay_47 rfl ?_
      exact ⟨_, rfl, v12, y, r2', fun h => (r3 h).2, Or.inr ⟨by omega, by omega, (RepC_e.mp hq37).2.2.1.2.2.2.1, hq37⟩⟩
    · refine PP.bipush dX5_lay_33 (by decide) ?_
      refine PP.iret dX5_lay_35 rfl ?_
      exact ⟨_, rfl, v12, y, r2', fun h => (r3 h).2, Or.inl ⟨Or.inr (by omega), rfl, hA1⟩⟩
