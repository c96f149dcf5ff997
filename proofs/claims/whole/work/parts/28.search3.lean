/-! the component's search through orders: the recursion, and find -/
theorem R32_if {c : Bool} {z : Int} (h : R32 z) : R32 (if c then z else 0) := by
  cases c
  · exact R32_0
  · exact h
theorem R32_2 {t : Nat} (h : t < 7) : R32 ((2 ^ t : Nat) : Int) := by
  have : 2 ^ t < 128 := Nat.lt_of_lt_of_le (Nat.pow_lt_pow_right (by decide) h) (by decide)
  unfold R32
  generalize 2 ^ t = z at this
  omega
theorem OC_cong {σ τ : Sg} {T : Nat → Int} {n : Nat} {w : Int} {x : FS} (h : OC σ T n w x) (e : ∀ c, 14 ≤ c → c ≤ 19 → τ c = σ c) (e2 : ∀ c, 29 ≤ c → c ≤ 32 → τ c = σ c) : OC τ T n w x := by
  obtain ⟨⟨o1, o2, o3, o4, o5, o6⟩, o7, o8, o9⟩ := h
  exact ⟨⟨o1, o2, o3, o4, DR_cong o5 (fun c h1 h2 => e c h1 (by omega)), RR_cong o6 (fun c h1 h2 => e2 c (by omega) (by omega))⟩, by rw [e2 29 (by omega) (by omega)]; exact o7, o8, o9⟩
theorem OC_back {σ : Sg} {T : Nat → Int} {n t : Nat} {w : Int} {x : FS} (h : OC σ T n w (pl1 T x t)) (ht : t < n) (hf : x.1 + T (11 + t) ≤ T 0) (hx1 : 0 ≤ x.1) (hx2 : x.1 ≤ T 0) (hP : x.2.1 t = -4) (hF : x.2.2 t = -4) : OC (stdU σ 29 t (-1) 0 0) T n w x := by
  obtain ⟨h1, h2, -⟩ := h
  unfold pl1 at h1
  rw [if_pos hf] at h1
  have := RC_lv h1 ht
  simp only [] at this
  rw [uf_back hP, uf_back hF] at this
  exact ⟨this, by rw [stdU_ne (by omega) (by omega) (by omega)]; exact h2, hx1, hx2⟩
theorem BL_cong {σ τ : Sg} {c : Nat} {l : List Nat} (h : BL σ c l) (e : ∀ i, i < l.length → τ c i = σ c i) : BL τ c l := fun i u hi => by
  rw [e i (List.getElem?_eq_some_iff.mp hi).1]; exact h i u hi
theorem BL_app {σ : Sg} {c t : Nat} {l : List Nat} (h : BL σ c l) (e : σ c l.length = (t : Int)) : BL σ c (l ++ [t]) := by
  intro i u hi
  by_cases hl : i < l.length
  · rw [List.getElem?_append_left hl] at hi; exact h i u hi
  · rw [List.getElem?_append_right (by omega)] at hi
    have hz : i - l.length < 1 := (List.getElem?_eq_some_iff.mp hi).1
    have e2 : i = l.length := by omega
    subst e2
    rw [Nat.sub_self] at hi
    cases hi
    exact e
theorem BL_pre {σ : Sg} {c : Nat} {l m : List Nat} (h : BL σ c (l ++ m)) : BL σ c l := fun i u hi => h i u (by rw [List.getElem?_append_left (List.getElem?_eq_some_iff.mp hi).1]; exact hi)
theorem map_pre {k t : Nat} {pre : List Nat} {lf : Nat → Bool} : ((prm k lf).map (t :: ·)).map (pre ++ ·) = (prm k lf).map ((pre ++ [t]) ++ ·) := by
  rw [List.map_map]
  refine List.map_congr_left (fun l _ => ?_)
  simp
theorem ok_search {T : Nat → Int} {n : Nat} {w : Int} {al : Nat → Bool} (hw : wfT T n) (hwa : 1 ≤ w ∧ w ≤ 9) : ∀ (k : Nat) (σ : Sg) (pre : List Nat) (lf : Nat → Bool) (a : Int × List Nat), SRC σ T n w al pre a → cnt lf n = k → pre.length + k ≤ 7 → (∀ u, lf u = true → u < n ∧ al u = true ∧ (plL T pre).2.1 u < 0) → (-1 ≤ a.1 ∧ a.1 ≤ 7) → OK SHc mX1_search (6 + k) [vR 28, vI (pre.length : Int), vI (plL T pre).1, vI (msk lf n : Nat), vI (clN T n w (plL T pre) : Nat)] σ (SQ σ T n w al pre (bst (rcl T n w) a ((prm k lf).map (pre ++ ·)))) := by
  have hn7 := hw.2.1
  have hsl := hw.2.2.1
  have hrl : ∀ l, rcl T n w l ≤ 7 := fun l => Nat.le_trans (clN_le T n w _) hn7
  intro k
  induction k with
  | zero =>
    intro σ pre lf a hs hk hl hlf ha
    refine OK.enter (L' := [vR 28, vI (pre.length : Int), vI (plL T pre).1, vI (msk lf n : Nat), vI (clN T n w (plL T pre) : Nat), vN, vN, vN, vN, vN]) (by decide +kernel) (by simp [ent0]) rfl ?_
    refine search_head hw hs hk hl hlf ha (fun ⟨u, hu, hlu⟩ => ?_)
    have := cnt_del hu hlu
    omega
  | succ k ih =>
    intro σ pre lf a hs hk hl hlf ha
    refine OK.enter (L' := [vR 28, vI (pre.length : Int), vI (plL T pre).1, vI (msk lf n : Nat), vI (clN T n w (plL T pre) : Nat), vN, vN, vN, vN, vN]) (by decide +kernel) (by simp [ent0]) rfl ?_
    refine search_head hw hs hk hl hlf ha (fun _ => ?_)
    have hcl := clN_le T n w (plL T pre)
    have loop : ∀ t, t ≤ n → ∀ σ1 : Sg, (∀ c, c ≠ 28 → c ≠ 30 → c ≠ 31 → c ≠ 32 → c ≠ 33 → c ≠ 34 → σ1 c = σ c) → (∀ j, j ≠ 6 → σ1 28 j = σ 28 j) → SRC σ1 T n w al pre (bst (rcl T n w) a ((prT k lf t).map (pre ++ ·))) → PP SHc mX1_search (6 + (k + 1)) 52 [vR 28, vI (pre.length : Int), vI (plL T pre).1, vI (msk lf n : Nat), vI (clN T n w (plL T pre) : Nat), vI (msk (fun t => ftS T (plL T pre).1 t && lf t) n : Nat), vI (t : Int), vN, vN, vN] [] σ1 (SQ σ T n w al pre (bst (rcl T n w) a ((prm (k + 1) lf).map (pre ++ ·)))) := by
      refine loop_dn n ?_ ?_
      · intro σ1 f1 f2 hs1
        have d3 : σ1 14 3 = (n : Int) := hs1.1.1.2.2.2.2.1.2.2.2.1
        have eP : prm (k + 1) lf = prT k lf n := by
          rw [prT_7]
          exact prT_ext (fun u h1 h2 => Bool.eq_false_iff.mpr (fun q => by have := (hlf u q).1; omega)) hn7
        refine PP.iload dX1_search_52 rfl ?_
        refine PP.aload_n dX1_search_54 rfl ?_
        refine PP.getfR dX1_search_55 fl_X1_18 sc28 rfl ?_
        refine PP.getfI dX1_search_58 fl_X1_46 sc14 rfl ?_
        refine PP.icmp_ge (tgt := 178) (by first | omega | (unfold R32; omega)) (by first | omega | (unfold R32; omega)) dX1_search_61 (by decide) (fun h61 => ?_) (fun h61 => ?_)
        · refine PP.vret dX1_search_178 rfl ?_
          rw [eP]
          exact ⟨rfl, f1, f2, hs1⟩
        · omega
      · intro t ht nx σ1 f1 f2 hs1
        obtain ⟨ho, hh, hm, hp, hb⟩ := id hs1
        have d3 : σ1 14 3 = (n : Int) := ho.1.2.2.2.2.1.2.2.2.1
        have hs1' := ho.2.2.1
        have hs2' := ho.2.2.2
        have hct := RC_lt ho.1 ht
        have hpw : 2 ^ t < 128 := Nat.lt_of_lt_of_le (Nat.pow_lt_pow_right (by decide) (show t < 7 by omega)) (by decide)
        have hW := (hw.2.2.2.2.2.1 t ht).2.1
        have har := bst_rng hrl (L := (prT k lf t).map (pre ++ ·)) ha
        have cont : ∀ τ : Sg, (∀ c, c ≠ 28 → c ≠ 30 → c ≠ 31 → c ≠ 32 → c ≠ 33 → c ≠ 34 → τ c = σ c) → (∀ j, j ≠ 6 → τ 28 j = σ 28 j) → lf t = true → SRC τ T n w al pre (bst (rcl T n w) (bst (rcl T n w) a ((prT k lf t).map (pre ++ ·))) ((prm k (dlf lf t)).map ((pre ++ [t]) ++ ·))) → PP SHc mX1_search (6 + (k + 1)) 52 [vR 28, vI (pre.length : Int), vI (plL T pre).1, vI (msk lf n : Nat), vI (clN T n w (plL T pre) : Nat), vI (msk (fun t => ftS T (plL T pre).1 t && lf t) n : Nat), vI ((t : Int) + 1), vN, vN, vN] [] τ (SQ σ T n w al pre (bst (rcl T n w) a ((prm (k + 1) lf).map (pre ++ ·)))) := by
          intro τ g1 g2 hlt h
          rw [← map_pre, ← bst_app, ← List.map_append, ← prT_s1 hlt] at h
          exact nx τ g1 g2 h
        have sub : lf t = true → ∀ σ2 : Sg, (∀ c, c ≠ 28 → c ≠ 30 → c ≠ 31 → c ≠ 32 → c ≠ 33 → c ≠ 34 → σ2 c = σ c) → (∀ j, σ2 28 j = σ1 28 j) → σ2 34 = σ1 34 → σ2 33 = up σ1 33 pre.length (t : Int) 33 → OC σ2 T n w (pl1 T (plL T pre) t) → OK SHc mX1_search (6 + k) [vR 28, vI ((pre.length : Int) + 1), vI (pl1 T (plL T pre) t).1, vI (msk (dlf lf t) n : Nat), vI (clN T n w (pl1 T (plL T pre) t) : Nat)] σ2 (SQ σ2 T n w al (pre ++ [t]) (bst (rcl T n w) (bst (rcl T n w) a ((prT k lf t).map (pre ++ ·))) ((prm k (dlf lf t)).map ((pre ++ [t]) ++ ·)))) := by
          intro hlt σ2 g1 g2 g3 g4 hO
          have hpl : plL T (pre ++ [t]) = pl1 T (plL T pre) t := by rw [plL_app]; rfl
          have hcd := cnt_del ht hlt
          have hcd2 : cnt (dlf lf t) n = k := by
            have : cnt (dlf lf t) n = cnt (fun u => lf u && !decide (u = t)) n := rfl
            omega
          have h33 : BL σ2 33 (pre ++ [t]) := BL_app (BL_cong hp (fun i hi => by rw [g4, up_j (by omega)])) (by rw [g4, up_at])
          have := ih σ2 (pre ++ [t]) (dlf lf t) (bst (rcl T n w) a ((prT k lf t).map (pre ++ ·))) ⟨by rw [hpl]; exact hO, by rw [g2]; exact hh, by rw [g2]; exact hm, h33, fun i u hi => by rw [g3]; exact hb i u hi⟩ hcd2 (by simp; omega) (fun u hu => by
            unfold dlf at hu
            rw [Bool.and_eq_true] at hu
            have hne : u ≠ t := by simpa using hu.2
            refine ⟨(hlf u hu.1).1, (hlf u hu.1).2.1, ?_⟩
            rw [hpl, pl1_P hne]
            exact (hlf u hu.1).2.2) har
          rw [hpl] at this
          rw [show ((pre ++ [t]).length : Int) = (pre.length : Int) + 1 by simp] at this
          exact this
        refine PP.iload dX1_search_52 rfl ?_
        refine PP.aload_n dX1_search_54 rfl ?_
        refine PP.getfR dX1_search_55 fl_X1_18 sc28 rfl ?_
        refine PP.getfI dX1_search_58 fl_X1_46 sc14 rfl ?_
        refine PP.icmp_ge (tgt := 178) (by first | omega | (unfold R32; omega) | exact R32_if (R32_2 (by omega))) (by first | omega | (unfold R32; omega) | exact R32_if (R32_2 (by omega))) dX1_search_61 (by decide) (fun h61 => ?_) (fun h61 => ?_)
        · omega
        · refine PP.iload_n dX1_search_64 rfl ?_
          refine PP.bipush dX1_search_65 (by decide) ?_
          refine PP.icmp_ge (tgt := 178) (by first | omega | (unfold R32; omega) | exact R32_if (R32_2 (by omega))) (by first | omega | (unfold R32; omega) | exact R32_if (R32_2 (by omega))) dX1_search_67 (by decide) (fun h67 => ?_) (fun h67 => ?_)
          · omega
          · refine PP.iconst dX1_search_70 ?_
            refine PP.iload dX1_search_71 rfl ?_
            refine PP.ishlR (z := ((2 ^ t) : Nat)) (shl1_o (by omega)) dX1_search_73 ?_
            refine PP.istore (L' := [_, _, _, _, _, _, _, _, _, _]) dX1_search_74 (Nat.le_of_ble_eq_true rfl) rfl rfl ?_
            refine PP.iload_n dX1_search_76 rfl ?_
            refine PP.iload dX1_search_77 rfl ?_
            refine PP.iandR (z := (if lf t then ((2 ^ t : Nat) : Int) else 0)) (iand_2 hn7 ht) dX1_search_79 ?_
            refine PP.if_eq (tgt := 172) (by first | omega | (unfold R32; omega) | exact R32_if (R32_2 (by omega))) dX1_search_80 (by decide) (fun h80 => ?_) (fun h80 => ?_)
            · refine PP.iinc (L' := [_, _, _, _, _, _, _, _, _, _]) dX1_search_172 rfl rfl rfl ?_
              refine PP.goto (tgt := 52) dX1_search_175 (by decide) ?_
              refine PP.frg 7 (L' := [_, _, _, _, _, _, _, _, _, _]) rfl ?_
              have hlt : lf t = false := by
                cases hx : lf t with
                | false => rfl
                | true => rw [hx, if_pos rfl] at h80; have := Nat.two_pow_pos t; omega
              rw [prT_s0 hlt] at nx
              exact nx σ1 f1 f2 hs1
            · have hlt : lf t = true := by
                cases hx : lf t with
                | true => rfl
                | false => rw [hx] at h80; exact absurd rfl h80
              have hPt := (hlf t hlt).2.2
              have hPt4 := hct.resolve_right (by omega)
              refine PP.aload_n dX1_search_83 rfl ?_
              refine PP.getfR dX1_search_84 fl_X1_9 sc28 rfl ?_
              refine PP.iload_n dX1_search_87 rfl ?_
              refine PP.iload dX1_search_88 rfl ?_
              refine PP.iastoreN (n := (pre.length)) sc33 (by first | decide | omega) (by first | rfl | omega) (by first | omega | (unfold R32; omega) | exact R32_if (R32_2 (by omega))) (by first | omega | (unfold R32; omega) | exact R32_if (R32_2 (by omega))) dX1_search_90 ?_
              refine PP.iload dX1_search_91 rfl ?_
              refine PP.iload dX1_search_93 rfl ?_
              refine PP.iandR (z := (if (ftS T (plL T pre).1 t && lf t) then ((2 ^ t : Nat) : Int) else 0)) (iand_2 hn7 ht) dX1_search_95 ?_
              refine PP.if_eq (tgt := 156) (by first | omega | (unfold R32; omega) | exact R32_if (R32_2 (by omega))) dX1_search_96 (by decide) (fun h96 => ?_) (fun h96 => ?_)
              · have hfit : ¬ (plL T pre).1 + T (11 + t) ≤ T 0 := by
                  intro hx
                  have hx2 : ftS T (plL T pre).1 t = true := by simpa [ftS] using hx
                  rw [hx2, hlt, Bool.and_true, if_pos rfl] at h96
                  have := Nat.two_pow_pos t
                  omega
                have hO2 : OC (up σ1 33 pre.length (t : Int)) T n w (plL T pre) := OC_cong ho (fun c _ _ => up_ne (by omega)) (fun c _ _ => up_ne (by omega))
                have hO3 := OC_no hO2 hfit
                have e1 : pl1 T (plL T pre) t = plL T pre := by unfold pl1; rw [if_neg hfit]
                refine PP.aload_n dX1_search_156 rfl ?_
                refine PP.iload_n dX1_search_157 rfl ?_
                refine PP.iconst dX1_search_158 ?_
                refine PP.iadd dX1_search_159 ?_
                refine PP.iload_n dX1_search_160 rfl ?_
                refine PP.iload_n dX1_search_161 rfl ?_
                refine PP.iload dX1_search_162 rfl ?_
                refine PP.iconst dX1_search_164 ?_
                refine PP.ixorR (z := (-((2 ^ t : Nat) : Int) - 1)) (ixor_m _) dX1_search_165 ?_
                refine PP.iandR (z := ((msk (dlf lf t) n) : Nat)) (iand_del hn7 ht) dX1_search_166 ?_
                refine PP.iload dX1_search_167 rfl ?_
                refine PP.callVnP ((by have h0 := sub hlt _ (fun c h0 h1 h2 h3 h4 h5 => by rw [up_ne h4]; exact f1 c h0 h1 h2 h3 h4 h5) (fun j => by rw [up_ne (by decide)]) (by rw [up_ne (by decide)]) rfl hO3; rw [e1] at h0; exact h0 : OK SHc mX1_search (6 + k) [vR 28, vI ((pre.length : Int) + 1), vI (plL T pre).1, vI (msk (dlf lf t) n : Nat), vI (clN T n w (plL T pre) : Nat)] _ _)) dX1_search_169 vl_X1_70 sc28 rfl rfl rfl rfl (Nat.le_of_ble_eq_true rfl) (by first | exact Nat.le_of_ble_eq_true rfl | omega) (fun τ169 hq169 => ?_)
                obtain ⟨r1, r2, r3⟩ := hq169
                refine PP.iinc (L' := [_, _, _, _, _, _, _, _, _, _]) dX1_search_172 rfl rfl rfl ?_
                refine PP.goto (tgt := 52) dX1_search_175 (by decide) ?_
                refine PP.frg 7 (L' := [_, _, _, _, _, _, _, _, _, _]) rfl ?_
                refine PP.frg 8 (L' := [_, _, _, _, _, _, _, _, _, _]) rfl ?_
                refine PP.frg 9 (L' := [_, _, _, _, _, _, _, _, _, _]) rfl ?_
                obtain ⟨q1, q2, q3, q4, q5⟩ := r3
                have hpl : plL T (pre ++ [t]) = pl1 T (plL T pre) t := by rw [plL_app]; rfl
                rw [hpl] at q1
                first
                  | exact cont _ (fun c h0 h1 h2 h3 h4 h5 => by rw [stdU_ne (by omega) (by omega) (by omega), r1 c h0 h1 h2 h3 h4 h5, stdU_ne (by omega) (by omega) (by omega), up_ne h4]; exact f1 c h0 h1 h2 h3 h4 h5) (fun j hj => by rw [stdU_ne (by omega) (by omega) (by omega), r2 j hj, stdU_ne (by omega) (by omega) (by omega), up_ne (by decide)]; exact f2 j hj) hlt ⟨OC_back q1 ht hfit hs1' hs2' hPt4.1 hPt4.2, by rw [stdU_ne (by omega) (by omega) (by omega)]; exact q2, by rw [stdU_ne (by omega) (by omega) (by omega)]; exact q3, BL_cong (BL_pre q4) (fun i _ => by rw [stdU_ne (by omega) (by omega) (by omega)]), BL_cong q5 (fun i _ => by rw [stdU_ne (by omega) (by omega) (by omega)])⟩
                  | exact cont _ (fun c h0 h1 h2 h3 h4 h5 => by rw [r1 c h0 h1 h2 h3 h4 h5, up_ne h4]; exact f1 c h0 h1 h2 h3 h4 h5) (fun j hj => by rw [r2 j hj, up_ne (by decide)]; exact f2 j hj) hlt ⟨by rw [e1] at q1; exact q1, q2, q3, BL_pre q4, q5⟩
              · have hfit : (plL T pre).1 + T (11 + t) ≤ T 0 := by
                  cases hx : ftS T (plL T pre).1 t with
                  | true => simpa [ftS] using hx
                  | false => rw [hx] at h96; exact absurd rfl h96
                have hD2 : DR (up σ1 33 pre.length (t : Int)) 14 T n := DR_cong ho.1.2.2.2.2.1 (fun c _ _ => up_ne (by omega))
                have hO2 : OC (up σ1 33 pre.length (t : Int)) T n w (plL T pre) := OC_cong ho (fun c _ _ => up_ne (by omega)) (fun c _ _ => up_ne (by omega))
                have hO3 := OC_put hO2 ht hfit
                have hcl1 := clN_le T n w (pl1 T (plL T pre) t)
                have e1 : (pl1 T (plL T pre) t).1 = (plL T pre).1 + T (11 + t) := by unfold pl1; rw [if_pos hfit]
                refine PP.aload_n dX1_search_99 rfl ?_
                refine PP.iload dX1_search_100 rfl ?_
                refine PP.iload_n dX1_search_102 rfl ?_
                refine PP.callVi (ok_putLookingIn hw hD2 ht (by omega)) dX1_search_103 vl_X1_94 sc28 rfl rfl rfl rfl (Nat.le_of_ble_eq_true rfl) (by first | exact Nat.le_of_ble_eq_true rfl | omega) ?_
                refine PP.istore (L' := [_, _, _, _, _, _, _, _, _, _]) dX1_search_106 (Nat.le_of_ble_eq_true rfl) rfl rfl ?_
                refine PP.aload_n dX1_search_108 rfl ?_
                refine PP.getfR dX1_search_109 fl_X1_27 sc28 rfl ?_
                refine PP.aload_n dX1_search_112 rfl ?_
                refine PP.getfR dX1_search_113 fl_X1_27 sc28 rfl ?_
                refine PP.getfI dX1_search_116 fl_X1_77 sc29 rfl ?_
                refine PP.eqI hO3.2.1 ?_
                refine PP.callVi (ok_cleanBits hO3.1 (by omega)) dX1_search_119 vl_X1_97 sc29 rfl rfl rfl rfl (Nat.le_of_ble_eq_true rfl) (by first | exact Nat.le_of_ble_eq_true rfl | omega) ?_
                refine PP.callSi (ok_bitCount (msk_128 _ hn7)) dX1_search_122 sl_X1_58 rfl rfl (Nat.le_of_ble_eq_true rfl) (by first | exact Nat.le_of_ble_eq_true rfl | omega) ?_
                refine PP.eqI (y := ((clN T n w (pl1 T (plL T pre) t) : Nat) : Int)) (by rw [pc7_msk hn7]; rfl) ?_
                refine PP.istore (L' := [_, _, _, _, _, _, _, _, _, _]) dX1_search_125 (Nat.le_of_ble_eq_true rfl) rfl rfl ?_
                refine PP.aload_n dX1_search_127 rfl ?_
                refine PP.iload_n dX1_search_128 rfl ?_
                refine PP.iconst dX1_search_129 ?_
                refine PP.iadd dX1_search_130 ?_
                refine PP.iload dX1_search_131 rfl ?_
                refine PP.iload_n dX1_search_133 rfl ?_
                refine PP.iload dX1_search_134 rfl ?_
                refine PP.iconst dX1_search_136 ?_
                refine PP.ixorR (z := (-((2 ^ t : Nat) : Int) - 1)) (ixor_m _) dX1_search_137 ?_
                refine PP.iandR (z := ((msk (dlf lf t) n) : Nat)) (iand_del hn7 ht) dX1_search_138 ?_
                refine PP.iload dX1_search_139 rfl ?_
                refine PP.callVnP ((by rw [← e1]; exact sub hlt _ (fun c h0 h1 h2 h3 h4 h5 => by rw [stdU_ne (by omega) (by omega) (by omega), up_ne h4]; exact f1 c h0 h1 h2 h3 h4 h5) (fun j => by rw [stdU_ne (by omega) (by omega) (by omega), up_ne (by decide)]) (by rw [stdU_ne (by omega) (by omega) (by omega), up_ne (by decide)]) (by rw [stdU_ne (by omega) (by omega) (by omega)]) hO3 : OK SHc mX1_search (6 + k) [vR 28, vI ((pre.length : Int) + 1), vI ((plL T pre).1 + T (11 + t)), vI (msk (dlf lf t) n : Nat), vI (clN T n w (pl1 T (plL T pre) t) : Nat)] _ _)) dX1_search_141 vl_X1_70 sc28 rfl rfl rfl rfl (Nat.le_of_ble_eq_true rfl) (by first | exact Nat.le_of_ble_eq_true rfl | omega) (fun τ141 hq141 => ?_)
                obtain ⟨r1, r2, r3⟩ := hq141
                refine PP.aload_n dX1_search_144 rfl ?_
                refine PP.getfR dX1_search_145 fl_X1_27 sc28 rfl ?_
                refine PP.iload dX1_search_148 rfl ?_
                refine PP.callVn (ok_leave RK29 (t := t) (by omega)) dX1_search_150 vl_X1_100 sc29 rfl rfl rfl rfl (Nat.le_of_ble_eq_true rfl) (by first | exact Nat.le_of_ble_eq_true rfl | omega) ?_
                refine PP.goto (tgt := 172) dX1_search_153 (by decide) ?_
                refine PP.iinc (L' := [_, _, _, _, _, _, _, _, _, _]) dX1_search_172 rfl rfl rfl ?_
                refine PP.goto (tgt := 52) dX1_search_175 (by decide) ?_
                refine PP.frg 7 (L' := [_, _, _, _, _, _, _, _, _, _]) rfl ?_
                refine PP.frg 8 (L' := [_, _, _, _, _, _, _, _, _, _]) rfl ?_
                refine PP.frg 9 (L' := [_, _, _, _, _, _, _, _, _, _]) rfl ?_
                obtain ⟨q1, q2, q3, q4, q5⟩ := r3
                have hpl : plL T (pre ++ [t]) = pl1 T (plL T pre) t := by rw [plL_app]; rfl
                rw [hpl] at q1
                first
                  | exact cont _ (fun c h0 h1 h2 h3 h4 h5 => by rw [stdU_ne (by omega) (by omega) (by omega), r1 c h0 h1 h2 h3 h4 h5, stdU_ne (by omega) (by omega) (by omega), up_ne h4]; exact f1 c h0 h1 h2 h3 h4 h5) (fun j hj => by rw [stdU_ne (by omega) (by omega) (by omega), r2 j hj, stdU_ne (by omega) (by omega) (by omega), up_ne (by decide)]; exact f2 j hj) hlt ⟨OC_back q1 ht hfit hs1' hs2' hPt4.1 hPt4.2, by rw [stdU_ne (by omega) (by omega) (by omega)]; exact q2, by rw [stdU_ne (by omega) (by omega) (by omega)]; exact q3, BL_cong (BL_pre q4) (fun i _ => by rw [stdU_ne (by omega) (by omega) (by omega)]), BL_cong q5 (fun i _ => by rw [stdU_ne (by omega) (by omega) (by omega)])⟩
                  | exact cont _ (fun c h0 h1 h2 h3 h4 h5 => by rw [r1 c h0 h1 h2 h3 h4 h5, up_ne h4]; exact f1 c h0 h1 h2 h3 h4 h5) (fun j hj => by rw [r2 j hj, up_ne (by decide)]; exact f2 j hj) hlt ⟨by rw [e1] at q1; exact q1, q2, q3, BL_pre q4, q5⟩
    refine PP.iconst dX1_search_49 ?_
    refine PP.istore (L' := [_, _, _, _, _, _, _, _, _, _]) dX1_search_50 (Nat.le_of_ble_eq_true rfl) rfl rfl ?_
    exact loop 0 (by omega) σ (fun c _ _ _ _ _ _ => rfl) (fun j _ => rfl) hs
