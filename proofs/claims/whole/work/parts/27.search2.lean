/-! the component's search through orders: the search itself -/
theorem fold_id {T : Nat → Int} {x : FS} : ∀ {p : List Nat}, (∀ u ∈ p, ftS T x.1 u = false) → p.foldl (pl1 T) x = x
  | [], _ => rfl
  | u :: p, h => by
    have h1 := h u (by simp)
    simp only [ftS, decide_eq_false_iff_not] at h1
    rw [List.foldl_cons, show pl1 T x u = x by unfold pl1; rw [if_neg h1]]
    exact fold_id (fun v hv => h v (by simp [hv]))
theorem pr_no {T : Nat → Int} {n k : Nat} {w : Int} {pre : List Nat} {lf : Nat → Bool} {a : Int × List Nat} (hw : wfT T n) (hlf : ∀ u, lf u = true → u < n ∧ (plL T pre).2.1 u < 0) (hk : cnt lf 7 = k) (h : ((clN T n w (plL T pre) + cnt (fun u => lf u && (ftS T (plL T pre).1 u && hpS T w u)) 7 : Nat) : Int) ≤ a.1) : bst (rcl T n w) a ((prm k lf).map (pre ++ ·)) = a := by
  refine bst_no (fun l hl => ?_)
  obtain ⟨p, hp, rfl⟩ := List.mem_map.mp hl
  obtain ⟨m1, m2, m3, m4⟩ := prm_mem hp hk
  have hb := rcl_le (T := T) (n := n) (w := w) (fun t ht => by have := (hw.2.2.2.2.2.1 t ht).2.1.1; omega) p (plL T pre) (fun u hu => hlf u (m1 u hu).1) m2
  have e : rcl T n w (pre ++ p) = clN T n w (p.foldl (pl1 T) (plL T pre)) := by unfold rcl; rw [plL_app]
  rw [e]
  have e2 := m4 (fun u => decide ((plL T pre).1 + T (11 + u) ≤ T 0) && hpS T w u)
  rw [e2] at hb
  have e3 : cnt (fun u => lf u && (ftS T (plL T pre).1 u && hpS T w u)) 7 = cnt (fun u => lf u && (decide ((plL T pre).1 + T (11 + u) ≤ T 0) && hpS T w u)) 7 := rfl
  rw [e3] at h
  omega
theorem pr_set {T : Nat → Int} {n k : Nat} {w : Int} {pre : List Nat} {lf : Nat → Bool} {a : Int × List Nat} (hk : cnt lf 7 = k) (hft : ∀ u, lf u = true → ftS T (plL T pre).1 u = false) (h : a.1 < (clN T n w (plL T pre) : Int)) : bst (rcl T n w) a ((prm k lf).map (pre ++ ·)) = ((clN T n w (plL T pre) : Int), pre ++ asc lf) := by
  obtain ⟨R, hR⟩ := prm_head hk
  have hall : ∀ p ∈ prm k lf, rcl T n w (pre ++ p) = clN T n w (plL T pre) := by
    intro p hp
    obtain ⟨m1, -⟩ := prm_mem hp hk
    unfold rcl
    rw [plL_app, fold_id (fun u hu => hft u (m1 u hu).1)]
  rw [hR] at hall ⊢
  rw [List.map_cons]
  refine bst_same (fun m hm => ?_) h
  rcases List.mem_cons.mp hm with rfl | hm
  · exact hall _ (by simp)
  · obtain ⟨p, hp, rfl⟩ := List.mem_map.mp hm
    exact hall p (by simp [hp])
theorem bst_rng {f : List Nat → Nat} {m : Nat} (hf : ∀ l, f l ≤ m) : ∀ {L : List (List Nat)} {a : Int × List Nat}, (-1 ≤ a.1 ∧ a.1 ≤ m) → -1 ≤ (bst f a L).1 ∧ (bst f a L).1 ≤ m
  | [], a, h => h
  | l :: L, a, h => by
    show -1 ≤ (bst f (if a.1 < (f l : Int) then ((f l : Int), l) else a) L).1 ∧ (bst f (if a.1 < (f l : Int) then ((f l : Int), l) else a) L).1 ≤ m
    refine bst_rng hf ?_
    have := hf l
    by_cases c : a.1 < (f l : Int)
    · rw [if_pos c]; simp only []; omega
    · rw [if_neg c]; exact h
abbrev SQ (σ : Sg) (T : Nat → Int) (n : Nat) (w : Int) (al : Nat → Bool) (pre : List Nat) (a : Int × List Nat) : Option pv → Sg → Prop :=
  RPn (fun τ => (∀ c, c ≠ 28 → c ≠ 30 → c ≠ 31 → c ≠ 32 → c ≠ 33 → c ≠ 34 → τ c = σ c) ∧ (∀ j, j ≠ 6 → τ 28 j = σ 28 j) ∧ SRC τ T n w al pre a)
theorem search_head {σ : Sg} {T : Nat → Int} {n k : Nat} {w : Int} {al lf : Nat → Bool} {pre : List Nat} {a : Int × List Nat} (hw : wfT T n) (hs : SRC σ T n w al pre a) (hk : cnt lf n = k) (hl : pre.length + k ≤ 7) (hlf : ∀ u, lf u = true → u < n ∧ al u = true ∧ (plL T pre).2.1 u < 0) (ha : -1 ≤ a.1 ∧ a.1 ≤ 7)
    (hc : (∃ u, u < n ∧ lf u = true) → PP SHc mX1_search (6 + k) 49 [vR 28, vI (pre.length : Int), vI (plL T pre).1, vI (msk lf n : Nat), vI (clN T n w (plL T pre) : Nat), vI (msk (fun t => ftS T (plL T pre).1 t && lf t) n : Nat), vN, vN, vN, vN] [] σ (SQ σ T n w al pre (bst (rcl T n w) a ((prm k lf).map (pre ++ ·))))) :
    PP SHc mX1_search (6 + k) 0 [vR 28, vI (pre.length : Int), vI (plL T pre).1, vI (msk lf n : Nat), vI (clN T n w (plL T pre) : Nat), vN, vN, vN, vN, vN] [] σ (SQ σ T n w al pre (bst (rcl T n w) a ((prm k lf).map (pre ++ ·)))) := by
  obtain ⟨ho, hh, hm, hp, hb⟩ := id hs
  have hD := ho.1.2.2.2.2.1
  have hn7 := hw.2.1
  have hsl := hw.2.2.1
  have hs1 := ho.2.2.1
  have hs2 := ho.2.2.2
  have hcl := clN_le T n w (plL T pre)
  have hk7 : cnt lf 7 = k := by rw [← hk]; exact cnt_ext (fun u h1 h2 => Bool.eq_false_iff.mpr (fun q => by have := (hlf u q).1; omega)) hn7
  have ec : cnt (fun t => (ftS T (plL T pre).1 t && lf t) && (hpS T w t && al t)) n = cnt (fun u => lf u && (ftS T (plL T pre).1 u && hpS T w u)) 7 := by
    rw [cnt_ext (n := n) (m := 7) (fun u h1 h2 => by
      have hf0 : lf u = false := Bool.eq_false_iff.mpr (fun q => by have := (hlf u q).1; omega)
      rw [hf0]; rfl) hn7]
    refine cnt_cong (fun u _ => ?_)
    cases hlu : lf u with
    | false => simp
    | true => rw [(hlf u hlu).2.1]; simp
  have hpc : pc7 (msk (fun t => (ftS T (plL T pre).1 t && lf t) && (hpS T w t && al t)) n) = cnt (fun u => lf u && (ftS T (plL T pre).1 u && hpS T w u)) 7 := by rw [pc7_msk hn7, ec]
  have hcn := cnt_le (fun u => lf u && (ftS T (plL T pre).1 u && hpS T w u)) 7
  refine PP.aload_n dX1_search_0 rfl ?_
  refine PP.iload_n dX1_search_1 rfl ?_
  refine PP.iload_n dX1_search_2 rfl ?_
  refine PP.callVi (ok_fittingOf (lf := lf) hw hD (by omega)) dX1_search_3 vl_X1_87 sc28 rfl rfl rfl rfl (Nat.le_of_ble_eq_true rfl) (by first | exact Nat.le_of_ble_eq_true rfl | omega) ?_
  refine PP.istore (L' := [_, _, _, _, _, _, _, _, _, _]) dX1_search_6 (Nat.le_of_ble_eq_true rfl) rfl rfl ?_
  refine PP.iload_n dX1_search_8 rfl ?_
  refine PP.bipush dX1_search_9 (by decide) ?_
  refine PP.icmp_gt (tgt := 34) (by first | omega | (unfold R32; omega) | (have := msk_128 (fun t => ftS T (plL T pre).1 t && lf t) hn7; unfold R32; omega)) (by first | omega | (unfold R32; omega) | (have := msk_128 (fun t => ftS T (plL T pre).1 t && lf t) hn7; unfold R32; omega)) dX1_search_11 (by decide) (fun h11 => ?_) (fun h11 => ?_)
  · omega
  · refine PP.iload dX1_search_14 rfl ?_
    refine PP.iload dX1_search_16 rfl ?_
    refine PP.aload_n dX1_search_18 rfl ?_
    refine PP.getfI dX1_search_19 fl_X1_55 sc28 rfl ?_
    refine PP.eqI hh ?_
    refine PP.iandR (z := ((msk (fun t => (ftS T (plL T pre).1 t && lf t) && (hpS T w t && al t)) n) : Nat)) ((iand_n _ _).trans (by rw [msk_and])) dX1_search_22 ?_
    refine PP.callSi (ok_bitCount (msk_128 _ hn7)) dX1_search_23 sl_X1_58 rfl rfl (Nat.le_of_ble_eq_true rfl) (by first | exact Nat.le_of_ble_eq_true rfl | omega) ?_
    refine PP.eqI (y := ((cnt (fun u => lf u && (ftS T (plL T pre).1 u && hpS T w u)) 7 : Nat) : Int)) (by rw [hpc]) ?_
    refine PP.iadd dX1_search_26 ?_
    refine PP.aload_n dX1_search_27 rfl ?_
    refine PP.getfI dX1_search_28 fl_X1_67 sc28 rfl ?_
    refine PP.eqI hm ?_
    refine PP.icmp_gt (tgt := 35) (by first | omega | (unfold R32; omega) | (have := msk_128 (fun t => ftS T (plL T pre).1 t && lf t) hn7; unfold R32; omega)) (by first | omega | (unfold R32; omega) | (have := msk_128 (fun t => ftS T (plL T pre).1 t && lf t) hn7; unfold R32; omega)) dX1_search_31 (by decide) (fun h31 => ?_) (fun h31 => ?_)
    · refine PP.iload dX1_search_35 rfl ?_
      refine PP.if_ne (tgt := 49) (by first | omega | (unfold R32; omega) | (have := msk_128 (fun t => ftS T (plL T pre).1 t && lf t) hn7; unfold R32; omega)) dX1_search_37 (by decide) (fun h37 => ?_) (fun h37 => ?_)
      · refine hc ?_
        rcases Classical.em (∃ u, u < n ∧ lf u = true) with h | h
        · exact h
        · exfalso
          have h0 : msk (fun t => ftS T (plL T pre).1 t && lf t) n = 0 := msk_zero.mpr (fun u hu => by
            rw [Bool.eq_false_iff.mpr (fun q => h ⟨u, hu, q⟩), Bool.and_false])
          omega
      · have hft : ∀ u, lf u = true → ftS T (plL T pre).1 u = false := by
          intro u hu
          have h0 : msk (fun t => ftS T (plL T pre).1 t && lf t) n = 0 := by omega
          have := msk_zero.mp h0 u (hlf u hu).1
          rw [hu, Bool.and_true] at this
          exact this
        have hc0 : cnt (fun u => lf u && (ftS T (plL T pre).1 u && hpS T w u)) 7 = 0 := by
          have : cnt (fun u => lf u && (ftS T (plL T pre).1 u && hpS T w u)) 7 ≤ cnt (fun _ => false) 7 := cnt_mono (fun u _ h => by
            simp only [Bool.and_eq_true] at h
            rw [hft u h.1] at h
            exact h.2.1)
          have h7 : cnt (fun _ => false) 7 = 0 := by decide
          omega
        refine PP.aload_n dX1_search_40 rfl ?_
        refine PP.iload_n dX1_search_41 rfl ?_
        refine PP.iload_n dX1_search_42 rfl ?_
        refine PP.iload dX1_search_43 rfl ?_
        refine PP.callVnP (ok_settle (c := clN T n w (plL T pre)) (lf := lf) hw hD hp (by omega) (by omega)) dX1_search_45 vl_X1_90 sc28 rfl rfl rfl rfl (Nat.le_of_ble_eq_true rfl) (by first | exact Nat.le_of_ble_eq_true rfl | omega) (fun τ45 hq45 => ?_)
        obtain ⟨s1, s2, s3, s4⟩ := hq45
        refine PP.vret dX1_search_48 rfl ?_
        rw [pr_set hk7 hft (by omega)]
        refine ⟨rfl, fun c h0 h1 h2 h3 h4 h5 => s1 c h0 h5, s2, ?_, ?_, s3, fun i u hi => ?_, ?_⟩
        · obtain ⟨⟨o1, o2, o3, o4, o5, o6⟩, o7, o8, o9⟩ := ho
          refine ⟨⟨o1, o2, o3, o4, DR_cong o5 (fun c _ _ => s1 c (by omega) (by omega)), RR_cong o6 (fun c _ _ => s1 c (by omega) (by omega))⟩, by rw [s1 29 (by decide) (by decide)]; exact o7, o8, o9⟩
        · rw [s2 3 (by decide)]; exact hh
        · rw [s1 33 (by decide) (by decide)]; exact hp i u hi
        · have e : asc lf = (List.range n).filter lf := flt_ext (fun u h1 h2 => Bool.eq_false_iff.mpr (fun q => by have := (hlf u q).1; omega)) hn7
          simp only [e]
          exact s4
    · refine PP.vret dX1_search_34 rfl ?_
      rw [pr_no hw (fun u hu => ⟨(hlf u hu).1, (hlf u hu).2.2⟩) hk7 (by omega)]
      exact ⟨rfl, fun c _ _ _ _ _ _ => rfl, fun j _ => rfl, hs⟩
