/-! the rack of the component: room, owners; small tests of numbers -/
theorem fitS_t {T : Nat → Int} {n : Nat} {P : Nat → Int} {t : Nat} {s : Int} : fitS T n P t s = true ↔ (s + T (11 + t) ≤ T 0 ∧ ∀ u, u < n → ¬ (¬ u = t ∧ 0 ≤ P u ∧ P u < s + T (11 + t) ∧ s < P u + T (11 + u))) := by
  unfold fitS
  rw [Bool.and_eq_true, decide_eq_true_eq, Bool.not_eq_true', anyB_f]
  constructor
  · rintro ⟨h1, h2⟩
    refine ⟨h1, fun u hu h => ?_⟩
    have := h2 u hu
    simp [h.1, h.2.1, h.2.2.1, h.2.2.2] at this
  · rintro ⟨h1, h2⟩
    refine ⟨h1, fun u hu => ?_⟩
    have := h2 u hu
    simp only [Bool.and_eq_false_iff, decide_eq_false_iff_not]
    omega
theorem ok_fits {σ : Sg} {r q n t : Nat} {T P F : Nat → Int} {s : Int} (hc : RC σ r q T n P F) (ht : t < n) (hs : 0 ≤ s ∧ s ≤ 20) : OK SHc mX2_fits 2 [vR r, vI (t : Int), vI s] σ (RV (b2i (fitS T n P t s)) σ) := by
  obtain ⟨⟨hr0, hr1, hr2, hr3⟩, ⟨hq0, hq1, hq2, hq3, hq4, hq5⟩, hw, hP, hD, hR⟩ := id hc
  have hn7 := hw.2.1
  have hsl := hw.2.2.1
  obtain ⟨d0, d1, d2, d3, d4, d5⟩ := hD
  obtain ⟨g1, g2, g3, g4⟩ := d4 t ht
  obtain ⟨w1, w2, w3, w4⟩ := hw.2.2.2.2.2.1 t ht
  refine OK.enter (L' := [vR r, vI (t : Int), vI s, vN, vN]) (by decide +kernel) (by simp [ent0]) rfl ?_
  refine PP.rg (fun hg => ?_)
  have key : s + T (11 + t) ≤ T 0 → ∀ o, o ≤ n → (∀ u, u < o → ¬ (¬ u = t ∧ 0 ≤ P u ∧ P u < s + T (11 + t) ∧ s < P u + T (11 + u))) → PP SHc mX2_fits 2 32 [vR r, vI (t : Int), vI s, vI (s + T (11 + t)), vI (o : Int)] [] σ (RV (b2i (fitS T n P t s)) σ) := by
    intro hsz
    refine loop_dn n ?_ ?_
    · intro hno
      refine PP.iload dX2_fits_32 rfl ?_
      refine PP.aload_n dX2_fits_34 rfl ?_
      refine PP.getfR dX2_fits_35 fl_X2_21 hr0 rfl ?_
      refine PP.getfI dX2_fits_38 fl_X2_48 hq0 rfl ?_
      refine PP.icmp_ge (tgt := 100) (by first | omega | exact hg _ _ | (unfold R32; omega)) (by first | omega | exact hg _ _ | (unfold R32; omega)) dX2_fits_41 (by decide) (fun h41 => ?_) (fun h41 => ?_)
      · refine PP.iconst dX2_fits_100 ?_
        refine PP.zret dX2_fits_101 rfl (by first | decide | omega) ?_
        exact RV1 (bt fitS_t ⟨hsz, hno⟩)
      · omega
    · intro o ho ih hno
      obtain ⟨k1, k2, k3, k4⟩ := d4 o ho
      obtain ⟨v1, v2, v3, v4⟩ := hw.2.2.2.2.2.1 o ho
      obtain ⟨f1, f2, f3⟩ := hR o (by omega)
      have hPo := hP.1 o ho
      have f1' : 0 ≤ P o → σ (r + 1) o = P o := fun h => by rw [f1, if_neg (by omega)]
      have hin := inS_t (P := P) (t := o)
      have nx : ¬ (¬ o = t ∧ 0 ≤ P o ∧ P o < s + T (11 + t) ∧ s < P o + T (11 + o)) → PP SHc mX2_fits 2 32 [vR r, vI (t : Int), vI s, vI (s + T (11 + t)), vI ((o : Int) + 1)] [] σ (RV (b2i (fitS T n P t s)) σ) := by
        intro h0
        refine ih (fun u hu => ?_)
        rcases Nat.lt_or_ge u o with h | h
        · exact hno u h
        · have : u = o := by omega
          subst this
          exact h0
      refine PP.iload dX2_fits_32 rfl ?_
      refine PP.aload_n dX2_fits_34 rfl ?_
      refine PP.getfR dX2_fits_35 fl_X2_21 hr0 rfl ?_
      refine PP.getfI dX2_fits_38 fl_X2_48 hq0 rfl ?_
      refine PP.icmp_ge (tgt := 100) (by first | omega | exact hg _ _ | exact b2i_R _ | (unfold R32; omega)) (by first | omega | exact hg _ _ | exact b2i_R _ | (unfold R32; omega)) dX2_fits_41 (by decide) (fun h41 => ?_) (fun h41 => ?_)
      · omega
      · refine PP.iload dX2_fits_44 rfl ?_
        refine PP.iload_n dX2_fits_46 rfl ?_
        refine PP.icmp_eq (tgt := 94) (by first | omega | exact hg _ _ | exact b2i_R _ | (unfold R32; omega)) (by first | omega | exact hg _ _ | exact b2i_R _ | (unfold R32; omega)) dX2_fits_47 (by decide) (fun h47 => ?_) (fun h47 => ?_)
        · refine PP.iinc (L' := [_, _, _, _, _]) dX2_fits_94 rfl rfl rfl ?_
          refine PP.goto (tgt := 32) dX2_fits_97 (by decide) ?_
          exact nx (by omega)
        · refine PP.aload_n dX2_fits_50 rfl ?_
          refine PP.iload dX2_fits_51 rfl ?_
          refine PP.callVi (ok_in hc (t := o) (by omega)) dX2_fits_53 vl_X2_51 hr0 rfl rfl rfl rfl (Nat.le_of_ble_eq_true rfl) (Nat.le_of_ble_eq_true rfl) ?_
          refine PP.if_eq (tgt := 94) (by first | omega | exact hg _ _ | exact b2i_R _ | (unfold R32; omega)) dX2_fits_56 (by decide) (fun h56 => ?_) (fun h56 => ?_)
          · refine PP.iinc (L' := [_, _, _, _, _]) dX2_fits_94 rfl rfl rfl ?_
            refine PP.goto (tgt := 32) dX2_fits_97 (by decide) ?_
            refine nx (fun h => ?_)
            have h56' := b2i_0.mp h56
            rw [hin.mpr h.2.1] at h56'
            cases h56'
          · have f1'' := f1' (hin.mp (b2i_n.mp h56))
            have hin' := hin.mp (b2i_n.mp h56)
            refine PP.aload_n dX2_fits_59 rfl ?_
            refine PP.getfR dX2_fits_60 fl_X2_9 hr0 rfl ?_
            refine PP.iload dX2_fits_63 rfl ?_
            refine PP.ialoadN (n := o) hr1 (by decide) (by first | rfl | omega) (by first | omega | exact hg _ _ | exact b2i_R _ | (unfold R32; omega)) dX2_fits_65 ?_
            refine PP.iload_n dX2_fits_66 rfl ?_
            refine PP.icmp_ge (tgt := 94) (by first | omega | exact hg _ _ | exact b2i_R _ | (unfold R32; omega)) (by first | omega | exact hg _ _ | exact b2i_R _ | (unfold R32; omega)) dX2_fits_67 (by decide) (fun h67 => ?_) (fun h67 => ?_)
            · refine PP.iinc (L' := [_, _, _, _, _]) dX2_fits_94 rfl rfl rfl ?_
              refine PP.goto (tgt := 32) dX2_fits_97 (by decide) ?_
              exact nx (by omega)
            · refine PP.iload_n dX2_fits_70 rfl ?_
              refine PP.aload_n dX2_fits_71 rfl ?_
              refine PP.getfR dX2_fits_72 fl_X2_9 hr0 rfl ?_
              refine PP.iload dX2_fits_75 rfl ?_
              refine PP.ialoadN (n := o) hr1 (by decide) (by first | rfl | omega) (by first | omega | exact hg _ _ | exact b2i_R _ | (unfold R32; omega)) dX2_fits_77 ?_
              refine PP.aload_n dX2_fits_78 rfl ?_
              refine PP.getfR dX2_fits_79 fl_X2_21 hr0 rfl ?_
              refine PP.getfR dX2_fits_82 fl_X2_65 hq0 rfl ?_
              refine PP.iload dX2_fits_85 rfl ?_
              refine PP.ialoadN (n := o) hq2 (by decide) (by first | rfl | omega) (by first | omega | exact hg _ _ | exact b2i_R _ | (unfold R32; omega)) dX2_fits_87 ?_
              refine PP.iadd dX2_fits_88 ?_
              refine PP.icmp_ge (tgt := 94) (by first | omega | exact hg _ _ | exact b2i_R _ | (unfold R32; omega)) (by first | omega | exact hg _ _ | exact b2i_R _ | (unfold R32; omega)) dX2_fits_89 (by decide) (fun h89 => ?_) (fun h89 => ?_)
              · refine PP.iinc (L' := [_, _, _, _, _]) dX2_fits_94 rfl rfl rfl ?_
                refine PP.goto (tgt := 32) dX2_fits_97 (by decide) ?_
                exact nx (by omega)
              · refine PP.iconst dX2_fits_92 ?_
                refine PP.zret dX2_fits_93 rfl (by first | decide | omega) ?_
                exact RV0 (bf fitS_t (fun h => h.2 o ho ⟨by omega, by omega, by omega, by omega⟩))
  refine PP.iload_n dX2_fits_0 rfl ?_
  refine PP.aload_n dX2_fits_1 rfl ?_
  refine PP.getfR dX2_fits_2 fl_X2_21 hr0 rfl ?_
  refine PP.getfR dX2_fits_5 fl_X2_65 hq0 rfl ?_
  refine PP.iload_n dX2_fits_8 rfl ?_
  refine PP.ialoadN (n := t) hq2 (by decide) (by first | rfl | omega) (by first | omega | exact hg _ _ | (unfold R32; omega)) dX2_fits_9 ?_
  refine PP.iadd dX2_fits_10 ?_
  refine PP.istore_n (L' := [_, _, _, _, _]) dX2_fits_11 (Nat.le_of_ble_eq_true rfl) rfl rfl ?_
  refine PP.iload_n dX2_fits_12 rfl ?_
  refine PP.if_lt (tgt := 27) (by first | omega | exact hg _ _ | (unfold R32; omega)) dX2_fits_13 (by decide) (fun h13 => ?_) (fun h13 => ?_)
  · omega
  · refine PP.iload_n dX2_fits_16 rfl ?_
    refine PP.aload_n dX2_fits_17 rfl ?_
    refine PP.getfR dX2_fits_18 fl_X2_21 hr0 rfl ?_
    refine PP.getfI dX2_fits_21 fl_X2_68 hq0 rfl ?_
    refine PP.icmp_le (tgt := 29) (by first | omega | exact hg _ _ | (unfold R32; omega)) (by first | omega | exact hg _ _ | (unfold R32; omega)) dX2_fits_24 (by decide) (fun h24 => ?_) (fun h24 => ?_)
    · refine PP.iconst dX2_fits_29 ?_
      refine PP.istore (L' := [_, _, _, _, _]) dX2_fits_30 (Nat.le_of_ble_eq_true rfl) rfl rfl ?_
      have hk := key (by omega) 0 (by omega) (fun u hu => by omega)
      rw [← g2] at hk
      exact hk
    · refine PP.iconst dX2_fits_27 ?_
      refine PP.zret dX2_fits_28 rfl (by first | decide | omega) ?_
      exact RV0 (bf fitS_t (fun h => by have := h.1; omega))
def ownS (T : Nat → Int) (P : Nat → Int) (s : Int) : Nat → Nat → Int
  | _, 0 => -4
  | o, k + 1 => if 0 ≤ P o ∧ P o ≤ s ∧ s < P o + T (11 + o) then o else ownS T P s (o + 1) k
theorem ok_ownerOf {σ : Sg} {r q n : Nat} {T P F : Nat → Int} {s : Int} (hc : RC σ r q T n P F) (hs : 0 ≤ s ∧ s ≤ 20) : OK SHc mX2_ownerOf 2 [vR r, vI s] σ (RV (ownS T P s 0 n) σ) := by
  obtain ⟨⟨hr0, hr1, hr2, hr3⟩, ⟨hq0, hq1, hq2, hq3, hq4, hq5⟩, hw, hP, hD, hR⟩ := id hc
  have hn7 := hw.2.1
  have hsl := hw.2.2.1
  obtain ⟨d0, d1, d2, d3, d4, d5⟩ := hD
  refine OK.enter (L' := [vR r, vI s, vN]) (by decide +kernel) (by simp [ent0]) rfl ?_
  refine PP.rg (fun hg => ?_)
  have key : ∀ o, o ≤ n → ownS T P s o (n - o) = ownS T P s 0 n → PP SHc mX2_ownerOf 2 2 [vR r, vI s, vI (o : Int)] [] σ (RV (ownS T P s 0 n) σ) := by
    refine loop_dn n ?_ ?_
    · intro he
      refine PP.iload_n dX2_ownerOf_2 rfl ?_
      refine PP.aload_n dX2_ownerOf_3 rfl ?_
      refine PP.getfR dX2_ownerOf_4 fl_X2_21 hr0 rfl ?_
      refine PP.getfI dX2_ownerOf_7 fl_X2_48 hq0 rfl ?_
      refine PP.icmp_ge (tgt := 59) (by first | omega | exact hg _ _ | (unfold R32; omega)) (by first | omega | exact hg _ _ | (unfold R32; omega)) dX2_ownerOf_10 (by decide) (fun h10 => ?_) (fun h10 => ?_)
      · refine PP.bipush dX2_ownerOf_59 (by decide) ?_
        refine PP.iret dX2_ownerOf_61 rfl ?_
        exact RVe (by rw [← he, Nat.sub_self]; rfl)
      · omega
    · intro o ho ih he
      obtain ⟨k1, k2, k3, k4⟩ := d4 o ho
      obtain ⟨v1, v2, v3, v4⟩ := hw.2.2.2.2.2.1 o ho
      obtain ⟨f1, f2, f3⟩ := hR o (by omega)
      have hPo := hP.1 o ho
      have f1' : 0 ≤ P o → σ (r + 1) o = P o := fun h => by rw [f1, if_neg (by omega)]
      have hin := inS_t (P := P) (t := o)
      rw [show n - o = (n - (o + 1)) + 1 by omega, ownS] at he
      refine PP.iload_n dX2_ownerOf_2 rfl ?_
      refine PP.aload_n dX2_ownerOf_3 rfl ?_
      refine PP.getfR dX2_ownerOf_4 fl_X2_21 hr0 rfl ?_
      refine PP.getfI dX2_ownerOf_7 fl_X2_48 hq0 rfl ?_
      refine PP.icmp_ge (tgt := 59) (by first | omega | exact hg _ _ | exact b2i_R _ | (unfold R32; omega)) (by first | omega | exact hg _ _ | exact b2i_R _ | (unfold R32; omega)) dX2_ownerOf_10 (by decide) (fun h10 => ?_) (fun h10 => ?_)
      · omega
      · refine PP.aload_n dX2_ownerOf_13 rfl ?_
        refine PP.iload_n dX2_ownerOf_14 rfl ?_
        refine PP.callVi (ok_in hc (t := o) (by omega)) dX2_ownerOf_15 vl_X2_51 hr0 rfl rfl rfl rfl (Nat.le_of_ble_eq_true rfl) (Nat.le_of_ble_eq_true rfl) ?_
        refine PP.if_eq (tgt := 53) (by first | omega | exact hg _ _ | exact b2i_R _ | (unfold R32; omega)) dX2_ownerOf_18 (by decide) (fun h18 => ?_) (fun h18 => ?_)
        · refine PP.iinc (L' := [_, _, _]) dX2_ownerOf_53 rfl rfl rfl ?_
          refine PP.goto (tgt := 2) dX2_ownerOf_56 (by decide) ?_
          refine ih ?_
          rw [if_neg (fun h => by have h18' := b2i_0.mp h18; rw [hin.mpr h.1] at h18'; cases h18')] at he
          exact he
        · have f1'' := f1' (hin.mp (b2i_n.mp h18))
          have hin' := hin.mp (b2i_n.mp h18)
          refine PP.iload_n dX2_ownerOf_21 rfl ?_
          refine PP.aload_n dX2_ownerOf_22 rfl ?_
          refine PP.getfR dX2_ownerOf_23 fl_X2_9 hr0 rfl ?_
          refine PP.iload_n dX2_ownerOf_26 rfl ?_
          refine PP.ialoadN (n := o) hr1 (by decide) (by first | rfl | omega) (by first | omega | exact hg _ _ | exact b2i_R _ | (unfold R32; omega)) dX2_ownerOf_27 ?_
          refine PP.icmp_lt (tgt := 53) (by first | omega | exact hg _ _ | exact b2i_R _ | (unfold R32; omega)) (by first | omega | exact hg _ _ | exact b2i_R _ | (unfold R32; omega)) dX2_ownerOf_28 (by decide) (fun h28 => ?_) (fun h28 => ?_)
          · refine PP.iinc (L' := [_, _, _]) dX2_ownerOf_53 rfl rfl rfl ?_
            refine PP.goto (tgt := 2) dX2_ownerOf_56 (by decide) ?_
            refine ih ?_
            rw [if_neg (by omega)] at he
            exact he
          · refine PP.iload_n dX2_ownerOf_31 rfl ?_
            refine PP.aload_n dX2_ownerOf_32 rfl ?_
            refine PP.getfR dX2_ownerOf_33 fl_X2_9 hr0 rfl ?_
            refine PP.iload_n dX2_ownerOf_36 rfl ?_
            refine PP.ialoadN (n := o) hr1 (by decide) (by first | rfl | omega) (by first | omega | exact hg _ _ | exact b2i_R _ | (unfold R32; omega)) dX2_ownerOf_37 ?_
            refine PP.aload_n dX2_ownerOf_38 rfl ?_
            refine PP.getfR dX2_ownerOf_39 fl_X2_21 hr0 rfl ?_
            refine PP.getfR dX2_ownerOf_42 fl_X2_65 hq0 rfl ?_
            refine PP.iload_n dX2_ownerOf_45 rfl ?_
            refine PP.ialoadN (n := o) hq2 (by decide) (by first | rfl | omega) (by first | omega | exact hg _ _ | exact b2i_R _ | (unfold R32; omega)) dX2_ownerOf_46 ?_
            refine PP.iadd dX2_ownerOf_47 ?_
            refine PP.icmp_ge (tgt := 53) (by first | omega | exact hg _ _ | exact b2i_R _ | (unfold R32; omega)) (by first | omega | exact hg _ _ | exact b2i_R _ | (unfold R32; omega)) dX2_ownerOf_48 (by decide) (fun h48 => ?_) (fun h48 => ?_)
            · refine PP.iinc (L' := [_, _, _]) dX2_ownerOf_53 rfl rfl rfl ?_
              refine PP.goto (tgt := 2) dX2_ownerOf_56 (by decide) ?_
              refine ih ?_
              rw [if_neg (by omega)] at he
              exact he
            · refine PP.iload_n dX2_ownerOf_51 rfl ?_
              refine PP.iret dX2_ownerOf_52 rfl ?_
              rw [if_pos ⟨by omega, by omega, by omega⟩] at he
              exact RVe he
  refine PP.iconst dX2_ownerOf_0 ?_
  refine PP.istore_n (L' := [_, _, _]) dX2_ownerOf_1 (Nat.le_of_ble_eq_true rfl) rfl rfl ?_
  exact key 0 (by omega) rfl
theorem ok_has {σ : Sg} {q n : Nat} {T : Nat → Int} {x : Int} (hk : DK q) (hw : wfT T n) (hD : DR σ q T n) (hx : R32 x) : OK SHc mX0_has 1 [vR q, vI x] σ (RV (b2i (decide (0 ≤ x ∧ x < n))) σ) := by
  obtain ⟨hq0, hq1, hq2, hq3, hq4, hq5⟩ := hk
  obtain ⟨d0, d1, d2, d3, d4, d5⟩ := hD
  refine OK.enter (L' := [vR q, vI x]) (by decide +kernel) (by simp [ent0]) rfl ?_
  refine PP.rg (fun hg => ?_)
  refine PP.iload_n dX0_has_0 rfl ?_
  refine PP.if_lt (tgt := 16) (by first | assumption | exact hg _ _) dX0_has_1 (by decide) (fun h1 => ?_) (fun h1 => ?_)
  · refine PP.iconst dX0_has_16 ?_
    refine PP.zret dX0_has_17 rfl (by first | decide | omega) ?_
    first
    | exact RV1 (decide_eq_true (by omega))
    | exact RV0 (decide_eq_false (by omega))
  · refine PP.iload_n dX0_has_4 rfl ?_
    refine PP.aload_n dX0_has_5 rfl ?_
    refine PP.getfI dX0_has_6 fl_X0_37 hq0 rfl ?_
    refine PP.icmp_ge (tgt := 16) (by first | assumption | exact hg _ _) (by first | assumption | exact hg _ _) dX0_has_9 (by decide) (fun h9 => ?_) (fun h9 => ?_)
    · refine PP.iconst dX0_has_16 ?_
      refine PP.zret dX0_has_17 rfl (by first | decide | omega) ?_
      first
      | exact RV1 (decide_eq_true (by omega))
      | exact RV0 (decide_eq_false (by omega))
    · refine PP.iconst dX0_has_12 ?_
      refine PP.goto (tgt := 17) dX0_has_13 (by decide) ?_
      refine PP.zret dX0_has_17 rfl (by first | decide | omega) ?_
      first
      | exact RV1 (decide_eq_true (by omega))
      | exact RV0 (decide_eq_false (by omega))
theorem ok_hasSlot {σ : Sg} {q n : Nat} {T : Nat → Int} {x : Int} (hk : DK q) (hw : wfT T n) (hD : DR σ q T n) (hx : R32 x) : OK SHc mX0_hasSlot 1 [vR q, vI x] σ (RV (b2i (decide (0 ≤ x ∧ x < T 0))) σ) := by
  obtain ⟨hq0, hq1, hq2, hq3, hq4, hq5⟩ := hk
  obtain ⟨d0, d1, d2, d3, d4, d5⟩ := hD
  refine OK.enter (L' := [vR q, vI x]) (by decide +kernel) (by simp [ent0]) rfl ?_
  refine PP.rg (fun hg => ?_)
  refine PP.iload_n dX0_hasSlot_0 rfl ?_
  refine PP.if_lt (tgt := 16) (by first | assumption | exact hg _ _) dX0_hasSlot_1 (by decide) (fun h1 => ?_) (fun h1 => ?_)
  · refine PP.iconst dX0_hasSlot_16 ?_
    refine PP.zret dX0_hasSlot_17 rfl (by first | decide | omega) ?_
    first
    | exact RV1 (decide_eq_true (by omega))
    | exact RV0 (decide_eq_false (by omega))
  · refine PP.iload_n dX0_hasSlot_4 rfl ?_
    refine PP.aload_n dX0_hasSlot_5 rfl ?_
    refine PP.getfI dX0_hasSlot_6 fl_X0_27 hq0 rfl ?_
    refine PP.icmp_ge (tgt := 16) (by first | assumption | exact hg _ _) (by first | assumption | exact hg _ _) dX0_hasSlot_9 (by decide) (fun h9 => ?_) (fun h9 => ?_)
    · refine PP.iconst dX0_hasSlot_16 ?_
      refine PP.zret dX0_hasSlot_17 rfl (by first | decide | omega) ?_
      first
      | exact RV1 (decide_eq_true (by omega))
      | exact RV0 (decide_eq_false (by omega))
    · refine PP.iconst dX0_hasSlot_12 ?_
      refine PP.goto (tgt := 17) dX0_hasSlot_13 (by decide) ?_
      refine PP.zret dX0_hasSlot_17 rfl (by first | decide | omega) ?_
      first
      | exact RV1 (decide_eq_true (by omega))
      | exact RV0 (decide_eq_false (by omega))
theorem ok_isBit {SH : List shp} {σ : Sg} {x : Int} (hx : R32 x) : OK SH mX5_isBit 1 [vI x] σ (RV (b2i (decide (x = 0 ∨ x = 1))) σ) := by
  refine OK.enter (L' := [vI x]) (by decide +kernel) (by simp [ent0]) rfl ?_
  refine PP.iload_n dX5_isBit_0 rfl ?_
  refine PP.if_eq (tgt := 9) (by first | assumption | (unfold R32; omega)) dX5_isBit_1 (by decide) (fun h1 => ?_) (fun h1 => ?_)
  · refine PP.iconst dX5_isBit_9 ?_
    refine PP.goto (tgt := 14) dX5_isBit_10 (by decide) ?_
    refine PP.zret dX5_isBit_14 rfl (by first | decide | omega) ?_
    first
    | exact RV1 (decide_eq_true (by omega))
    | exact RV0 (decide_eq_false (by omega))
  · refine PP.iload_n dX5_isBit_4 rfl ?_
    refine PP.iconst dX5_isBit_5 ?_
    refine PP.icmp_ne (tgt := 13) (by first | assumption | (unfold R32; omega)) (by first | assumption | (unfold R32; omega)) dX5_isBit_6 (by decide) (fun h6 => ?_) (fun h6 => ?_)
    · refine PP.iconst dX5_isBit_13 ?_
      refine PP.zret dX5_isBit_14 rfl (by first | decide | omega) ?_
      first
      | exact RV1 (decide_eq_true (by omega))
      | exact RV0 (decide_eq_false (by omega))
    · refine PP.iconst dX5_isBit_9 ?_
      refine PP.goto (tgt := 14) dX5_isBit_10 (by decide) ?_
      refine PP.zret dX5_isBit_14 rfl (by first | decide | omega) ?_
      first
      | exact RV1 (decide_eq_true (by omega))
      | exact RV0 (decide_eq_false (by omega))
theorem ok_isHour {SH : List shp} {σ : Sg} {x : Int} (hx : R32 x) : OK SH mX5_isHour 1 [vI x] σ (RV (b2i (decide (0 ≤ x ∧ x < 24))) σ) := by
  refine OK.enter (L' := [vI x]) (by decide +kernel) (by simp [ent0]) rfl ?_
  refine PP.iload_n dX5_isHour_0 rfl ?_
  refine PP.if_lt (tgt := 14) (by first | assumption | (unfold R32; omega)) dX5_isHour_1 (by decide) (fun h1 => ?_) (fun h1 => ?_)
  · refine PP.iconst dX5_isHour_14 ?_
    refine PP.zret dX5_isHour_15 rfl (by first | decide | omega) ?_
    first
    | exact RV1 (decide_eq_true (by omega))
    | exact RV0 (decide_eq_false (by omega))
  · refine PP.iload_n dX5_isHour_4 rfl ?_
    refine PP.bipush dX5_isHour_5 (by decide) ?_
    refine PP.icmp_ge (tgt := 14) (by first | assumption | (unfold R32; omega)) (by first | assumption | (unfold R32; omega)) dX5_isHour_7 (by decide) (fun h7 => ?_) (fun h7 => ?_)
    · refine PP.iconst dX5_isHour_14 ?_
      refine PP.zret dX5_isHour_15 rfl (by first | decide | omega) ?_
      first
      | exact RV1 (decide_eq_true (by omega))
      | exact RV0 (decide_eq_false (by omega))
    · refine PP.iconst dX5_isHour_10 ?_
      refine PP.goto (tgt := 15) dX5_isHour_11 (by decide) ?_
      refine PP.zret dX5_isHour_15 rfl (by first | decide | omega) ?_
      first
      | exact RV1 (decide_eq_true (by omega))
      | exact RV0 (decide_eq_false (by omega))
theorem ok_isTenth {SH : List shp} {σ : Sg} {x : Int} (hx : R32 x) : OK SH mX5_isTenth 1 [vI x] σ (RV (b2i (decide (0 ≤ x ∧ x ≤ 10))) σ) := by
  refine OK.enter (L' := [vI x]) (by decide +kernel) (by simp [ent0]) rfl ?_
  refine PP.iload_n dX5_isTenth_0 rfl ?_
  refine PP.if_lt (tgt := 14) (by first | assumption | (unfold R32; omega)) dX5_isTenth_1 (by decide) (fun h1 => ?_) (fun h1 => ?_)
  · refine PP.iconst dX5_isTenth_14 ?_
    refine PP.zret dX5_isTenth_15 rfl (by first | decide | omega) ?_
    first
    | exact RV1 (decide_eq_true (by omega))
    | exact RV0 (decide_eq_false (by omega))
  · refine PP.iload_n dX5_isTenth_4 rfl ?_
    refine PP.bipush dX5_isTenth_5 (by decide) ?_
    refine PP.icmp_gt (tgt := 14) (by first | assumption | (unfold R32; omega)) (by first | assumption | (unfold R32; omega)) dX5_isTenth_7 (by decide) (fun h7 => ?_) (fun h7 => ?_)
    · refine PP.iconst dX5_isTenth_14 ?_
      refine PP.zret dX5_isTenth_15 rfl (by first | decide | omega) ?_
      first
      | exact RV1 (decide_eq_true (by omega))
      | exact RV0 (decide_eq_false (by omega))
    · refine PP.iconst dX5_isTenth_10 ?_
      refine PP.goto (tgt := 15) dX5_isTenth_11 (by decide) ?_
      refine PP.zret dX5_isTenth_15 rfl (by first | decide | omega) ?_
      first
      | exact RV1 (decide_eq_true (by omega))
      | exact RV0 (decide_eq_false (by omega))
theorem ok_isWithin {SH : List shp} {σ : Sg} {x y : Int} (hx : R32 x) (hy : R32 y) : OK SH mX3_isWithin 1 [vI x, vI y] σ (RV (b2i (decide (1 ≤ x ∧ x ≤ y))) σ) := by
  refine OK.enter (L' := [vI x, vI y]) (by decide +kernel) (by simp [ent0]) rfl ?_
  refine PP.iload_n dX3_isWithin_0 rfl ?_
  refine PP.iconst dX3_isWithin_1 ?_
  refine PP.icmp_lt (tgt := 14) (by first | assumption | (unfold R32; omega)) (by first | assumption | (unfold R32; omega)) dX3_isWithin_2 (by decide) (fun h2 => ?_) (fun h2 => ?_)
  · refine PP.iconst dX3_isWithin_14 ?_
    refine PP.zret dX3_isWithin_15 rfl (by first | decide | omega) ?_
    first
    | exact RV1 (decide_eq_true (by omega))
    | exact RV0 (decide_eq_false (by omega))
  · refine PP.iload_n dX3_isWithin_5 rfl ?_
    refine PP.iload_n dX3_isWithin_6 rfl ?_
    refine PP.icmp_gt (tgt := 14) (by first | assumption | (unfold R32; omega)) (by first | assumption | (unfold R32; omega)) dX3_isWithin_7 (by decide) (fun h7 => ?_) (fun h7 => ?_)
    · refine PP.iconst dX3_isWithin_14 ?_
      refine PP.zret dX3_isWithin_15 rfl (by first | decide | omega) ?_
      first
      | exact RV1 (decide_eq_true (by omega))
      | exact RV0 (decide_eq_false (by omega))
    · refine PP.iconst dX3_isWithin_10 ?_
      refine PP.goto (tgt := 15) dX3_isWithin_11 (by decide) ?_
      refine PP.zret dX3_isWithin_15 rfl (by first | decide | omega) ?_
      first
      | exact RV1 (decide_eq_true (by omega))
      | exact RV0 (decide_eq_false (by omega))
theorem shr_msk {p : Nat → Bool} {n t : Nat} (hn : n ≤ 7) (ht : t < 7) : Int32.ofInt ((msk p n : Nat) : Int) >>> (Int32.ofInt (t : Int) &&& 31) = Int32.ofInt ((msk p n / 2 ^ t : Nat) : Int) :=
  ishr_n (by omega) (Nat.lt_trans (msk_128 p hn) (by decide))
theorem and_bit {p : Nat → Bool} {n t : Nat} (ht : t < n) : Int32.ofInt ((msk p n / 2 ^ t : Nat) : Int) &&& Int32.ofInt 1 = Int32.ofInt (b2i (p t)) := by
  have h := iand_n (msk p n / 2 ^ t) 1
  rw [bit_mod, msk_bit ht] at h
  refine Eq.trans h ?_
  cases p t <;> rfl
theorem ok_isWashed {σ : Sg} {r q n t : Nat} {p : Nat → Bool} (hk : RK r q) (hm : σ r 4 = (msk p n : Nat)) (hn : n ≤ 7) (ht : t < n) : OK SHc mX2_isWashed 1 [vR r, vI (t : Int)] σ (RV (b2i (p t)) σ) := by
  obtain ⟨hr0, hr1, hr2, hr3⟩ := hk
  refine OK.enter (L' := [vR r, vI (t : Int)]) (by decide +kernel) (by simp [ent0]) rfl ?_
  refine PP.rg (fun hg => ?_)
  refine PP.aload_n dX2_isWashed_0 rfl ?_
  refine PP.getfI dX2_isWashed_1 fl_X2_31 hr0 rfl ?_
  refine PP.eqI hm ?_
  refine PP.iload_n dX2_isWashed_4 rfl ?_
  refine PP.ishrR (z := ((msk p n / 2 ^ t) : Nat)) (shr_msk hn (by omega)) dX2_isWashed_5 ?_
  refine PP.iconst dX2_isWashed_6 ?_
  refine PP.iandR (z := (b2i (p t))) (and_bit ht) dX2_isWashed_7 ?_
  refine PP.iconst dX2_isWashed_8 ?_
  refine PP.icmp_ne (tgt := 16) (by first | omega | exact b2i_R _ | (unfold R32; omega)) (by first | omega | exact b2i_R _ | (unfold R32; omega)) dX2_isWashed_9 (by decide) (fun h9 => ?_) (fun h9 => ?_)
  · refine PP.iconst dX2_isWashed_16 ?_
    refine PP.zret dX2_isWashed_17 rfl (by first | decide | omega) ?_
    first
    | exact RV1 (b2i_1.mp (by omega))
    | exact RV0 (b2i_0.mp (by have := b2i_01 (p t); omega))
  · refine PP.iconst dX2_isWashed_12 ?_
    refine PP.goto (tgt := 17) dX2_isWashed_13 (by decide) ?_
    refine PP.zret dX2_isWashed_17 rfl (by first | decide | omega) ?_
    first
    | exact RV1 (b2i_1.mp (by omega))
    | exact RV0 (b2i_0.mp (by have := b2i_01 (p t); omega))
