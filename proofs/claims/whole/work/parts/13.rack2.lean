/-! the rack of the component: what comes clean -/
theorem tcS_t {T : Nat → Int} {n : Nat} {P : Nat → Int} {t : Nat} : tcS T n P t = true ↔ ∃ u, u < n ∧ ¬ u = t ∧ T (4 + u) = 2 ∧ 0 ≤ P u ∧ (P u + T (11 + u) = P t ∨ P t + T (11 + t) = P u) := by
  unfold tcS
  rw [anyB_t]
  simp [and_assoc]
theorem ok_touchesSpoon {σ : Sg} {r q n t : Nat} {T P F : Nat → Int} (hc : RC σ r q T n P F) (ht : t < n) (hp : 0 ≤ P t) : OK SHc mX2_touchesSpoon 2 [vR r, vI (t : Int)] σ (RV (b2i (tcS T n P t)) σ) := by
  obtain ⟨⟨hr0, hr1, hr2, hr3⟩, ⟨hq0, hq1, hq2, hq3, hq4, hq5⟩, hw, hP, hD, hR⟩ := id hc
  have hn7 := hw.2.1
  obtain ⟨d0, d1, d2, d3, d4, d5⟩ := hD
  obtain ⟨g1, g2, g3, g4⟩ := d4 t ht
  obtain ⟨w1, w2, w3, w4⟩ := hw.2.2.2.2.2.1 t ht
  obtain ⟨e1, e2, e3⟩ := hR t (by omega)
  rw [if_neg (by omega)] at e1 e2
  have hPt := hP.1 t ht
  have hsl := hw.2.2.1
  refine OK.enter (L' := [vR r, vI (t : Int), vN, vN]) (by decide +kernel) (by simp [ent0]) rfl ?_
  refine PP.rg (fun hg => ?_)
  have key : ∀ o, o ≤ n → (∀ u, u < o → ¬ (¬ u = t ∧ T (4 + u) = 2 ∧ 0 ≤ P u ∧ (P u + T (11 + u) = P t ∨ P t + T (11 + t) = P u))) → PP SHc mX2_touchesSpoon 2 19 [vR r, vI (t : Int), vI (P t + T (11 + t)), vI (o : Int)] [] σ (RV (b2i (tcS T n P t)) σ) := by
    refine loop_dn n ?_ ?_
    · intro hno
      refine PP.iload_n dX2_touchesSpoon_19 rfl ?_
      refine PP.aload_n dX2_touchesSpoon_20 rfl ?_
      refine PP.getfR dX2_touchesSpoon_21 fl_X2_21 hr0 rfl ?_
      refine PP.getfI dX2_touchesSpoon_24 fl_X2_48 hq0 rfl ?_
      refine PP.icmp_ge (tgt := 99) (by first | omega | exact hg _ _ | (unfold R32; omega)) (by first | omega | exact hg _ _ | (unfold R32; omega)) dX2_touchesSpoon_27 (by decide) (fun h27 => ?_) (fun h27 => ?_)
      · refine PP.iconst dX2_touchesSpoon_99 ?_
        refine PP.zret dX2_touchesSpoon_100 rfl (by first | decide | omega) ?_
        exact RV0 (bf tcS_t (fun ⟨u, hu, h⟩ => hno u hu h))
      · omega
    · intro o ho ih hno
      obtain ⟨k1, k2, k3, k4⟩ := d4 o ho
      obtain ⟨v1, v2, v3, v4⟩ := hw.2.2.2.2.2.1 o ho
      obtain ⟨f1, f2, f3⟩ := hR o (by omega)
      have hPo := hP.1 o ho
      have f1' : 0 ≤ P o → σ (r + 1) o = P o := fun h => by rw [f1, if_neg (by omega)]
      have hin := inS_t (P := P) (t := o)
      refine PP.iload_n dX2_touchesSpoon_19 rfl ?_
      refine PP.aload_n dX2_touchesSpoon_20 rfl ?_
      refine PP.getfR dX2_touchesSpoon_21 fl_X2_21 hr0 rfl ?_
      refine PP.getfI dX2_touchesSpoon_24 fl_X2_48 hq0 rfl ?_
      refine PP.icmp_ge (tgt := 99) (by first | omega | exact hg _ _ | exact b2i_R _ | (unfold R32; omega)) (by first | omega | exact hg _ _ | exact b2i_R _ | (unfold R32; omega)) dX2_touchesSpoon_27 (by decide) (fun h27 => ?_) (fun h27 => ?_)
      · omega
      · refine PP.iload_n dX2_touchesSpoon_30 rfl ?_
        refine PP.iload_n dX2_touchesSpoon_31 rfl ?_
        refine PP.icmp_eq (tgt := 93) (by first | omega | exact hg _ _ | exact b2i_R _ | (unfold R32; omega)) (by first | omega | exact hg _ _ | exact b2i_R _ | (unfold R32; omega)) dX2_touchesSpoon_32 (by decide) (fun h32 => ?_) (fun h32 => ?_)
        · refine PP.iinc (L' := [_, _, _, _]) dX2_touchesSpoon_93 rfl rfl rfl ?_
          refine PP.goto (tgt := 19) dX2_touchesSpoon_96 (by decide) ?_
          refine ih (fun u hu => ?_)
          rcases Nat.lt_or_ge u o with h | h
          · exact hno u h
          · have : u = o := by omega
            subst this
            omega
        · refine PP.aload_n dX2_touchesSpoon_35 rfl ?_
          refine PP.iload_n dX2_touchesSpoon_36 rfl ?_
          refine PP.callVi (ok_in hc (t := o) (by omega)) dX2_touchesSpoon_37 vl_X2_51 hr0 rfl rfl rfl rfl (Nat.le_of_ble_eq_true rfl) (Nat.le_of_ble_eq_true rfl) ?_
          refine PP.if_eq (tgt := 93) (by first | omega | exact hg _ _ | exact b2i_R _ | (unfold R32; omega)) dX2_touchesSpoon_40 (by decide) (fun h40 => ?_) (fun h40 => ?_)
          · have h40' := b2i_0.mp h40
            refine PP.iinc (L' := [_, _, _, _]) dX2_touchesSpoon_93 rfl rfl rfl ?_
            refine PP.goto (tgt := 19) dX2_touchesSpoon_96 (by decide) ?_
            refine ih (fun u hu => ?_)
            rcases Nat.lt_or_ge u o with h | h
            · exact hno u h
            · have : u = o := by omega
              subst this
              rintro ⟨a1, a2, a3, a4⟩
              rw [hin.mpr a3] at h40'; cases h40'
          · have h40' := hin.mp (b2i_n.mp h40)
            have f1'' := f1' h40'
            refine PP.aload_n dX2_touchesSpoon_43 rfl ?_
            refine PP.getfR dX2_touchesSpoon_44 fl_X2_21 hr0 rfl ?_
            refine PP.getfR dX2_touchesSpoon_47 fl_X2_71 hq0 rfl ?_
            refine PP.iload_n dX2_touchesSpoon_50 rfl ?_
            refine PP.ialoadN (n := o) hq1 (by decide) (by first | rfl | omega) (by first | omega | exact hg _ _ | exact b2i_R _ | (unfold R32; omega)) dX2_touchesSpoon_51 ?_
            refine PP.iconst dX2_touchesSpoon_52 ?_
            refine PP.icmp_ne (tgt := 93) (by first | omega | exact hg _ _ | exact b2i_R _ | (unfold R32; omega)) (by first | omega | exact hg _ _ | exact b2i_R _ | (unfold R32; omega)) dX2_touchesSpoon_53 (by decide) (fun h53 => ?_) (fun h53 => ?_)
            · refine PP.iinc (L' := [_, _, _, _]) dX2_touchesSpoon_93 rfl rfl rfl ?_
              refine PP.goto (tgt := 19) dX2_touchesSpoon_96 (by decide) ?_
              refine ih (fun u hu => ?_)
              rcases Nat.lt_or_ge u o with h | h
              · exact hno u h
              · have : u = o := by omega
                subst this
                omega
            · refine PP.aload_n dX2_touchesSpoon_56 rfl ?_
              refine PP.getfR dX2_touchesSpoon_57 fl_X2_9 hr0 rfl ?_
              refine PP.iload_n dX2_touchesSpoon_60 rfl ?_
              refine PP.ialoadN (n := o) hr1 (by decide) (by first | rfl | omega) (by first | omega | exact hg _ _ | exact b2i_R _ | (unfold R32; omega)) dX2_touchesSpoon_61 ?_
              refine PP.iload_n dX2_touchesSpoon_62 rfl ?_
              refine PP.icmp_eq (tgt := 91) (by first | omega | exact hg _ _ | exact b2i_R _ | (unfold R32; omega)) (by first | omega | exact hg _ _ | exact b2i_R _ | (unfold R32; omega)) dX2_touchesSpoon_63 (by decide) (fun h63 => ?_) (fun h63 => ?_)
              · refine PP.iconst dX2_touchesSpoon_91 ?_
                refine PP.zret dX2_touchesSpoon_92 rfl (by first | decide | omega) ?_
                exact RV1 (bt tcS_t ⟨o, ho, by omega, by omega, by omega, by omega⟩)
              · refine PP.aload_n dX2_touchesSpoon_66 rfl ?_
                refine PP.getfR dX2_touchesSpoon_67 fl_X2_9 hr0 rfl ?_
                refine PP.iload_n dX2_touchesSpoon_70 rfl ?_
                refine PP.ialoadN (n := o) hr1 (by decide) (by first | rfl | omega) (by first | omega | exact hg _ _ | exact b2i_R _ | (unfold R32; omega)) dX2_touchesSpoon_71 ?_
                refine PP.aload_n dX2_touchesSpoon_72 rfl ?_
                refine PP.getfR dX2_touchesSpoon_73 fl_X2_21 hr0 rfl ?_
                refine PP.getfR dX2_touchesSpoon_76 fl_X2_65 hq0 rfl ?_
                refine PP.iload_n dX2_touchesSpoon_79 rfl ?_
                refine PP.ialoadN (n := o) hq2 (by decide) (by first | rfl | omega) (by first | omega | exact hg _ _ | exact b2i_R _ | (unfold R32; omega)) dX2_touchesSpoon_80 ?_
                refine PP.iadd dX2_touchesSpoon_81 ?_
                refine PP.aload_n dX2_touchesSpoon_82 rfl ?_
                refine PP.getfR dX2_touchesSpoon_83 fl_X2_9 hr0 rfl ?_
                refine PP.iload_n dX2_touchesSpoon_86 rfl ?_
                refine PP.ialoadN (n := t) hr1 (by decide) (by first | rfl | omega) (by first | omega | exact hg _ _ | exact b2i_R _ | (unfold R32; omega)) dX2_touchesSpoon_87 ?_
                refine PP.icmp_ne (tgt := 93) (by first | omega | exact hg _ _ | exact b2i_R _ | (unfold R32; omega)) (by first | omega | exact hg _ _ | exact b2i_R _ | (unfold R32; omega)) dX2_touchesSpoon_88 (by decide) (fun h88 => ?_) (fun h88 => ?_)
                · refine PP.iinc (L' := [_, _, _, _]) dX2_touchesSpoon_93 rfl rfl rfl ?_
                  refine PP.goto (tgt := 19) dX2_touchesSpoon_96 (by decide) ?_
                  refine ih (fun u hu => ?_)
                  rcases Nat.lt_or_ge u o with h | h
                  · exact hno u h
                  · have : u = o := by omega
                    subst this
                    omega
                · refine PP.iconst dX2_touchesSpoon_91 ?_
                  refine PP.zret dX2_touchesSpoon_92 rfl (by first | decide | omega) ?_
                  exact RV1 (bt tcS_t ⟨o, ho, by omega, by omega, by omega, by omega⟩)
  refine PP.aload_n dX2_touchesSpoon_0 rfl ?_
  refine PP.getfR dX2_touchesSpoon_1 fl_X2_9 hr0 rfl ?_
  refine PP.iload_n dX2_touchesSpoon_4 rfl ?_
  refine PP.ialoadN (n := t) hr1 (by decide) (by first | rfl | omega) (by first | omega | exact hg _ _ | (unfold R32; omega)) dX2_touchesSpoon_5 ?_
  refine PP.aload_n dX2_touchesSpoon_6 rfl ?_
  refine PP.getfR dX2_touchesSpoon_7 fl_X2_21 hr0 rfl ?_
  refine PP.getfR dX2_touchesSpoon_10 fl_X2_65 hq0 rfl ?_
  refine PP.iload_n dX2_touchesSpoon_13 rfl ?_
  refine PP.ialoadN (n := t) hq2 (by decide) (by first | rfl | omega) (by first | omega | exact hg _ _ | (unfold R32; omega)) dX2_touchesSpoon_14 ?_
  refine PP.iadd dX2_touchesSpoon_15 ?_
  refine PP.istore_n (L' := [_, _, _, _]) dX2_touchesSpoon_16 (Nat.le_of_ble_eq_true rfl) rfl rfl ?_
  refine PP.iconst dX2_touchesSpoon_17 ?_
  refine PP.istore_n (L' := [_, _, _, _]) dX2_touchesSpoon_18 (Nat.le_of_ble_eq_true rfl) rfl rfl ?_
  have hk := key 0 (by omega) (fun u hu => by omega)
  rw [← e1, ← g2] at hk
  exact hk
/-- what the thing itself allows: it is clean but for a ladle on the other side -/
def c0S (T : Nat → Int) (n : Nat) (P F : Nat → Int) (w : Int) (t : Nat) : Bool :=
  decide (neS T P F t ≤ w - shS T n P t) && !((decide (T (4 + t) = 1) && !lkS T P F t) || (decide (T (4 + t) = 2) && tcS T n P t)) && !kstS T t
theorem c0S_t {T : Nat → Int} {n : Nat} {P F : Nat → Int} {w : Int} {t : Nat} : c0S T n P F w t = true ↔ (neS T P F t ≤ w - shS T n P t ∧ ¬ (T (4 + t) = 1 ∧ lkS T P F t = false) ∧ ¬ (T (4 + t) = 2 ∧ tcS T n P t = true) ∧ kstS T t = false) := by
  unfold c0S
  cases lkS T P F t <;> cases tcS T n P t <;> cases kstS T t <;> simp
theorem shS_le (T : Nat → Int) (n : Nat) (P : Nat → Int) (t : Nat) : shS T n P t ≤ n := by
  have := cnt_le (fun u => btS T P t u && hiS T t u) n
  unfold shS scS
  split <;> omega
theorem ok_comesClean {σ : Sg} {r q n t : Nat} {T P F : Nat → Int} {w : Int} (hc : RC σ r q T n P F) (ht : t < n) (hp : 0 ≤ P t) (hwa : 0 ≤ w ∧ w ≤ 9) : OK SHc mX2_comesClean 3 [vR r, vI (t : Int), vI w] σ (RV (b2i (c0S T n P F w t)) σ) := by
  obtain ⟨⟨hr0, hr1, hr2, hr3⟩, hdk, hw, hP, hD, hR⟩ := id hc
  obtain ⟨hq0, hq1, hq2, hq3, hq4, hq5⟩ := id hdk
  have hn7 := hw.2.1
  obtain ⟨d0, d1, d2, d3, d4, d5⟩ := id hD
  obtain ⟨g1, g2, g3, g4⟩ := d4 t ht
  obtain ⟨w1, w2, w3, w4⟩ := hw.2.2.2.2.2.1 t ht
  have hsh := shS_le T n P t
  have hlk : b2i (lkS T P F t) = 0 ↔ lkS T P F t = false := b2i_0
  have hkt : b2i (kstS T t) = 0 ↔ kstS T t = false := b2i_0
  have htc : b2i (tcS T n P t) = 0 ↔ tcS T n P t = false := b2i_0
  have hlk' := b2i_01 (lkS T P F t)
  refine OK.enter (L' := [vR r, vI (t : Int), vI w, vN, vN, vN]) (by decide +kernel) (by simp [ent0]) rfl ?_
  refine PP.rg (fun hg => ?_)
  refine PP.aload_n dX2_comesClean_0 rfl ?_
  refine PP.getfR dX2_comesClean_1 fl_X2_21 hr0 rfl ?_
  refine PP.getfR dX2_comesClean_4 fl_X2_71 hq0 rfl ?_
  refine PP.iload_n dX2_comesClean_7 rfl ?_
  refine PP.ialoadN (n := t) hq1 (by decide) (by first | rfl | omega) (by first | omega | exact hg _ _ | exact b2i_R _ | (unfold R32; omega)) dX2_comesClean_8 ?_
  refine PP.istore_n (L' := [_, _, _, _, _, _]) dX2_comesClean_9 (Nat.le_of_ble_eq_true rfl) rfl rfl ?_
  refine PP.aload_n dX2_comesClean_10 rfl ?_
  refine PP.iload_n dX2_comesClean_11 rfl ?_
  refine PP.callVi (ok_looksIn hc ht hp) dX2_comesClean_12 vl_X2_93 hr0 rfl rfl rfl rfl (Nat.le_of_ble_eq_true rfl) (Nat.le_of_ble_eq_true rfl) ?_
  refine PP.istore (L' := [_, _, _, _, _, _]) dX2_comesClean_15 (Nat.le_of_ble_eq_true rfl) rfl rfl ?_
  refine PP.aload_n dX2_comesClean_17 rfl ?_
  refine PP.getfR dX2_comesClean_18 fl_X2_21 hr0 rfl ?_
  refine PP.iload_n dX2_comesClean_21 rfl ?_
  refine PP.callVi (ok_strikes hdk hw hD ht) dX2_comesClean_22 vl_X2_90 hq0 rfl rfl rfl rfl (Nat.le_of_ble_eq_true rfl) (Nat.le_of_ble_eq_true rfl) ?_
  refine PP.if_ne (tgt := 51) (by first | omega | exact hg _ _ | exact b2i_R _ | (unfold R32; omega)) dX2_comesClean_25 (by decide) (fun h25 => ?_) (fun h25 => ?_)
  · refine PP.iconst dX2_comesClean_51 ?_
    refine PP.zret dX2_comesClean_52 rfl (by first | decide | omega) ?_
    refine RV0 (bf c0S_t ?_)
    rintro ⟨a1, a2, a3, a4⟩
    first
      | exact h25 (hkt.mpr a4)
      | exact a2 ⟨by omega, hlk.mp (by omega)⟩
      | exact a3 ⟨by omega, b2i_n.mp (by omega)⟩
  · refine PP.iload_n dX2_comesClean_28 rfl ?_
    refine PP.iconst dX2_comesClean_29 ?_
    refine PP.icmp_ne (tgt := 38) (by first | omega | exact hg _ _ | exact b2i_R _ | (unfold R32; omega)) (by first | omega | exact hg _ _ | exact b2i_R _ | (unfold R32; omega)) dX2_comesClean_30 (by decide) (fun h30 => ?_) (fun h30 => ?_)
    · refine PP.iload_n dX2_comesClean_38 rfl ?_
      refine PP.iconst dX2_comesClean_39 ?_
      refine PP.icmp_ne (tgt := 53) (by first | omega | exact hg _ _ | exact b2i_R _ | (unfold R32; omega)) (by first | omega | exact hg _ _ | exact b2i_R _ | (unfold R32; omega)) dX2_comesClean_40 (by decide) (fun h40 => ?_) (fun h40 => ?_)
      · refine PP.iload_n dX2_comesClean_53 rfl ?_
        refine PP.if_ne (tgt := 76) (by first | omega | exact hg _ _ | exact b2i_R _ | (unfold R32; omega)) dX2_comesClean_54 (by decide) (fun h54 => ?_) (fun h54 => ?_)
        · refine PP.aload_n dX2_comesClean_76 rfl ?_
          refine PP.getfR dX2_comesClean_77 fl_X2_21 hr0 rfl ?_
          refine PP.getfR dX2_comesClean_80 fl_X2_99 hq0 rfl ?_
          refine PP.iload_n dX2_comesClean_83 rfl ?_
          refine PP.ialoadN (n := t) hq4 (by decide) (by first | rfl | omega) (by first | omega | exact hg _ _ | exact b2i_R _ | (unfold R32; omega)) dX2_comesClean_84 ?_
          refine PP.istore (L' := [_, _, _, _, _, _]) dX2_comesClean_85 (Nat.le_of_ble_eq_true rfl) rfl rfl ?_
          refine PP.iload_n dX2_comesClean_87 rfl ?_
          refine PP.aload_n dX2_comesClean_88 rfl ?_
          refine PP.iload_n dX2_comesClean_89 rfl ?_
          refine PP.callVi (ok_shadowOf hc ht hp) dX2_comesClean_90 vl_X2_102 hr0 rfl rfl rfl rfl (Nat.le_of_ble_eq_true rfl) (Nat.le_of_ble_eq_true rfl) ?_
          refine PP.isub dX2_comesClean_93 ?_
          refine PP.iload dX2_comesClean_94 rfl ?_
          refine PP.icmp_lt (tgt := 103) (by first | omega | exact hg _ _ | exact b2i_R _ | (unfold R32; omega)) (by first | omega | exact hg _ _ | exact b2i_R _ | (unfold R32; omega)) dX2_comesClean_96 (by decide) (fun h96 => ?_) (fun h96 => ?_)
          · refine PP.iconst dX2_comesClean_103 ?_
            refine PP.zret dX2_comesClean_104 rfl (by first | decide | omega) ?_
            have q1 : ¬ (T (4 + t) = 1 ∧ lkS T P F t = false) := by
              rintro ⟨b1, b2⟩
              have := hlk.mpr b2
              omega
            have q2 : ¬ (T (4 + t) = 2 ∧ tcS T n P t = true) := by
              rintro ⟨b1, b2⟩
              first
                | (have b3 := htc.mp (by omega); rw [b2] at b3; cases b3)
                | omega
            have q3 : kstS T t = false := hkt.mp (by omega)
            have q4 : neS T P F t = T (25 + t) + (if T (4 + t) = 0 ∧ lkS T P F t = false then 1 else 0) := rfl
            first
              | rw [if_pos ⟨by omega, hlk.mp (by omega)⟩] at q4
              | rw [if_neg (fun h => by have := hlk.mpr h.2; omega)] at q4
            first
              | exact RV1 (bt c0S_t ⟨by omega, q1, q2, q3⟩)
              | exact RV0 (bf c0S_t (fun h => by have := h.1; omega))
          · refine PP.iconst dX2_comesClean_99 ?_
            refine PP.goto (tgt := 104) dX2_comesClean_100 (by decide) ?_
            refine PP.zret dX2_comesClean_104 rfl (by first | decide | omega) ?_
            have q1 : ¬ (T (4 + t) = 1 ∧ lkS T P F t = false) := by
              rintro ⟨b1, b2⟩
              have := hlk.mpr b2
              omega
            have q2 : ¬ (T (4 + t) = 2 ∧ tcS T n P t = true) := by
              rintro ⟨b1, b2⟩
              first
                | (have b3 := htc.mp (by omega); rw [b2] at b3; cases b3)
                | omega
            have q3 : kstS T t = false := hkt.mp (by omega)
            have q4 : neS T P F t = T (25 + t) + (if T (4 + t) = 0 ∧ lkS T P F t = false then 1 else 0) := rfl
            first
              | rw [if_pos ⟨by omega, hlk.mp (by omega)⟩] at q4
              | rw [if_neg (fun h => by have := hlk.mpr h.2; omega)] at q4
            first
              | exact RV1 (bt c0S_t ⟨by omega, q1, q2, q3⟩)
              | exact RV0 (bf c0S_t (fun h => by have := h.1; omega))
        · refine PP.iload dX2_comesClean_57 rfl ?_
          refine PP.if_ne (tgt := 76) (by first | omega | exact hg _ _ | exact b2i_R _ | (unfold R32; omega)) dX2_comesClean_59 (by decide) (fun h59 => ?_) (fun h59 => ?_)
          · refine PP.aload_n dX2_comesClean_76 rfl ?_
            refine PP.getfR dX2_comesClean_77 fl_X2_21 hr0 rfl ?_
            refine PP.getfR dX2_comesClean_80 fl_X2_99 hq0 rfl ?_
            refine PP.iload_n dX2_comesClean_83 rfl ?_
            refine PP.ialoadN (n := t) hq4 (by decide) (by first | rfl | omega) (by first | omega | exact hg _ _ | exact b2i_R _ | (unfold R32; omega)) dX2_comesClean_84 ?_
            refine PP.istore (L' := [_, _, _, _, _, _]) dX2_comesClean_85 (Nat.le_of_ble_eq_true rfl) rfl rfl ?_
            refine PP.iload_n dX2_comesClean_87 rfl ?_
            refine PP.aload_n dX2_comesClean_88 rfl ?_
            refine PP.iload_n dX2_comesClean_89 rfl ?_
            refine PP.callVi (ok_shadowOf hc ht hp) dX2_comesClean_90 vl_X2_102 hr0 rfl rfl rfl rfl (Nat.le_of_ble_eq_true rfl) (Nat.le_of_ble_eq_true rfl) ?_
            refine PP.isub dX2_comesClean_93 ?_
            refine PP.iload dX2_comesClean_94 rfl ?_
            refine PP.icmp_lt (tgt := 103) (by first | omega | exact hg _ _ | exact b2i_R _ | (unfold R32; omega)) (by first | omega | exact hg _ _ | exact b2i_R _ | (unfold R32; omega)) dX2_comesClean_96 (by decide) (fun h96 => ?_) (fun h96 => ?_)
            · refine PP.iconst dX2_comesClean_103 ?_
              refine PP.zret dX2_comesClean_104 rfl (by first | decide | omega) ?_
              have q1 : ¬ (T (4 + t) = 1 ∧ lkS T P F t = false) := by
                rintro ⟨b1, b2⟩
                have := hlk.mpr b2
                omega
              have q2 : ¬ (T (4 + t) = 2 ∧ tcS T n P t = true) := by
                rintro ⟨b1, b2⟩
                first
                  | (have b3 := htc.mp (by omega); rw [b2] at b3; cases b3)
                  | omega
              have q3 : kstS T t = false := hkt.mp (by omega)
              have q4 : neS T P F t = T (25 + t) + (if T (4 + t) = 0 ∧ lkS T P F t = false then 1 else 0) := rfl
              first
                | rw [if_pos ⟨by omega, hlk.mp (by omega)⟩] at q4
                | rw [if_neg (fun h => by have := hlk.mpr h.2; omega)] at q4
              first
                | exact RV1 (bt c0S_t ⟨by omega, q1, q2, q3⟩)
                | exact RV0 (bf c0S_t (fun h => by have := h.1; omega))
            · refine PP.iconst dX2_comesClean_99 ?_
              refine PP.goto (tgt := 104) dX2_comesClean_100 (by decide) ?_
              refine PP.zret dX2_comesClean_104 rfl (by first | decide | omega) ?_
              have q1 : ¬ (T (4 + t) = 1 ∧ lkS T P F t = false) := by
                rintro ⟨b1, b2⟩
                have := hlk.mpr b2
                omega
              have q2 : ¬ (T (4 + t) = 2 ∧ tcS T n P t = true) := by
                rintro ⟨b1, b2⟩
                first
                  | (have b3 := htc.mp (by omega); rw [b2] at b3; cases b3)
                  | omega
              have q3 : kstS T t = false := hkt.mp (by omega)
              have q4 : neS T P F t = T (25 + t) + (if T (4 + t) = 0 ∧ lkS T P F t = false then 1 else 0) := rfl
              first
                | rw [if_pos ⟨by omega, hlk.mp (by omega)⟩] at q4
                | rw [if_neg (fun h => by have := hlk.mpr h.2; omega)] at q4
              first
                | exact RV1 (bt c0S_t ⟨by omega, q1, q2, q3⟩)
                | exact RV0 (bf c0S_t (fun h => by have := h.1; omega))
          · refine PP.aload_n dX2_comesClean_62 rfl ?_
            refine PP.getfR dX2_comesClean_63 fl_X2_21 hr0 rfl ?_
            refine PP.getfR dX2_comesClean_66 fl_X2_99 hq0 rfl ?_
            refine PP.iload_n dX2_comesClean_69 rfl ?_
            refine PP.ialoadN (n := t) hq4 (by decide) (by first | rfl | omega) (by first | omega | exact hg _ _ | exact b2i_R _ | (unfold R32; omega)) dX2_comesClean_70 ?_
            refine PP.iconst dX2_comesClean_71 ?_
            refine PP.iadd dX2_comesClean_72 ?_
            refine PP.goto (tgt := 85) dX2_comesClean_73 (by decide) ?_
            refine PP.istore (L' := [_, _, _, _, _, _]) dX2_comesClean_85 (Nat.le_of_ble_eq_true rfl) rfl rfl ?_
            refine PP.iload_n dX2_comesClean_87 rfl ?_
            refine PP.aload_n dX2_comesClean_88 rfl ?_
            refine PP.iload_n dX2_comesClean_89 rfl ?_
            refine PP.callVi (ok_shadowOf hc ht hp) dX2_comesClean_90 vl_X2_102 hr0 rfl rfl rfl rfl (Nat.le_of_ble_eq_true rfl) (Nat.le_of_ble_eq_true rfl) ?_
            refine PP.isub dX2_comesClean_93 ?_
            refine PP.iload dX2_comesClean_94 rfl ?_
            refine PP.icmp_lt (tgt := 103) (by first | omega | exact hg _ _ | exact b2i_R _ | (unfold R32; omega)) (by first | omega | exact hg _ _ | exact b2i_R _ | (unfold R32; omega)) dX2_comesClean_96 (by decide) (fun h96 => ?_) (fun h96 => ?_)
            · refine PP.iconst dX2_comesClean_103 ?_
              refine PP.zret dX2_comesClean_104 rfl (by first | decide | omega) ?_
              have q1 : ¬ (T (4 + t) = 1 ∧ lkS T P F t = false) := by
                rintro ⟨b1, b2⟩
                have := hlk.mpr b2
                omega
              have q2 : ¬ (T (4 + t) = 2 ∧ tcS T n P t = true) := by
                rintro ⟨b1, b2⟩
                first
                  | (have b3 := htc.mp (by omega); rw [b2] at b3; cases b3)
                  | omega
              have q3 : kstS T t = false := hkt.mp (by omega)
              have q4 : neS T P F t = T (25 + t) + (if T (4 + t) = 0 ∧ lkS T P F t = false then 1 else 0) := rfl
              first
                | rw [if_pos ⟨by omega, hlk.mp (by omega)⟩] at q4
                | rw [if_neg (fun h => by have := hlk.mpr h.2; omega)] at q4
              first
                | exact RV1 (bt c0S_t ⟨by omega, q1, q2, q3⟩)
                | exact RV0 (bf c0S_t (fun h => by have := h.1; omega))
            · refine PP.iconst dX2_comesClean_99 ?_
              refine PP.goto (tgt := 104) dX2_comesClean_100 (by decide) ?_
              refine PP.zret dX2_comesClean_104 rfl (by first | decide | omega) ?_
              have q1 : ¬ (T (4 + t) = 1 ∧ lkS T P F t = false) := by
                rintro ⟨b1, b2⟩
                have := hlk.mpr b2
                omega
              have q2 : ¬ (T (4 + t) = 2 ∧ tcS T n P t = true) := by
                rintro ⟨b1, b2⟩
                first
                  | (have b3 := htc.mp (by omega); rw [b2] at b3; cases b3)
                  | omega
              have q3 : kstS T t = false := hkt.mp (by omega)
              have q4 : neS T P F t = T (25 + t) + (if T (4 + t) = 0 ∧ lkS T P F t = false then 1 else 0) := rfl
              first
                | rw [if_pos ⟨by omega, hlk.mp (by omega)⟩] at q4
                | rw [if_neg (fun h => by have := hlk.mpr h.2; omega)] at q4
              first
                | exact RV1 (bt c0S_t ⟨by omega, q1, q2, q3⟩)
                | exact RV0 (bf c0S_t (fun h => by have := h.1; omega))
      · refine PP.aload_n dX2_comesClean_43 rfl ?_
        refine PP.iload_n dX2_comesClean_44 rfl ?_
        refine PP.callVi (ok_touchesSpoon hc ht hp) dX2_comesClean_45 vl_X2_96 hr0 rfl rfl rfl rfl (Nat.le_of_ble_eq_true rfl) (Nat.le_of_ble_eq_true rfl) ?_
        refine PP.if_eq (tgt := 53) (by first | omega | exact hg _ _ | exact b2i_R _ | (unfold R32; omega)) dX2_comesClean_48 (by decide) (fun h48 => ?_) (fun h48 => ?_)
        · refine PP.iload_n dX2_comesClean_53 rfl ?_
          refine PP.if_ne (tgt := 76) (by first | omega | exact hg _ _ | exact b2i_R _ | (unfold R32; omega)) dX2_comesClean_54 (by decide) (fun h54 => ?_) (fun h54 => ?_)
          · refine PP.aload_n dX2_comesClean_76 rfl ?_
            refine PP.getfR dX2_comesClean_77 fl_X2_21 hr0 rfl ?_
            refine PP.getfR dX2_comesClean_80 fl_X2_99 hq0 rfl ?_
            refine PP.iload_n dX2_comesClean_83 rfl ?_
            refine PP.ialoadN (n := t) hq4 (by decide) (by first | rfl | omega) (by first | omega | exact hg _ _ | exact b2i_R _ | (unfold R32; omega)) dX2_comesClean_84 ?_
            refine PP.istore (L' := [_, _, _, _, _, _]) dX2_comesClean_85 (Nat.le_of_ble_eq_true rfl) rfl rfl ?_
            refine PP.iload_n dX2_comesClean_87 rfl ?_
            refine PP.aload_n dX2_comesClean_88 rfl ?_
            refine PP.iload_n dX2_comesClean_89 rfl ?_
            refine PP.callVi (ok_shadowOf hc ht hp) dX2_comesClean_90 vl_X2_102 hr0 rfl rfl rfl rfl (Nat.le_of_ble_eq_true rfl) (Nat.le_of_ble_eq_true rfl) ?_
            refine PP.isub dX2_comesClean_93 ?_
            refine PP.iload dX2_comesClean_94 rfl ?_
            refine PP.icmp_lt (tgt := 103) (by first | omega | exact hg _ _ | exact b2i_R _ | (unfold R32; omega)) (by first | omega | exact hg _ _ | exact b2i_R _ | (unfold R32; omega)) dX2_comesClean_96 (by decide) (fun h96 => ?_) (fun h96 => ?_)
            · refine PP.iconst dX2_comesClean_103 ?_
              refine PP.zret dX2_comesClean_104 rfl (by first | decide | omega) ?_
              have q1 : ¬ (T (4 + t) = 1 ∧ lkS T P F t = false) := by
                rintro ⟨b1, b2⟩
                have := hlk.mpr b2
                omega
              have q2 : ¬ (T (4 + t) = 2 ∧ tcS T n P t = true) := by
                rintro ⟨b1, b2⟩
                first
                  | (have b3 := htc.mp (by omega); rw [b2] at b3; cases b3)
                  | omega
              have q3 : kstS T t = false := hkt.mp (by omega)
              have q4 : neS T P F t = T (25 + t) + (if T (4 + t) = 0 ∧ lkS T P F t = false then 1 else 0) := rfl
              first
                | rw [if_pos ⟨by omega, hlk.mp (by omega)⟩] at q4
                | rw [if_neg (fun h => by have := hlk.mpr h.2; omega)] at q4
              first
                | exact RV1 (bt c0S_t ⟨by omega, q1, q2, q3⟩)
                | exact RV0 (bf c0S_t (fun h => by have := h.1; omega))
            · refine PP.iconst dX2_comesClean_99 ?_
              refine PP.goto (tgt := 104) dX2_comesClean_100 (by decide) ?_
              refine PP.zret dX2_comesClean_104 rfl (by first | decide | omega) ?_
              have q1 : ¬ (T (4 + t) = 1 ∧ lkS T P F t = false) := by
                rintro ⟨b1, b2⟩
                have := hlk.mpr b2
                omega
              have q2 : ¬ (T (4 + t) = 2 ∧ tcS T n P t = true) := by
                rintro ⟨b1, b2⟩
                first
                  | (have b3 := htc.mp (by omega); rw [b2] at b3; cases b3)
                  | omega
              have q3 : kstS T t = false := hkt.mp (by omega)
              have q4 : neS T P F t = T (25 + t) + (if T (4 + t) = 0 ∧ lkS T P F t = false then 1 else 0) := rfl
              first
                | rw [if_pos ⟨by omega, hlk.mp (by omega)⟩] at q4
                | rw [if_neg (fun h => by have := hlk.mpr h.2; omega)] at q4
              first
                | exact RV1 (bt c0S_t ⟨by omega, q1, q2, q3⟩)
                | exact RV0 (bf c0S_t (fun h => by have := h.1; omega))
          · refine PP.iload dX2_comesClean_57 rfl ?_
            refine PP.if_ne (tgt := 76) (by first | omega | exact hg _ _ | exact b2i_R _ | (unfold R32; omega)) dX2_comesClean_59 (by decide) (fun h59 => ?_) (fun h59 => ?_)
            · refine PP.aload_n dX2_comesClean_76 rfl ?_
              refine PP.getfR dX2_comesClean_77 fl_X2_21 hr0 rfl ?_
              refine PP.getfR dX2_comesClean_80 fl_X2_99 hq0 rfl ?_
              refine PP.iload_n dX2_comesClean_83 rfl ?_
              refine PP.ialoadN (n := t) hq4 (by decide) (by first | rfl | omega) (by first | omega | exact hg _ _ | exact b2i_R _ | (unfold R32; omega)) dX2_comesClean_84 ?_
              refine PP.istore (L' := [_, _, _, _, _, _]) dX2_comesClean_85 (Nat.le_of_ble_eq_true rfl) rfl rfl ?_
              refine PP.iload_n dX2_comesClean_87 rfl ?_
              refine PP.aload_n dX2_comesClean_88 rfl ?_
              refine PP.iload_n dX2_comesClean_89 rfl ?_
              refine PP.callVi (ok_shadowOf hc ht hp) dX2_comesClean_90 vl_X2_102 hr0 rfl rfl rfl rfl (Nat.le_of_ble_eq_true rfl) (Nat.le_of_ble_eq_true rfl) ?_
              refine PP.isub dX2_comesClean_93 ?_
              refine PP.iload dX2_comesClean_94 rfl ?_
              refine PP.icmp_lt (tgt := 103) (by first | omega | exact hg _ _ | exact b2i_R _ | (unfold R32; omega)) (by first | omega | exact hg _ _ | exact b2i_R _ | (unfold R32; omega)) dX2_comesClean_96 (by decide) (fun h96 => ?_) (fun h96 => ?_)
              · refine PP.iconst dX2_comesClean_103 ?_
                refine PP.zret dX2_comesClean_104 rfl (by first | decide | omega) ?_
                have q1 : ¬ (T (4 + t) = 1 ∧ lkS T P F t = false) := by
                  rintro ⟨b1, b2⟩
                  have := hlk.mpr b2
                  omega
                have q2 : ¬ (T (4 + t) = 2 ∧ tcS T n P t = true) := by
                  rintro ⟨b1, b2⟩
                  first
                    | (have b3 := htc.mp (by omega); rw [b2] at b3; cases b3)
                    | omega
                have q3 : kstS T t = false := hkt.mp (by omega)
                have q4 : neS T P F t = T (25 + t) + (if T (4 + t) = 0 ∧ lkS T P F t = false then 1 else 0) := rfl
                first
                  | rw [if_pos ⟨by omega, hlk.mp (by omega)⟩] at q4
                  | rw [if_neg (fun h => by have := hlk.mpr h.2; omega)] at q4
                first
                  | exact RV1 (bt c0S_t ⟨by omega, q1, q2, q3⟩)
                  | exact RV0 (bf c0S_t (fun h => by have := h.1; omega))
              · refine PP.iconst dX2_comesClean_99 ?_
                refine PP.goto (tgt := 104) dX2_comesClean_100 (by decide) ?_
                refine PP.zret dX2_comesClean_104 rfl (by first | decide | omega) ?_
                have q1 : ¬ (T (4 + t) = 1 ∧ lkS T P F t = false) := by
                  rintro ⟨b1, b2⟩
                  have := hlk.mpr b2
                  omega
                have q2 : ¬ (T (4 + t) = 2 ∧ tcS T n P t = true) := by
                  rintro ⟨b1, b2⟩
                  first
                    | (have b3 := htc.mp (by omega); rw [b2] at b3; cases b3)
                    | omega
                have q3 : kstS T t = false := hkt.mp (by omega)
                have q4 : neS T P F t = T (25 + t) + (if T (4 + t) = 0 ∧ lkS T P F t = false then 1 else 0) := rfl
                first
                  | rw [if_pos ⟨by omega, hlk.mp (by omega)⟩] at q4
                  | rw [if_neg (fun h => by have := hlk.mpr h.2; omega)] at q4
                first
                  | exact RV1 (bt c0S_t ⟨by omega, q1, q2, q3⟩)
                  | exact RV0 (bf c0S_t (fun h => by have := h.1; omega))
            · refine PP.aload_n dX2_comesClean_62 rfl ?_
              refine PP.getfR dX2_comesClean_63 fl_X2_21 hr0 rfl ?_
              refine PP.getfR dX2_comesClean_66 fl_X2_99 hq0 rfl ?_
              refine PP.iload_n dX2_comesClean_69 rfl ?_
              refine PP.ialoadN (n := t) hq4 (by decide) (by first | rfl | omega) (by first | omega | exact hg _ _ | exact b2i_R _ | (unfold R32; omega)) dX2_comesClean_70 ?_
              refine PP.iconst dX2_comesClean_71 ?_
              refine PP.iadd dX2_comesClean_72 ?_
              refine PP.goto (tgt := 85) dX2_comesClean_73 (by decide) ?_
              refine PP.istore (L' := [_, _, _, _, _, _]) dX2_comesClean_85 (Nat.le_of_ble_eq_true rfl) rfl rfl ?_
              refine PP.iload_n dX2_comesClean_87 rfl ?_
              refine PP.aload_n dX2_comesClean_88 rfl ?_
              refine PP.iload_n dX2_comesClean_89 rfl ?_
              refine PP.callVi (ok_shadowOf hc ht hp) dX2_comesClean_90 vl_X2_102 hr0 rfl rfl rfl rfl (Nat.le_of_ble_eq_true rfl) (Nat.le_of_ble_eq_true rfl) ?_
              refine PP.isub dX2_comesClean_93 ?_
              refine PP.iload dX2_comesClean_94 rfl ?_
              refine PP.icmp_lt (tgt := 103) (by first | omega | exact hg _ _ | exact b2i_R _ | (unfold R32; omega)) (by first | omega | exact hg _ _ | exact b2i_R _ | (unfold R32; omega)) dX2_comesClean_96 (by decide) (fun h96 => ?_) (fun h96 => ?_)
              · refine PP.iconst dX2_comesClean_103 ?_
                refine PP.zret dX2_comesClean_104 rfl (by first | decide | omega) ?_
                have q1 : ¬ (T (4 + t) = 1 ∧ lkS T P F t = false) := by
                  rintro ⟨b1, b2⟩
                  have := hlk.mpr b2
                  omega
                have q2 : ¬ (T (4 + t) = 2 ∧ tcS T n P t = true) := by
                  rintro ⟨b1, b2⟩
                  first
                    | (have b3 := htc.mp (by omega); rw [b2] at b3; cases b3)
                    | omega
                have q3 : kstS T t = false := hkt.mp (by omega)
                have q4 : neS T P F t = T (25 + t) + (if T (4 + t) = 0 ∧ lkS T P F t = false then 1 else 0) := rfl
                first
                  | rw [if_pos ⟨by omega, hlk.mp (by omega)⟩] at q4
                  | rw [if_neg (fun h => by have := hlk.mpr h.2; omega)] at q4
                first
                  | exact RV1 (bt c0S_t ⟨by omega, q1, q2, q3⟩)
                  | exact RV0 (bf c0S_t (fun h => by have := h.1; omega))
              · refine PP.iconst dX2_comesClean_99 ?_
                refine PP.goto (tgt := 104) dX2_comesClean_100 (by decide) ?_
                refine PP.zret dX2_comesClean_104 rfl (by first | decide | omega) ?_
                have q1 : ¬ (T (4 + t) = 1 ∧ lkS T P F t = false) := by
                  rintro ⟨b1, b2⟩
                  have := hlk.mpr b2
                  omega
                have q2 : ¬ (T (4 + t) = 2 ∧ tcS T n P t = true) := by
                  rintro ⟨b1, b2⟩
                  first
                    | (have b3 := htc.mp (by omega); rw [b2] at b3; cases b3)
                    | omega
                have q3 : kstS T t = false := hkt.mp (by omega)
                have q4 : neS T P F t = T (25 + t) + (if T (4 + t) = 0 ∧ lkS T P F t = false then 1 else 0) := rfl
                first
                  | rw [if_pos ⟨by omega, hlk.mp (by omega)⟩] at q4
                  | rw [if_neg (fun h => by have := hlk.mpr h.2; omega)] at q4
                first
                  | exact RV1 (bt c0S_t ⟨by omega, q1, q2, q3⟩)
                  | exact RV0 (bf c0S_t (fun h => by have := h.1; omega))
        · refine PP.iconst dX2_comesClean_51 ?_
          refine PP.zret dX2_comesClean_52 rfl (by first | decide | omega) ?_
          refine RV0 (bf c0S_t ?_)
          rintro ⟨a1, a2, a3, a4⟩
          first
            | exact h25 (hkt.mpr a4)
            | exact a2 ⟨by omega, hlk.mp (by omega)⟩
            | exact a3 ⟨by omega, b2i_n.mp (by omega)⟩
    · refine PP.iload dX2_comesClean_33 rfl ?_
      refine PP.if_eq (tgt := 51) (by first | omega | exact hg _ _ | exact b2i_R _ | (unfold R32; omega)) dX2_comesClean_35 (by decide) (fun h35 => ?_) (fun h35 => ?_)
      · refine PP.iconst dX2_comesClean_51 ?_
        refine PP.zret dX2_comesClean_52 rfl (by first | decide | omega) ?_
        refine RV0 (bf c0S_t ?_)
        rintro ⟨a1, a2, a3, a4⟩
        first
          | exact h25 (hkt.mpr a4)
          | exact a2 ⟨by omega, hlk.mp (by omega)⟩
          | exact a3 ⟨by omega, b2i_n.mp (by omega)⟩
      · refine PP.iload_n dX2_comesClean_38 rfl ?_
        refine PP.iconst dX2_comesClean_39 ?_
        refine PP.icmp_ne (tgt := 53) (by first | omega | exact hg _ _ | exact b2i_R _ | (unfold R32; omega)) (by first | omega | exact hg _ _ | exact b2i_R _ | (unfold R32; omega)) dX2_comesClean_40 (by decide) (fun h40 => ?_) (fun h40 => ?_)
        · refine PP.iload_n dX2_comesClean_53 rfl ?_
          refine PP.if_ne (tgt := 76) (by first | omega | exact hg _ _ | exact b2i_R _ | (unfold R32; omega)) dX2_comesClean_54 (by decide) (fun h54 => ?_) (fun h54 => ?_)
          · refine PP.aload_n dX2_comesClean_76 rfl ?_
            refine PP.getfR dX2_comesClean_77 fl_X2_21 hr0 rfl ?_
            refine PP.getfR dX2_comesClean_80 fl_X2_99 hq0 rfl ?_
            refine PP.iload_n dX2_comesClean_83 rfl ?_
            refine PP.ialoadN (n := t) hq4 (by decide) (by first | rfl | omega) (by first | omega | exact hg _ _ | exact b2i_R _ | (unfold R32; omega)) dX2_comesClean_84 ?_
            refine PP.istore (L' := [_, _, _, _, _, _]) dX2_comesClean_85 (Nat.le_of_ble_eq_true rfl) rfl rfl ?_
            refine PP.iload_n dX2_comesClean_87 rfl ?_
            refine PP.aload_n dX2_comesClean_88 rfl ?_
            refine PP.iload_n dX2_comesClean_89 rfl ?_
            refine PP.callVi (ok_shadowOf hc ht hp) dX2_comesClean_90 vl_X2_102 hr0 rfl rfl rfl rfl (Nat.le_of_ble_eq_true rfl) (Nat.le_of_ble_eq_true rfl) ?_
            refine PP.isub dX2_comesClean_93 ?_
            refine PP.iload dX2_comesClean_94 rfl ?_
            refine PP.icmp_lt (tgt := 103) (by first | omega | exact hg _ _ | exact b2i_R _ | (unfold R32; omega)) (by first | omega | exact hg _ _ | exact b2i_R _ | (unfold R32; omega)) dX2_comesClean_96 (by decide) (fun h96 => ?_) (fun h96 => ?_)
            · refine PP.iconst dX2_comesClean_103 ?_
              refine PP.zret dX2_comesClean_104 rfl (by first | decide | omega) ?_
              have q1 : ¬ (T (4 + t) = 1 ∧ lkS T P F t = false) := by
                rintro ⟨b1, b2⟩
                have := hlk.mpr b2
                omega
              have q2 : ¬ (T (4 + t) = 2 ∧ tcS T n P t = true) := by
                rintro ⟨b1, b2⟩
                first
                  | (have b3 := htc.mp (by omega); rw [b2] at b3; cases b3)
                  | omega
              have q3 : kstS T t = false := hkt.mp (by omega)
              have q4 : neS T P F t = T (25 + t) + (if T (4 + t) = 0 ∧ lkS T P F t = false then 1 else 0) := rfl
              first
                | rw [if_pos ⟨by omega, hlk.mp (by omega)⟩] at q4
                | rw [if_neg (fun h => by have := hlk.mpr h.2; omega)] at q4
              first
                | exact RV1 (bt c0S_t ⟨by omega, q1, q2, q3⟩)
                | exact RV0 (bf c0S_t (fun h => by have := h.1; omega))
            · refine PP.iconst dX2_comesClean_99 ?_
              refine PP.goto (tgt := 104) dX2_comesClean_100 (by decide) ?_
              refine PP.zret dX2_comesClean_104 rfl (by first | decide | omega) ?_
              have q1 : ¬ (T (4 + t) = 1 ∧ lkS T P F t = false) := by
                rintro ⟨b1, b2⟩
                have := hlk.mpr b2
                omega
              have q2 : ¬ (T (4 + t) = 2 ∧ tcS T n P t = true) := by
                rintro ⟨b1, b2⟩
                first
                  | (have b3 := htc.mp (by omega); rw [b2] at b3; cases b3)
                  | omega
              have q3 : kstS T t = false := hkt.mp (by omega)
              have q4 : neS T P F t = T (25 + t) + (if T (4 + t) = 0 ∧ lkS T P F t = false then 1 else 0) := rfl
              first
                | rw [if_pos ⟨by omega, hlk.mp (by omega)⟩] at q4
                | rw [if_neg (fun h => by have := hlk.mpr h.2; omega)] at q4
              first
                | exact RV1 (bt c0S_t ⟨by omega, q1, q2, q3⟩)
                | exact RV0 (bf c0S_t (fun h => by have := h.1; omega))
          · refine PP.iload dX2_comesClean_57 rfl ?_
            refine PP.if_ne (tgt := 76) (by first | omega | exact hg _ _ | exact b2i_R _ | (unfold R32; omega)) dX2_comesClean_59 (by decide) (fun h59 => ?_) (fun h59 => ?_)
            · refine PP.aload_n dX2_comesClean_76 rfl ?_
              refine PP.getfR dX2_comesClean_77 fl_X2_21 hr0 rfl ?_
              refine PP.getfR dX2_comesClean_80 fl_X2_99 hq0 rfl ?_
              refine PP.iload_n dX2_comesClean_83 rfl ?_
              refine PP.ialoadN (n := t) hq4 (by decide) (by first | rfl | omega) (by first | omega | exact hg _ _ | exact b2i_R _ | (unfold R32; omega)) dX2_comesClean_84 ?_
              refine PP.istore (L' := [_, _, _, _, _, _]) dX2_comesClean_85 (Nat.le_of_ble_eq_true rfl) rfl rfl ?_
              refine PP.iload_n dX2_comesClean_87 rfl ?_
              refine PP.aload_n dX2_comesClean_88 rfl ?_
              refine PP.iload_n dX2_comesClean_89 rfl ?_
              refine PP.callVi (ok_shadowOf hc ht hp) dX2_comesClean_90 vl_X2_102 hr0 rfl rfl rfl rfl (Nat.le_of_ble_eq_true rfl) (Nat.le_of_ble_eq_true rfl) ?_
              refine PP.isub dX2_comesClean_93 ?_
              refine PP.iload dX2_comesClean_94 rfl ?_
              refine PP.icmp_lt (tgt := 103) (by first | omega | exact hg _ _ | exact b2i_R _ | (unfold R32; omega)) (by first | omega | exact hg _ _ | exact b2i_R _ | (unfold R32; omega)) dX2_comesClean_96 (by decide) (fun h96 => ?_) (fun h96 => ?_)
              · refine PP.iconst dX2_comesClean_103 ?_
                refine PP.zret dX2_comesClean_104 rfl (by first | decide | omega) ?_
                have q1 : ¬ (T (4 + t) = 1 ∧ lkS T P F t = false) := by
                  rintro ⟨b1, b2⟩
                  have := hlk.mpr b2
                  omega
                have q2 : ¬ (T (4 + t) = 2 ∧ tcS T n P t = true) := by
                  rintro ⟨b1, b2⟩
                  first
                    | (have b3 := htc.mp (by omega); rw [b2] at b3; cases b3)
                    | omega
                have q3 : kstS T t = false := hkt.mp (by omega)
                have q4 : neS T P F t = T (25 + t) + (if T (4 + t) = 0 ∧ lkS T P F t = false then 1 else 0) := rfl
                first
                  | rw [if_pos ⟨by omega, hlk.mp (by omega)⟩] at q4
                  | rw [if_neg (fun h => by have := hlk.mpr h.2; omega)] at q4
                first
                  | exact RV1 (bt c0S_t ⟨by omega, q1, q2, q3⟩)
                  | exact RV0 (bf c0S_t (fun h => by have := h.1; omega))
              · refine PP.iconst dX2_comesClean_99 ?_
                refine PP.goto (tgt := 104) dX2_comesClean_100 (by decide) ?_
                refine PP.zret dX2_comesClean_104 rfl (by first | decide | omega) ?_
                have q1 : ¬ (T (4 + t) = 1 ∧ lkS T P F t = false) := by
                  rintro ⟨b1, b2⟩
                  have := hlk.mpr b2
                  omega
                have q2 : ¬ (T (4 + t) = 2 ∧ tcS T n P t = true) := by
                  rintro ⟨b1, b2⟩
                  first
                    | (have b3 := htc.mp (by omega); rw [b2] at b3; cases b3)
                    | omega
                have q3 : kstS T t = false := hkt.mp (by omega)
                have q4 : neS T P F t = T (25 + t) + (if T (4 + t) = 0 ∧ lkS T P F t = false then 1 else 0) := rfl
                first
                  | rw [if_pos ⟨by omega, hlk.mp (by omega)⟩] at q4
                  | rw [if_neg (fun h => by have := hlk.mpr h.2; omega)] at q4
                first
                  | exact RV1 (bt c0S_t ⟨by omega, q1, q2, q3⟩)
                  | exact RV0 (bf c0S_t (fun h => by have := h.1; omega))
            · refine PP.aload_n dX2_comesClean_62 rfl ?_
              refine PP.getfR dX2_comesClean_63 fl_X2_21 hr0 rfl ?_
              refine PP.getfR dX2_comesClean_66 fl_X2_99 hq0 rfl ?_
              refine PP.iload_n dX2_comesClean_69 rfl ?_
              refine PP.ialoadN (n := t) hq4 (by decide) (by first | rfl | omega) (by first | omega | exact hg _ _ | exact b2i_R _ | (unfold R32; omega)) dX2_comesClean_70 ?_
              refine PP.iconst dX2_comesClean_71 ?_
              refine PP.iadd dX2_comesClean_72 ?_
              refine PP.goto (tgt := 85) dX2_comesClean_73 (by decide) ?_
              refine PP.istore (L' := [_, _, _, _, _, _]) dX2_comesClean_85 (Nat.le_of_ble_eq_true rfl) rfl rfl ?_
              refine PP.iload_n dX2_comesClean_87 rfl ?_
              refine PP.aload_n dX2_comesClean_88 rfl ?_
              refine PP.iload_n dX2_comesClean_89 rfl ?_
              refine PP.callVi (ok_shadowOf hc ht hp) dX2_comesClean_90 vl_X2_102 hr0 rfl rfl rfl rfl (Nat.le_of_ble_eq_true rfl) (Nat.le_of_ble_eq_true rfl) ?_
              refine PP.isub dX2_comesClean_93 ?_
              refine PP.iload dX2_comesClean_94 rfl ?_
              refine PP.icmp_lt (tgt := 103) (by first | omega | exact hg _ _ | exact b2i_R _ | (unfold R32; omega)) (by first | omega | exact hg _ _ | exact b2i_R _ | (unfold R32; omega)) dX2_comesClean_96 (by decide) (fun h96 => ?_) (fun h96 => ?_)
              · refine PP.iconst dX2_comesClean_103 ?_
                refine PP.zret dX2_comesClean_104 rfl (by first | decide | omega) ?_
                have q1 : ¬ (T (4 + t) = 1 ∧ lkS T P F t = false) := by
                  rintro ⟨b1, b2⟩
                  have := hlk.mpr b2
                  omega
                have q2 : ¬ (T (4 + t) = 2 ∧ tcS T n P t = true) := by
                  rintro ⟨b1, b2⟩
                  first
                    | (have b3 := htc.mp (by omega); rw [b2] at b3; cases b3)
                    | omega
                have q3 : kstS T t = false := hkt.mp (by omega)
                have q4 : neS T P F t = T (25 + t) + (if T (4 + t) = 0 ∧ lkS T P F t = false then 1 else 0) := rfl
                first
                  | rw [if_pos ⟨by omega, hlk.mp (by omega)⟩] at q4
                  | rw [if_neg (fun h => by have := hlk.mpr h.2; omega)] at q4
                first
                  | exact RV1 (bt c0S_t ⟨by omega, q1, q2, q3⟩)
                  | exact RV0 (bf c0S_t (fun h => by have := h.1; omega))
              · refine PP.iconst dX2_comesClean_99 ?_
                refine PP.goto (tgt := 104) dX2_comesClean_100 (by decide) ?_
                refine PP.zret dX2_comesClean_104 rfl (by first | decide | omega) ?_
                have q1 : ¬ (T (4 + t) = 1 ∧ lkS T P F t = false) := by
                  rintro ⟨b1, b2⟩
                  have := hlk.mpr b2
                  omega
                have q2 : ¬ (T (4 + t) = 2 ∧ tcS T n P t = true) := by
                  rintro ⟨b1, b2⟩
                  first
                    | (have b3 := htc.mp (by omega); rw [b2] at b3; cases b3)
                    | omega
                have q3 : kstS T t = false := hkt.mp (by omega)
                have q4 : neS T P F t = T (25 + t) + (if T (4 + t) = 0 ∧ lkS T P F t = false then 1 else 0) := rfl
                first
                  | rw [if_pos ⟨by omega, hlk.mp (by omega)⟩] at q4
                  | rw [if_neg (fun h => by have := hlk.mpr h.2; omega)] at q4
                first
                  | exact RV1 (bt c0S_t ⟨by omega, q1, q2, q3⟩)
                  | exact RV0 (bf c0S_t (fun h => by have := h.1; omega))
        · refine PP.aload_n dX2_comesClean_43 rfl ?_
          refine PP.iload_n dX2_comesClean_44 rfl ?_
          refine PP.callVi (ok_touchesSpoon hc ht hp) dX2_comesClean_45 vl_X2_96 hr0 rfl rfl rfl rfl (Nat.le_of_ble_eq_true rfl) (Nat.le_of_ble_eq_true rfl) ?_
          refine PP.if_eq (tgt := 53) (by first | omega | exact hg _ _ | exact b2i_R _ | (unfold R32; omega)) dX2_comesClean_48 (by decide) (fun h48 => ?_) (fun h48 => ?_)
          · refine PP.iload_n dX2_comesClean_53 rfl ?_
            refine PP.if_ne (tgt := 76) (by first | omega | exact hg _ _ | exact b2i_R _ | (unfold R32; omega)) dX2_comesClean_54 (by decide) (fun h54 => ?_) (fun h54 => ?_)
            · refine PP.aload_n dX2_comesClean_76 rfl ?_
              refine PP.getfR dX2_comesClean_77 fl_X2_21 hr0 rfl ?_
              refine PP.getfR dX2_comesClean_80 fl_X2_99 hq0 rfl ?_
              refine PP.iload_n dX2_comesClean_83 rfl ?_
              refine PP.ialoadN (n := t) hq4 (by decide) (by first | rfl | omega) (by first | omega | exact hg _ _ | exact b2i_R _ | (unfold R32; omega)) dX2_comesClean_84 ?_
              refine PP.istore (L' := [_, _, _, _, _, _]) dX2_comesClean_85 (Nat.le_of_ble_eq_true rfl) rfl rfl ?_
              refine PP.iload_n dX2_comesClean_87 rfl ?_
              refine PP.aload_n dX2_comesClean_88 rfl ?_
              refine PP.iload_n dX2_comesClean_89 rfl ?_
              refine PP.callVi (ok_shadowOf hc ht hp) dX2_comesClean_90 vl_X2_102 hr0 rfl rfl rfl rfl (Nat.le_of_ble_eq_true rfl) (Nat.le_of_ble_eq_true rfl) ?_
              refine PP.isub dX2_comesClean_93 ?_
              refine PP.iload dX2_comesClean_94 rfl ?_
              refine PP.icmp_lt (tgt := 103) (by first | omega | exact hg _ _ | exact b2i_R _ | (unfold R32; omega)) (by first | omega | exact hg _ _ | exact b2i_R _ | (unfold R32; omega)) dX2_comesClean_96 (by decide) (fun h96 => ?_) (fun h96 => ?_)
              · refine PP.iconst dX2_comesClean_103 ?_
                refine PP.zret dX2_comesClean_104 rfl (by first | decide | omega) ?_
                have q1 : ¬ (T (4 + t) = 1 ∧ lkS T P F t = false) := by
                  rintro ⟨b1, b2⟩
                  have := hlk.mpr b2
                  omega
                have q2 : ¬ (T (4 + t) = 2 ∧ tcS T n P t = true) := by
                  rintro ⟨b1, b2⟩
                  first
                    | (have b3 := htc.mp (by omega); rw [b2] at b3; cases b3)
                    | omega
                have q3 : kstS T t = false := hkt.mp (by omega)
                have q4 : neS T P F t = T (25 + t) + (if T (4 + t) = 0 ∧ lkS T P F t = false then 1 else 0) := rfl
                first
                  | rw [if_pos ⟨by omega, hlk.mp (by omega)⟩] at q4
                  | rw [if_neg (fun h => by have := hlk.mpr h.2; omega)] at q4
                first
                  | exact RV1 (bt c0S_t ⟨by omega, q1, q2, q3⟩)
                  | exact RV0 (bf c0S_t (fun h => by have := h.1; omega))
              · refine PP.iconst dX2_comesClean_99 ?_
                refine PP.goto (tgt := 104) dX2_comesClean_100 (by decide) ?_
                refine PP.zret dX2_comesClean_104 rfl (by first | decide | omega) ?_
                have q1 : ¬ (T (4 + t) = 1 ∧ lkS T P F t = false) := by
                  rintro ⟨b1, b2⟩
                  have := hlk.mpr b2
                  omega
                have q2 : ¬ (T (4 + t) = 2 ∧ tcS T n P t = true) := by
                  rintro ⟨b1, b2⟩
                  first
                    | (have b3 := htc.mp (by omega); rw [b2] at b3; cases b3)
                    | omega
                have q3 : kstS T t = false := hkt.mp (by omega)
                have q4 : neS T P F t = T (25 + t) + (if T (4 + t) = 0 ∧ lkS T P F t = false then 1 else 0) := rfl
                first
                  | rw [if_pos ⟨by omega, hlk.mp (by omega)⟩] at q4
                  | rw [if_neg (fun h => by have := hlk.mpr h.2; omega)] at q4
                first
                  | exact RV1 (bt c0S_t ⟨by omega, q1, q2, q3⟩)
                  | exact RV0 (bf c0S_t (fun h => by have := h.1; omega))
            · refine PP.iload dX2_comesClean_57 rfl ?_
              refine PP.if_ne (tgt := 76) (by first | omega | exact hg _ _ | exact b2i_R _ | (unfold R32; omega)) dX2_comesClean_59 (by decide) (fun h59 => ?_) (fun h59 => ?_)
              · refine PP.aload_n dX2_comesClean_76 rfl ?_
                refine PP.getfR dX2_comesClean_77 fl_X2_21 hr0 rfl ?_
                refine PP.getfR dX2_comesClean_80 fl_X2_99 hq0 rfl ?_
                refine PP.iload_n dX2_comesClean_83 rfl ?_
                refine PP.ialoadN (n := t) hq4 (by decide) (by first | rfl | omega) (by first | omega | exact hg _ _ | exact b2i_R _ | (unfold R32; omega)) dX2_comesClean_84 ?_
                refine PP.istore (L' := [_, _, _, _, _, _]) dX2_comesClean_85 (Nat.le_of_ble_eq_true rfl) rfl rfl ?_
                refine PP.iload_n dX2_comesClean_87 rfl ?_
                refine PP.aload_n dX2_comesClean_88 rfl ?_
                refine PP.iload_n dX2_comesClean_89 rfl ?_
                refine PP.callVi (ok_shadowOf hc ht hp) dX2_comesClean_90 vl_X2_102 hr0 rfl rfl rfl rfl (Nat.le_of_ble_eq_true rfl) (Nat.le_of_ble_eq_true rfl) ?_
                refine PP.isub dX2_comesClean_93 ?_
                refine PP.iload dX2_comesClean_94 rfl ?_
                refine PP.icmp_lt (tgt := 103) (by first | omega | exact hg _ _ | exact b2i_R _ | (unfold R32; omega)) (by first | omega | exact hg _ _ | exact b2i_R _ | (unfold R32; omega)) dX2_comesClean_96 (by decide) (fun h96 => ?_) (fun h96 => ?_)
                · refine PP.iconst dX2_comesClean_103 ?_
                  refine PP.zret dX2_comesClean_104 rfl (by first | decide | omega) ?_
                  have q1 : ¬ (T (4 + t) = 1 ∧ lkS T P F t = false) := by
                    rintro ⟨b1, b2⟩
                    have := hlk.mpr b2
                    omega
                  have q2 : ¬ (T (4 + t) = 2 ∧ tcS T n P t = true) := by
                    rintro ⟨b1, b2⟩
                    first
                      | (have b3 := htc.mp (by omega); rw [b2] at b3; cases b3)
                      | omega
                  have q3 : kstS T t = false := hkt.mp (by omega)
                  have q4 : neS T P F t = T (25 + t) + (if T (4 + t) = 0 ∧ lkS T P F t = false then 1 else 0) := rfl
                  first
                    | rw [if_pos ⟨by omega, hlk.mp (by omega)⟩] at q4
                    | rw [if_neg (fun h => by have := hlk.mpr h.2; omega)] at q4
                  first
                    | exact RV1 (bt c0S_t ⟨by omega, q1, q2, q3⟩)
                    | exact RV0 (bf c0S_t (fun h => by have := h.1; omega))
                · refine PP.iconst dX2_comesClean_99 ?_
                  refine PP.goto (tgt := 104) dX2_comesClean_100 (by decide) ?_
                  refine PP.zret dX2_comesClean_104 rfl (by first | decide | omega) ?_
                  have q1 : ¬ (T (4 + t) = 1 ∧ lkS T P F t = false) := by
                    rintro ⟨b1, b2⟩
                    have := hlk.mpr b2
                    omega
                  have q2 : ¬ (T (4 + t) = 2 ∧ tcS T n P t = true) := by
                    rintro ⟨b1, b2⟩
                    first
                      | (have b3 := htc.mp (by omega); rw [b2] at b3; cases b3)
                      | omega
                  have q3 : kstS T t = false := hkt.mp (by omega)
                  have q4 : neS T P F t = T (25 + t) + (if T (4 + t) = 0 ∧ lkS T P F t = false then 1 else 0) := rfl
                  first
                    | rw [if_pos ⟨by omega, hlk.mp (by omega)⟩] at q4
                    | rw [if_neg (fun h => by have := hlk.mpr h.2; omega)] at q4
                  first
                    | exact RV1 (bt c0S_t ⟨by omega, q1, q2, q3⟩)
                    | exact RV0 (bf c0S_t (fun h => by have := h.1; omega))
              · refine PP.aload_n dX2_comesClean_62 rfl ?_
                refine PP.getfR dX2_comesClean_63 fl_X2_21 hr0 rfl ?_
                refine PP.getfR dX2_comesClean_66 fl_X2_99 hq0 rfl ?_
                refine PP.iload_n dX2_comesClean_69 rfl ?_
                refine PP.ialoadN (n := t) hq4 (by decide) (by first | rfl | omega) (by first | omega | exact hg _ _ | exact b2i_R _ | (unfold R32; omega)) dX2_comesClean_70 ?_
                refine PP.iconst dX2_comesClean_71 ?_
                refine PP.iadd dX2_comesClean_72 ?_
                refine PP.goto (tgt := 85) dX2_comesClean_73 (by decide) ?_
                refine PP.istore (L' := [_, _, _, _, _, _]) dX2_comesClean_85 (Nat.le_of_ble_eq_true rfl) rfl rfl ?_
                refine PP.iload_n dX2_comesClean_87 rfl ?_
                refine PP.aload_n dX2_comesClean_88 rfl ?_
                refine PP.iload_n dX2_comesClean_89 rfl ?_
                refine PP.callVi (ok_shadowOf hc ht hp) dX2_comesClean_90 vl_X2_102 hr0 rfl rfl rfl rfl (Nat.le_of_ble_eq_true rfl) (Nat.le_of_ble_eq_true rfl) ?_
                refine PP.isub dX2_comesClean_93 ?_
                refine PP.iload dX2_comesClean_94 rfl ?_
                refine PP.icmp_lt (tgt := 103) (by first | omega | exact hg _ _ | exact b2i_R _ | (unfold R32; omega)) (by first | omega | exact hg _ _ | exact b2i_R _ | (unfold R32; omega)) dX2_comesClean_96 (by decide) (fun h96 => ?_) (fun h96 => ?_)
                · refine PP.iconst dX2_comesClean_103 ?_
                  refine PP.zret dX2_comesClean_104 rfl (by first | decide | omega) ?_
                  have q1 : ¬ (T (4 + t) = 1 ∧ lkS T P F t = false) := by
                    rintro ⟨b1, b2⟩
                    have := hlk.mpr b2
                    omega
                  have q2 : ¬ (T (4 + t) = 2 ∧ tcS T n P t = true) := by
                    rintro ⟨b1, b2⟩
                    first
                      | (have b3 := htc.mp (by omega); rw [b2] at b3; cases b3)
                      | omega
                  have q3 : kstS T t = false := hkt.mp (by omega)
                  have q4 : neS T P F t = T (25 + t) + (if T (4 + t) = 0 ∧ lkS T P F t = false then 1 else 0) := rfl
                  first
                    | rw [if_pos ⟨by omega, hlk.mp (by omega)⟩] at q4
                    | rw [if_neg (fun h => by have := hlk.mpr h.2; omega)] at q4
                  first
                    | exact RV1 (bt c0S_t ⟨by omega, q1, q2, q3⟩)
                    | exact RV0 (bf c0S_t (fun h => by have := h.1; omega))
                · refine PP.iconst dX2_comesClean_99 ?_
                  refine PP.goto (tgt := 104) dX2_comesClean_100 (by decide) ?_
                  refine PP.zret dX2_comesClean_104 rfl (by first | decide | omega) ?_
                  have q1 : ¬ (T (4 + t) = 1 ∧ lkS T P F t = false) := by
                    rintro ⟨b1, b2⟩
                    have := hlk.mpr b2
                    omega
                  have q2 : ¬ (T (4 + t) = 2 ∧ tcS T n P t = true) := by
                    rintro ⟨b1, b2⟩
                    first
                      | (have b3 := htc.mp (by omega); rw [b2] at b3; cases b3)
                      | omega
                  have q3 : kstS T t = false := hkt.mp (by omega)
                  have q4 : neS T P F t = T (25 + t) + (if T (4 + t) = 0 ∧ lkS T P F t = false then 1 else 0) := rfl
                  first
                    | rw [if_pos ⟨by omega, hlk.mp (by omega)⟩] at q4
                    | rw [if_neg (fun h => by have := hlk.mpr h.2; omega)] at q4
                  first
                    | exact RV1 (bt c0S_t ⟨by omega, q1, q2, q3⟩)
                    | exact RV0 (bf c0S_t (fun h => by have := h.1; omega))
          · refine PP.iconst dX2_comesClean_51 ?_
            refine PP.zret dX2_comesClean_52 rfl (by first | decide | omega) ?_
            refine RV0 (bf c0S_t ?_)
            rintro ⟨a1, a2, a3, a4⟩
            first
              | exact h25 (hkt.mpr a4)
              | exact a2 ⟨by omega, hlk.mp (by omega)⟩
              | exact a3 ⟨by omega, b2i_n.mp (by omega)⟩
