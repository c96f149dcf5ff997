/-! the rack of the component: what is read -/
def DR (σ : Sg) (q : Nat) (T : Nat → Int) (n : Nat) : Prop := σ q 0 = T 0 ∧ σ q 1 = T 1 ∧ σ q 2 = T 2 ∧ σ q 3 = (n : Int) ∧ (∀ t, t < n → σ (q + 1) t = T (4 + t) ∧ σ (q + 2) t = T (11 + t) ∧ σ (q + 3) t = T (18 + t) ∧ σ (q + 4) t = T (25 + t)) ∧ ∀ h, h < 24 → σ (q + 5) h = T (32 + h)
def sdC (T P : Nat → Int) (t : Nat) : Int := if P t < 0 then 0 else if P t + T (11 + t) - 1 < T 1 then 1 else if T 1 < P t then 4 else 2
def RR (σ : Sg) (r : Nat) (T P F : Nat → Int) : Prop := ∀ t, t < 7 → σ (r + 1) t = (if P t < 0 then -1 else P t) ∧ σ (r + 2) t = (if P t < 0 then 0 else F t) ∧ σ (r + 3) t = sdC T P t
/-- all that a reader of the rack r over the dishes q knows -/
def RC (σ : Sg) (r q : Nat) (T : Nat → Int) (n : Nat) (P F : Nat → Int) : Prop := RK r q ∧ DK q ∧ wfT T n ∧ wfP T n P F ∧ DR σ q T n ∧ RR σ r T P F
theorem sd_c (T P : Nat → Int) (t : Nat) : (P t < 0 ∧ sdC T P t = 0 ∧ sdS T P t = -4) ∨ (0 ≤ P t ∧ sdC T P t = 1 ∧ sdS T P t = -1) ∨ (0 ≤ P t ∧ sdC T P t = 4 ∧ sdS T P t = 1) ∨ (0 ≤ P t ∧ sdC T P t = 2 ∧ sdS T P t = 0) := by
  unfold sdC sdS
  by_cases h1 : P t < 0
  · simp [h1]
  · by_cases h2 : P t + T (11 + t) - 1 < T 1
    · simp [h1, h2]; omega
    · by_cases h3 : T 1 < P t
      · simp [h1, h2, h3]; omega
      · simp [h1, h2, h3]; omega
theorem bf {b : Bool} {p : Prop} (h : b = true ↔ p) (hn : ¬ p) : b = false := Bool.eq_false_iff.mpr (fun q => hn (h.mp q))
theorem bt {b : Bool} {p : Prop} (h : b = true ↔ p) (hp : p) : b = true := h.mpr hp
theorem RV0 {b : Bool} {σ : Sg} (h : b = false) : RV (b2i b) σ (some (vI 0)) σ := by rw [h]; exact ⟨rfl, rfl⟩
theorem RV1 {b : Bool} {σ : Sg} (h : b = true) : RV (b2i b) σ (some (vI 1)) σ := by rw [h]; exact ⟨rfl, rfl⟩
theorem RVe {v w : Int} {σ : Sg} (h : v = w) : RV w σ (some (vI v)) σ := by rw [h]; exact ⟨rfl, rfl⟩
theorem b2i_0 {b : Bool} : b2i b = 0 ↔ b = false := by cases b <;> simp [b2i]
theorem b2i_1 {b : Bool} : b2i b = 1 ↔ b = true := by cases b <;> simp [b2i]
theorem b2i_n {b : Bool} : ¬ b2i b = 0 ↔ b = true := by cases b <;> simp [b2i]
theorem b2i_R (b : Bool) : R32 (b2i b) := by cases b <;> exact ⟨by decide, by decide⟩
theorem inS_t {P : Nat → Int} {t : Nat} : inS P t = true ↔ 0 ≤ P t := by simp [inS]
theorem lkS_t {T P F : Nat → Int} {t : Nat} : lkS T P F t = true ↔ (sdS T P t = 0 ∨ (sdS T P t = -1 ∧ F t = 1) ∨ (sdS T P t = 1 ∧ F t = 0)) := by simp [lkS, or_assoc]
theorem hiS_t {T : Nat → Int} {t u : Nat} : hiS T t u = true ↔ (T (18 + t) < T (18 + u) ∨ (T (18 + u) = T (18 + t) ∧ T (4 + t) = 2)) := by simp [hiS]
theorem btS_t {T P : Nat → Int} {t u : Nat} : btS T P t u = true ↔ (¬ sdS T P t = 0 ∧ 0 ≤ P u ∧ (sdS T P u = 0 ∨ (sdS T P u = sdS T P t ∧ ((sdS T P t < 0 ∧ P t < P u) ∨ (¬ sdS T P t < 0 ∧ P u < P t))))) := by
  by_cases h : sdS T P t < 0 <;> simp [btS, h, and_assoc]
theorem kstS_t {T : Nat → Int} {t : Nat} : kstS T t = true ↔ (T (4 + t) = 3 ∧ T 2 < T (18 + t)) := by simp [kstS]
theorem shl1_o {o : Nat} (ho : o < 31) : Int32.ofInt 1 <<< (Int32.ofInt (o : Int) &&& 31) = Int32.ofInt ((2 ^ o : Nat) : Int) := by
  have h : 1 * 2 ^ o < 2 ^ 32 := by rw [Nat.one_mul]; exact Nat.pow_lt_pow_right (by decide) (by omega)
  have := ishl_n (a := 1) (t := o) (by omega) h
  rw [Nat.one_mul] at this
  exact this
theorem ior_msk (p : Nat → Bool) (o : Nat) : Int32.ofInt ((msk p o : Nat) : Int) ||| Int32.ofInt ((2 ^ o : Nat) : Int) = Int32.ofInt ((msk p o + 2 ^ o : Nat) : Int) := by
  rw [ior_n, msk_or]
theorem msk_s1 {p : Nat → Bool} {o : Nat} (h : p o = true) : msk p (o + 1) = msk p o + 2 ^ o := by simp [msk, h]
theorem msk_s0 {p : Nat → Bool} {o : Nat} (h : p o = false) : msk p (o + 1) = msk p o := by simp [msk, h]
theorem cnt_s1 {p : Nat → Bool} {o : Nat} (h : p o = true) : cnt p (o + 1) = cnt p o + 1 := by simp [cnt, h]
theorem cnt_s0 {p : Nat → Bool} {o : Nat} (h : p o = false) : cnt p (o + 1) = cnt p o := by simp [cnt, h]
theorem msk_128 (p : Nat → Bool) {n : Nat} (h : n ≤ 7) : msk p n < 128 := Nat.lt_of_lt_of_le (msk_lt p n) (Nat.le_trans (Nat.pow_le_pow_right (by decide) h) (by decide))
theorem ok_in {σ : Sg} {r q n t : Nat} {T P F : Nat → Int} (hc : RC σ r q T n P F) (ht : t < 7) : OK SHc mX2_isIn 1 [vR r, vI (t : Int)] σ (RV (b2i (inS P t)) σ) := by
  obtain ⟨hk, -, -, -, -, hR⟩ := hc
  have h := ok_isIn (σ := σ) hk ht
  have e : decide (¬ σ (r + 3) t = 0) = inS P t := by
    have h3 := (hR t ht).2.2
    rw [h3]
    unfold inS
    rcases sd_c T P t with ⟨a, b, -⟩ | ⟨a, b, -⟩ | ⟨a, b, -⟩ | ⟨a, b, -⟩ <;> rw [b] <;> simp <;> omega
  rw [e] at h
  exact h
theorem ok_looksIn {σ : Sg} {r q n t : Nat} {T P F : Nat → Int} (hc : RC σ r q T n P F) (ht : t < n) (hp : 0 ≤ P t) : OK SHc mX2_looksIn 1 [vR r, vI (t : Int)] σ (RV (b2i (lkS T P F t)) σ) := by
  obtain ⟨⟨hr0, hr1, hr2, hr3⟩, -, hw, hP, -, hR⟩ := hc
  have hn7 := hw.2.1
  obtain ⟨e1, e2, e3⟩ := hR t (by omega)
  rw [if_neg (by omega)] at e1 e2
  have hF : F t = 0 ∨ F t = 1 := by rcases hP.1 t ht with h | h <;> omega
  have hsd := sd_c T P t
  refine OK.enter (L' := [vR r, vI (t : Int), vN]) (by decide +kernel) (by simp [ent0]) rfl ?_
  refine PP.rg (fun hg => ?_)
  refine PP.aload_n dX2_looksIn_0 rfl ?_
  refine PP.getfR dX2_looksIn_1 fl_X2_18 hr0 rfl ?_
  refine PP.iload_n dX2_looksIn_4 rfl ?_
  refine PP.ialoadN (n := t) hr3 (by decide) (by first | rfl | omega) (by first | omega | exact hg _ _ | (unfold R32; omega)) dX2_looksIn_5 ?_
  refine PP.iconst dX2_looksIn_6 ?_
  refine PP.icmp_ne (tgt := 14) (by first | omega | exact hg _ _ | (unfold R32; omega)) (by first | omega | exact hg _ _ | (unfold R32; omega)) dX2_looksIn_7 (by decide) (fun h7 => ?_) (fun h7 => ?_)
  · refine PP.iconst dX2_looksIn_14 ?_
    refine PP.istore_n (L' := [_, _, _]) dX2_looksIn_15 (Nat.le_of_ble_eq_true rfl) rfl rfl ?_
    refine PP.aload_n dX2_looksIn_16 rfl ?_
    refine PP.getfR dX2_looksIn_17 fl_X2_18 hr0 rfl ?_
    refine PP.iload_n dX2_looksIn_20 rfl ?_
    refine PP.ialoadN (n := t) hr3 (by decide) (by first | rfl | omega) (by first | omega | exact hg _ _ | (unfold R32; omega)) dX2_looksIn_21 ?_
    refine PP.iconst dX2_looksIn_22 ?_
    refine PP.icmp_eq (tgt := 36) (by first | omega | exact hg _ _ | (unfold R32; omega)) (by first | omega | exact hg _ _ | (unfold R32; omega)) dX2_looksIn_23 (by decide) (fun h23 => ?_) (fun h23 => ?_)
    · refine PP.iconst dX2_looksIn_36 ?_
      refine PP.goto (tgt := 41) dX2_looksIn_37 (by decide) ?_
      refine PP.zret dX2_looksIn_41 rfl (by first | decide | omega) ?_
      first
      | exact RV1 (bt lkS_t (by omega))
      | exact RV0 (bf lkS_t (by omega))
    · refine PP.aload_n dX2_looksIn_26 rfl ?_
      refine PP.getfR dX2_looksIn_27 fl_X2_15 hr0 rfl ?_
      refine PP.iload_n dX2_looksIn_30 rfl ?_
      refine PP.ialoadN (n := t) hr2 (by decide) (by first | rfl | omega) (by first | omega | exact hg _ _ | (unfold R32; omega)) dX2_looksIn_31 ?_
      refine PP.iload_n dX2_looksIn_32 rfl ?_
      refine PP.icmp_ne (tgt := 40) (by first | omega | exact hg _ _ | (unfold R32; omega)) (by first | omega | exact hg _ _ | (unfold R32; omega)) dX2_looksIn_33 (by decide) (fun h33 => ?_) (fun h33 => ?_)
      · refine PP.iconst dX2_looksIn_40 ?_
        refine PP.zret dX2_looksIn_41 rfl (by first | decide | omega) ?_
        first
        | exact RV1 (bt lkS_t (by omega))
        | exact RV0 (bf lkS_t (by omega))
      · refine PP.iconst dX2_looksIn_36 ?_
        refine PP.goto (tgt := 41) dX2_looksIn_37 (by decide) ?_
        refine PP.zret dX2_looksIn_41 rfl (by first | decide | omega) ?_
        first
        | exact RV1 (bt lkS_t (by omega))
        | exact RV0 (bf lkS_t (by omega))
  · refine PP.iconst dX2_looksIn_10 ?_
    refine PP.goto (tgt := 15) dX2_looksIn_11 (by decide) ?_
    refine PP.istore_n (L' := [_, _, _]) dX2_looksIn_15 (Nat.le_of_ble_eq_true rfl) rfl rfl ?_
    refine PP.aload_n dX2_looksIn_16 rfl ?_
    refine PP.getfR dX2_looksIn_17 fl_X2_18 hr0 rfl ?_
    refine PP.iload_n dX2_looksIn_20 rfl ?_
    refine PP.ialoadN (n := t) hr3 (by decide) (by first | rfl | omega) (by first | omega | exact hg _ _ | (unfold R32; omega)) dX2_looksIn_21 ?_
    refine PP.iconst dX2_looksIn_22 ?_
    refine PP.icmp_eq (tgt := 36) (by first | omega | exact hg _ _ | (unfold R32; omega)) (by first | omega | exact hg _ _ | (unfold R32; omega)) dX2_looksIn_23 (by decide) (fun h23 => ?_) (fun h23 => ?_)
    · refine PP.iconst dX2_looksIn_36 ?_
      refine PP.goto (tgt := 41) dX2_looksIn_37 (by decide) ?_
      refine PP.zret dX2_looksIn_41 rfl (by first | decide | omega) ?_
      first
      | exact RV1 (bt lkS_t (by omega))
      | exact RV0 (bf lkS_t (by omega))
    · refine PP.aload_n dX2_looksIn_26 rfl ?_
      refine PP.getfR dX2_looksIn_27 fl_X2_15 hr0 rfl ?_
      refine PP.iload_n dX2_looksIn_30 rfl ?_
      refine PP.ialoadN (n := t) hr2 (by decide) (by first | rfl | omega) (by first | omega | exact hg _ _ | (unfold R32; omega)) dX2_looksIn_31 ?_
      refine PP.iload_n dX2_looksIn_32 rfl ?_
      refine PP.icmp_ne (tgt := 40) (by first | omega | exact hg _ _ | (unfold R32; omega)) (by first | omega | exact hg _ _ | (unfold R32; omega)) dX2_looksIn_33 (by decide) (fun h33 => ?_) (fun h33 => ?_)
      · refine PP.iconst dX2_looksIn_40 ?_
        refine PP.zret dX2_looksIn_41 rfl (by first | decide | omega) ?_
        first
        | exact RV1 (bt lkS_t (by omega))
        | exact RV0 (bf lkS_t (by omega))
      · refine PP.iconst dX2_looksIn_36 ?_
        refine PP.goto (tgt := 41) dX2_looksIn_37 (by decide) ?_
        refine PP.zret dX2_looksIn_41 rfl (by first | decide | omega) ?_
        first
        | exact RV1 (bt lkS_t (by omega))
        | exact RV0 (bf lkS_t (by omega))
theorem ok_isBetween {σ : Sg} {r q n t o : Nat} {T P F : Nat → Int} (hc : RC σ r q T n P F) (ht : t < n) (hp : 0 ≤ P t) (ho : o < n) : OK SHc mX2_isBetween 1 [vR r, vI (t : Int), vI (o : Int)] σ (RV (b2i (btS T P t o)) σ) := by
  obtain ⟨⟨hr0, hr1, hr2, hr3⟩, -, hw, hP, -, hR⟩ := hc
  have hn7 := hw.2.1
  obtain ⟨e1, e2, e3⟩ := hR t (by omega)
  rw [if_neg (by omega)] at e1 e2
  obtain ⟨f1, f2, f3⟩ := hR o (by omega)
  have hsd := sd_c T P t
  have hso := sd_c T P o
  have f1' : 0 ≤ P o → σ (r + 1) o = P o := fun h => by rw [f1, if_neg (by omega)]
  refine OK.enter (L' := [vR r, vI (t : Int), vI (o : Int)]) (by decide +kernel) (by simp [ent0]) rfl ?_
  refine PP.rg (fun hg => ?_)
  refine PP.aload_n dX2_isBetween_0 rfl ?_
  refine PP.getfR dX2_isBetween_1 fl_X2_18 hr0 rfl ?_
  refine PP.iload_n dX2_isBetween_4 rfl ?_
  refine PP.ialoadN (n := t) hr3 (by decide) (by first | rfl | omega) (by first | omega | exact hg _ _ | (unfold R32; omega)) dX2_isBetween_5 ?_
  refine PP.iconst dX2_isBetween_6 ?_
  refine PP.icmp_ne (tgt := 12) (by first | omega | exact hg _ _ | (unfold R32; omega)) (by first | omega | exact hg _ _ | (unfold R32; omega)) dX2_isBetween_7 (by decide) (fun h7 => ?_) (fun h7 => ?_)
  · refine PP.aload_n dX2_isBetween_12 rfl ?_
    refine PP.getfR dX2_isBetween_13 fl_X2_18 hr0 rfl ?_
    refine PP.iload_n dX2_isBetween_16 rfl ?_
    refine PP.ialoadN (n := o) hr3 (by decide) (by first | rfl | omega) (by first | omega | exact hg _ _ | (unfold R32; omega)) dX2_isBetween_17 ?_
    refine PP.aload_n dX2_isBetween_18 rfl ?_
    refine PP.getfR dX2_isBetween_19 fl_X2_18 hr0 rfl ?_
    refine PP.iload_n dX2_isBetween_22 rfl ?_
    refine PP.ialoadN (n := t) hr3 (by decide) (by first | rfl | omega) (by first | omega | exact hg _ _ | (unfold R32; omega)) dX2_isBetween_23 ?_
    refine PP.icmp_eq (tgt := 43) (by first | omega | exact hg _ _ | (unfold R32; omega)) (by first | omega | exact hg _ _ | (unfold R32; omega)) dX2_isBetween_24 (by decide) (fun h24 => ?_) (fun h24 => ?_)
    · refine PP.aload_n dX2_isBetween_43 rfl ?_
      refine PP.getfR dX2_isBetween_44 fl_X2_18 hr0 rfl ?_
      refine PP.iload_n dX2_isBetween_47 rfl ?_
      refine PP.ialoadN (n := t) hr3 (by decide) (by first | rfl | omega) (by first | omega | exact hg _ _ | (unfold R32; omega)) dX2_isBetween_48 ?_
      refine PP.iconst dX2_isBetween_49 ?_
      refine PP.icmp_ne (tgt := 76) (by first | omega | exact hg _ _ | (unfold R32; omega)) (by first | omega | exact hg _ _ | (unfold R32; omega)) dX2_isBetween_50 (by decide) (fun h50 => ?_) (fun h50 => ?_)
      · refine PP.aload_n dX2_isBetween_76 rfl ?_
        refine PP.getfR dX2_isBetween_77 fl_X2_9 hr0 rfl ?_
        refine PP.iload_n dX2_isBetween_80 rfl ?_
        refine PP.ialoadN (n := o) hr1 (by decide) (by first | rfl | omega) (by first | omega | exact hg _ _ | (unfold R32; omega)) dX2_isBetween_81 ?_
        refine PP.aload_n dX2_isBetween_82 rfl ?_
        refine PP.getfR dX2_isBetween_83 fl_X2_9 hr0 rfl ?_
        refine PP.iload_n dX2_isBetween_86 rfl ?_
        refine PP.ialoadN (n := t) hr1 (by decide) (by first | rfl | omega) (by first | omega | exact hg _ _ | (unfold R32; omega)) dX2_isBetween_87 ?_
        refine PP.icmp_ge (tgt := 95) (by first | omega | exact hg _ _ | (unfold R32; omega)) (by first | omega | exact hg _ _ | (unfold R32; omega)) dX2_isBetween_88 (by decide) (fun h88 => ?_) (fun h88 => ?_)
        · refine PP.iconst dX2_isBetween_95 ?_
          refine PP.zret dX2_isBetween_96 rfl (by first | decide | omega) ?_
          first
          | exact RV1 (bt btS_t (by omega))
          | exact RV0 (bf btS_t (by omega))
        · refine PP.iconst dX2_isBetween_91 ?_
          refine PP.goto (tgt := 96) dX2_isBetween_92 (by decide) ?_
          refine PP.zret dX2_isBetween_96 rfl (by first | decide | omega) ?_
          first
          | exact RV1 (bt btS_t (by omega))
          | exact RV0 (bf btS_t (by omega))
      · refine PP.aload_n dX2_isBetween_53 rfl ?_
        refine PP.getfR dX2_isBetween_54 fl_X2_9 hr0 rfl ?_
        refine PP.iload_n dX2_isBetween_57 rfl ?_
        refine PP.ialoadN (n := o) hr1 (by decide) (by first | rfl | omega) (by first | omega | exact hg _ _ | (unfold R32; omega)) dX2_isBetween_58 ?_
        refine PP.aload_n dX2_isBetween_59 rfl ?_
        refine PP.getfR dX2_isBetween_60 fl_X2_9 hr0 rfl ?_
        refine PP.iload_n dX2_isBetween_63 rfl ?_
        refine PP.ialoadN (n := t) hr1 (by decide) (by first | rfl | omega) (by first | omega | exact hg _ _ | (unfold R32; omega)) dX2_isBetween_64 ?_
        refine PP.icmp_le (tgt := 72) (by first | omega | exact hg _ _ | (unfold R32; omega)) (by first | omega | exact hg _ _ | (unfold R32; omega)) dX2_isBetween_65 (by decide) (fun h65 => ?_) (fun h65 => ?_)
        · refine PP.iconst dX2_isBetween_72 ?_
          refine PP.goto (tgt := 96) dX2_isBetween_73 (by decide) ?_
          refine PP.zret dX2_isBetween_96 rfl (by first | decide | omega) ?_
          first
          | exact RV1 (bt btS_t (by omega))
          | exact RV0 (bf btS_t (by omega))
        · refine PP.iconst dX2_isBetween_68 ?_
          refine PP.goto (tgt := 96) dX2_isBetween_69 (by decide) ?_
          refine PP.zret dX2_isBetween_96 rfl (by first | decide | omega) ?_
          first
          | exact RV1 (bt btS_t (by omega))
          | exact RV0 (bf btS_t (by omega))
    · refine PP.aload_n dX2_isBetween_27 rfl ?_
      refine PP.getfR dX2_isBetween_28 fl_X2_18 hr0 rfl ?_
      refine PP.iload_n dX2_isBetween_31 rfl ?_
      refine PP.ialoadN (n := o) hr3 (by decide) (by first | rfl | omega) (by first | omega | exact hg _ _ | (unfold R32; omega)) dX2_isBetween_32 ?_
      refine PP.iconst dX2_isBetween_33 ?_
      refine PP.icmp_ne (tgt := 41) (by first | omega | exact hg _ _ | (unfold R32; omega)) (by first | omega | exact hg _ _ | (unfold R32; omega)) dX2_isBetween_34 (by decide) (fun h34 => ?_) (fun h34 => ?_)
      · refine PP.iconst dX2_isBetween_41 ?_
        refine PP.zret dX2_isBetween_42 rfl (by first | decide | omega) ?_
        first
        | exact RV1 (bt btS_t (by omega))
        | exact RV0 (bf btS_t (by omega))
      · refine PP.iconst dX2_isBetween_37 ?_
        refine PP.goto (tgt := 42) dX2_isBetween_38 (by decide) ?_
        refine PP.zret dX2_isBetween_42 rfl (by first | decide | omega) ?_
        first
        | exact RV1 (bt btS_t (by omega))
        | exact RV0 (bf btS_t (by omega))
  · refine PP.iconst dX2_isBetween_10 ?_
    refine PP.zret dX2_isBetween_11 rfl (by first | decide | omega) ?_
    first
    | exact RV1 (bt btS_t (by omega))
    | exact RV0 (bf btS_t (by omega))
theorem ok_strikes {σ : Sg} {q n t : Nat} {T : Nat → Int} (hk : DK q) (hw : wfT T n) (hD : DR σ q T n) (ht : t < n) : OK SHc mX0_strikes 1 [vR q, vI (t : Int)] σ (RV (b2i (kstS T t)) σ) := by
  obtain ⟨hq0, hq1, hq2, hq3, hq4, hq5⟩ := hk
  have hn7 := hw.2.1
  obtain ⟨d0, d1, d2, d3, d4, d5⟩ := hD
  obtain ⟨g1, g2, g3, g4⟩ := d4 t ht
  refine OK.enter (L' := [vR q, vI (t : Int)]) (by decide +kernel) (by simp [ent0]) rfl ?_
  refine PP.rg (fun hg => ?_)
  refine PP.aload_n dX0_strikes_0 rfl ?_
  refine PP.getfR dX0_strikes_1 fl_X0_9 hq0 rfl ?_
  refine PP.iload_n dX0_strikes_4 rfl ?_
  refine PP.ialoadN (n := t) hq1 (by decide) (by first | rfl | omega) (by first | omega | exact hg _ _ | (unfold R32; omega)) dX0_strikes_5 ?_
  refine PP.iconst dX0_strikes_6 ?_
  refine PP.icmp_ne (tgt := 27) (by first | omega | exact hg _ _ | (unfold R32; omega)) (by first | omega | exact hg _ _ | (unfold R32; omega)) dX0_strikes_7 (by decide) (fun h7 => ?_) (fun h7 => ?_)
  · refine PP.iconst dX0_strikes_27 ?_
    refine PP.zret dX0_strikes_28 rfl (by first | decide | omega) ?_
    first
    | exact RV1 (bt kstS_t (by omega))
    | exact RV0 (bf kstS_t (by omega))
  · refine PP.aload_n dX0_strikes_10 rfl ?_
    refine PP.getfR dX0_strikes_11 fl_X0_18 hq0 rfl ?_
    refine PP.iload_n dX0_strikes_14 rfl ?_
    refine PP.ialoadN (n := t) hq3 (by decide) (by first | rfl | omega) (by first | omega | exact hg _ _ | (unfold R32; omega)) dX0_strikes_15 ?_
    refine PP.aload_n dX0_strikes_16 rfl ?_
    refine PP.getfI dX0_strikes_17 fl_X0_34 hq0 rfl ?_
    refine PP.icmp_le (tgt := 27) (by first | omega | exact hg _ _ | (unfold R32; omega)) (by first | omega | exact hg _ _ | (unfold R32; omega)) dX0_strikes_20 (by decide) (fun h20 => ?_) (fun h20 => ?_)
    · refine PP.iconst dX0_strikes_27 ?_
      refine PP.zret dX0_strikes_28 rfl (by first | decide | omega) ?_
      first
      | exact RV1 (bt kstS_t (by omega))
      | exact RV0 (bf kstS_t (by omega))
    · refine PP.iconst dX0_strikes_23 ?_
      refine PP.goto (tgt := 28) dX0_strikes_24 (by decide) ?_
      refine PP.zret dX0_strikes_28 rfl (by first | decide | omega) ?_
      first
      | exact RV1 (bt kstS_t (by omega))
      | exact RV0 (bf kstS_t (by omega))
theorem ok_shadowOf {σ : Sg} {r q n t : Nat} {T P F : Nat → Int} (hc : RC σ r q T n P F) (ht : t < n) (hp : 0 ≤ P t) : OK SHc mX2_shadowOf 2 [vR r, vI (t : Int)] σ (RV (shS T n P t : Nat) σ) := by
  obtain ⟨⟨hr0, hr1, hr2, hr3⟩, ⟨hq0, hq1, hq2, hq3, hq4, hq5⟩, hw, hP, hD, hR⟩ := id hc
  have hn7 := hw.2.1
  obtain ⟨d0, d1, d2, d3, d4, d5⟩ := hD
  obtain ⟨g1, g2, g3, g4⟩ := d4 t ht
  obtain ⟨w1, w2, w3, w4⟩ := hw.2.2.2.2.2.1 t ht
  refine OK.enter (L' := [vR r, vI (t : Int), vN, vN, vN]) (by decide +kernel) (by simp [ent0]) rfl ?_
  refine PP.rg (fun hg => ?_)
  have key : ∀ (z : Int), z = (if T (4 + t) = 2 then T (18 + t) else T (18 + t) + 1) → ∀ o, o ≤ n → PP SHc mX2_shadowOf 2 42 [vR r, vI (t : Int), vI z, vI (cnt (fun u => btS T P t u && hiS T t u) o : Nat), vI (o : Int)] [] σ (RV (shS T n P t : Nat) σ) := by
    intro z hz
    have hzr : 1 ≤ z ∧ z ≤ 10 := by rw [hz]; split <;> omega
    refine loop_dn n ?_ ?_
    · have hcl := cnt_le (fun u => btS T P t u && hiS T t u) n
      refine PP.iload dX2_shadowOf_42 rfl ?_
      refine PP.aload_n dX2_shadowOf_44 rfl ?_
      refine PP.getfR dX2_shadowOf_45 fl_X2_21 hr0 rfl ?_
      refine PP.getfI dX2_shadowOf_48 fl_X2_48 hq0 rfl ?_
      refine PP.icmp_ge (tgt := 87) (by first | omega | exact hg _ _ | (unfold R32; omega)) (by first | omega | exact hg _ _ | (unfold R32; omega)) dX2_shadowOf_51 (by decide) (fun h51 => ?_) (fun h51 => ?_)
      · refine PP.aload_n dX2_shadowOf_87 rfl ?_
        refine PP.getfR dX2_shadowOf_88 fl_X2_21 hr0 rfl ?_
        refine PP.getfR dX2_shadowOf_91 fl_X2_71 hq0 rfl ?_
        refine PP.iload_n dX2_shadowOf_94 rfl ?_
        refine PP.ialoadN (n := t) hq1 (by decide) (by first | rfl | omega) (by first | omega | exact hg _ _ | (unfold R32; omega)) dX2_shadowOf_95 ?_
        refine PP.iconst dX2_shadowOf_96 ?_
        refine PP.icmp_ne (tgt := 106) (by first | omega | exact hg _ _ | (unfold R32; omega)) (by first | omega | exact hg _ _ | (unfold R32; omega)) dX2_shadowOf_97 (by decide) (fun h97 => ?_) (fun h97 => ?_)
        · refine PP.iload_n dX2_shadowOf_106 rfl ?_
          refine PP.iret dX2_shadowOf_107 rfl ?_
          refine RVe ?_
          unfold shS scS
          first
            | (rw [if_pos (by omega)]; rfl)
            | (rw [if_neg (by omega)])
        · refine PP.iload_n dX2_shadowOf_100 rfl ?_
          refine PP.iconst dX2_shadowOf_101 ?_
          refine PP.idiv (by first | omega | exact hg _ _ | (unfold R32; omega)) (by first | omega | exact hg _ _ | (unfold R32; omega)) (by first | omega | exact hg _ _ | (unfold R32; omega)) (by first | omega | exact hg _ _ | (unfold R32; omega)) dX2_shadowOf_102 ?_
          refine PP.goto (tgt := 107) dX2_shadowOf_103 (by decide) ?_
          refine PP.iret dX2_shadowOf_107 rfl ?_
          refine RVe ?_
          unfold shS scS
          first
            | (rw [if_pos (by omega)]; rfl)
            | (rw [if_neg (by omega)])
      · omega
    · intro o ho ih
      have hcl := cnt_le (fun u => btS T P t u && hiS T t u) o
      obtain ⟨k1, k2, k3, k4⟩ := d4 o ho
      obtain ⟨v1, v2, v3, v4⟩ := hw.2.2.2.2.2.1 o ho
      have hhi : hiS T t o = true ↔ z ≤ T (18 + o) := by
        rw [hiS_t, hz]
        by_cases h2 : T (4 + t) = 2
        · rw [if_pos h2]; omega
        · rw [if_neg h2]; omega
      refine PP.iload dX2_shadowOf_42 rfl ?_
      refine PP.aload_n dX2_shadowOf_44 rfl ?_
      refine PP.getfR dX2_shadowOf_45 fl_X2_21 hr0 rfl ?_
      refine PP.getfI dX2_shadowOf_48 fl_X2_48 hq0 rfl ?_
      refine PP.icmp_ge (tgt := 87) (by first | omega | exact hg _ _ | exact b2i_R _ | (unfold R32; omega)) (by first | omega | exact hg _ _ | exact b2i_R _ | (unfold R32; omega)) dX2_shadowOf_51 (by decide) (fun h51 => ?_) (fun h51 => ?_)
      · omega
      · refine PP.aload_n dX2_shadowOf_54 rfl ?_
        refine PP.getfR dX2_shadowOf_55 fl_X2_21 hr0 rfl ?_
        refine PP.getfR dX2_shadowOf_58 fl_X2_74 hq0 rfl ?_
        refine PP.iload dX2_shadowOf_61 rfl ?_
        refine PP.ialoadN (n := o) hq3 (by decide) (by first | rfl | omega) (by first | omega | exact hg _ _ | exact b2i_R _ | (unfold R32; omega)) dX2_shadowOf_63 ?_
        refine PP.iload_n dX2_shadowOf_64 rfl ?_
        refine PP.icmp_lt (tgt := 81) (by first | omega | exact hg _ _ | exact b2i_R _ | (unfold R32; omega)) (by first | omega | exact hg _ _ | exact b2i_R _ | (unfold R32; omega)) dX2_shadowOf_65 (by decide) (fun h65 => ?_) (fun h65 => ?_)
        · refine PP.iinc (L' := [_, _, _, _, _]) dX2_shadowOf_81 rfl rfl rfl ?_
          refine PP.goto (tgt := 42) dX2_shadowOf_84 (by decide) ?_
          first
          | (rw [cnt_s0 (by simp only [Bool.and_eq_false_iff]; exact Or.inr (bf hhi (by omega)))] at ih; exact ih)
          | (rw [cnt_s0 (by simp only [Bool.and_eq_false_iff]; exact Or.inl (b2i_0.mp h75))] at ih; exact ih)
          | (rw [cnt_s1 (by simp only [Bool.and_eq_true]; exact ⟨b2i_n.mp h75, bt hhi (by omega)⟩)] at ih; exact ih)
        · refine PP.aload_n dX2_shadowOf_68 rfl ?_
          refine PP.iload_n dX2_shadowOf_69 rfl ?_
          refine PP.iload dX2_shadowOf_70 rfl ?_
          refine PP.callVi (ok_isBetween hc ht hp ho) dX2_shadowOf_72 vl_X2_77 hr0 rfl rfl rfl rfl (Nat.le_of_ble_eq_true rfl) (Nat.le_of_ble_eq_true rfl) ?_
          refine PP.eqI (y := b2i (btS T P t o)) rfl ?_
          refine PP.if_eq (tgt := 81) (by first | omega | exact hg _ _ | exact b2i_R _ | (unfold R32; omega)) dX2_shadowOf_75 (by decide) (fun h75 => ?_) (fun h75 => ?_)
          · refine PP.iinc (L' := [_, _, _, _, _]) dX2_shadowOf_81 rfl rfl rfl ?_
            refine PP.goto (tgt := 42) dX2_shadowOf_84 (by decide) ?_
            first
            | (rw [cnt_s0 (by simp only [Bool.and_eq_false_iff]; exact Or.inr (bf hhi (by omega)))] at ih; exact ih)
            | (rw [cnt_s0 (by simp only [Bool.and_eq_false_iff]; exact Or.inl (b2i_0.mp h75))] at ih; exact ih)
            | (rw [cnt_s1 (by simp only [Bool.and_eq_true]; exact ⟨b2i_n.mp h75, bt hhi (by omega)⟩)] at ih; exact ih)
          · refine PP.iinc (L' := [_, _, _, _, _]) dX2_shadowOf_78 rfl rfl rfl ?_
            refine PP.iinc (L' := [_, _, _, _, _]) dX2_shadowOf_81 rfl rfl rfl ?_
            refine PP.goto (tgt := 42) dX2_shadowOf_84 (by decide) ?_
            first
            | (rw [cnt_s0 (by simp only [Bool.and_eq_false_iff]; exact Or.inr (bf hhi (by omega)))] at ih; exact ih)
            | (rw [cnt_s0 (by simp only [Bool.and_eq_false_iff]; exact Or.inl (b2i_0.mp h75))] at ih; exact ih)
            | (rw [cnt_s1 (by simp only [Bool.and_eq_true]; exact ⟨b2i_n.mp h75, bt hhi (by omega)⟩)] at ih; exact ih)
  refine PP.aload_n dX2_shadowOf_0 rfl ?_
  refine PP.getfR dX2_shadowOf_1 fl_X2_21 hr0 rfl ?_
  refine PP.getfR dX2_shadowOf_4 fl_X2_71 hq0 rfl ?_
  refine PP.iload_n dX2_shadowOf_7 rfl ?_
  refine PP.ialoadN (n := t) hq1 (by decide) (by first | rfl | omega) (by first | omega | exact hg _ _ | (unfold R32; omega)) dX2_shadowOf_8 ?_
  refine PP.iconst dX2_shadowOf_9 ?_
  refine PP.icmp_ne (tgt := 25) (by first | omega | exact hg _ _ | (unfold R32; omega)) (by first | omega | exact hg _ _ | (unfold R32; omega)) dX2_shadowOf_10 (by decide) (fun h10 => ?_) (fun h10 => ?_)
  · refine PP.aload_n dX2_shadowOf_25 rfl ?_
    refine PP.getfR dX2_shadowOf_26 fl_X2_21 hr0 rfl ?_
    refine PP.getfR dX2_shadowOf_29 fl_X2_74 hq0 rfl ?_
    refine PP.iload_n dX2_shadowOf_32 rfl ?_
    refine PP.ialoadN (n := t) hq3 (by decide) (by first | rfl | omega) (by first | omega | exact hg _ _ | (unfold R32; omega)) dX2_shadowOf_33 ?_
    refine PP.iconst dX2_shadowOf_34 ?_
    refine PP.iadd dX2_shadowOf_35 ?_
    refine PP.istore_n (L' := [_, _, _, _, _]) dX2_shadowOf_36 (Nat.le_of_ble_eq_true rfl) rfl rfl ?_
    refine PP.iconst dX2_shadowOf_37 ?_
    refine PP.istore_n (L' := [_, _, _, _, _]) dX2_shadowOf_38 (Nat.le_of_ble_eq_true rfl) rfl rfl ?_
    refine PP.iconst dX2_shadowOf_39 ?_
    refine PP.istore (L' := [_, _, _, _, _]) dX2_shadowOf_40 (Nat.le_of_ble_eq_true rfl) rfl rfl ?_
    first
    | exact key _ (by rw [if_pos (by omega)]; omega) 0 (by omega)
    | exact key _ (by rw [if_neg (by omega)]; omega) 0 (by omega)
  · refine PP.aload_n dX2_shadowOf_13 rfl ?_
    refine PP.getfR dX2_shadowOf_14 fl_X2_21 hr0 rfl ?_
    refine PP.getfR dX2_shadowOf_17 fl_X2_74 hq0 rfl ?_
    refine PP.iload_n dX2_shadowOf_20 rfl ?_
    refine PP.ialoadN (n := t) hq3 (by decide) (by first | rfl | omega) (by first | omega | exact hg _ _ | (unfold R32; omega)) dX2_shadowOf_21 ?_
    refine PP.goto (tgt := 36) dX2_shadowOf_22 (by decide) ?_
    refine PP.istore_n (L' := [_, _, _, _, _]) dX2_shadowOf_36 (Nat.le_of_ble_eq_true rfl) rfl rfl ?_
    refine PP.iconst dX2_shadowOf_37 ?_
    refine PP.istore_n (L' := [_, _, _, _, _]) dX2_shadowOf_38 (Nat.le_of_ble_eq_true rfl) rfl rfl ?_
    refine PP.iconst dX2_shadowOf_39 ?_
    refine PP.istore (L' := [_, _, _, _, _]) dX2_shadowOf_40 (Nat.le_of_ble_eq_true rfl) rfl rfl ?_
    first
    | exact key _ (by rw [if_pos (by omega)]; omega) 0 (by omega)
    | exact key _ (by rw [if_neg (by omega)]; omega) 0 (by omega)
