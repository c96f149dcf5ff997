/-! the model: what stands, what comes clean -/
theorem m_in {SH : List shp} {σ : Sg} {v lo hi : Int} (h1 : R32 v) (h2 : R32 lo) (h3 : R32 hi) : OK SH mX6_in 1 [vL v, vL lo, vL hi] σ (RV (b2i (decide (lo ≤ v ∧ v ≤ hi))) σ) := by
  unfold R32 at h1 h2 h3
  refine OK.enter (L' := [vL v, vN, vL lo, vN, vL hi, vN]) (by decide +kernel) (by simp [ent0]) rfl ?_
  refine PP.lload_n dX6_in_0 rfl ?_
  refine PP.lload_n dX6_in_1 rfl ?_
  refine PP.lcmp (by first | omega | (unfold R32; split <;> (try split) <;> omega)) (by first | omega | (unfold R32; split <;> (try split) <;> omega)) dX6_in_2 ?_
  refine PP.if_lt (tgt := 17) (by first | omega | (unfold R32; split <;> (try split) <;> omega)) dX6_in_3 (by decide) (fun h3 => ?_) (fun h3 => ?_)
  · refine PP.iconst dX6_in_17 ?_
    refine PP.zret dX6_in_18 rfl (by first | decide | omega | exact b2i_01 _) ?_
    first
    | exact RV1 (decide_eq_true ⟨by (split at h3 <;> (try split at h3)) <;> omega, by (split at h10 <;> (try split at h10)) <;> omega⟩)
    | exact RV0 (decide_eq_false (fun q => by (split at h10 <;> (try split at h10)) <;> omega))
    | exact RV0 (decide_eq_false (fun q => by (split at h3 <;> (try split at h3)) <;> omega))
  · refine PP.lload_n dX6_in_6 rfl ?_
    refine PP.lload dX6_in_7 rfl ?_
    refine PP.lcmp (by first | omega | (unfold R32; split <;> (try split) <;> omega)) (by first | omega | (unfold R32; split <;> (try split) <;> omega)) dX6_in_9 ?_
    refine PP.if_gt (tgt := 17) (by first | omega | (unfold R32; split <;> (try split) <;> omega)) dX6_in_10 (by decide) (fun h10 => ?_) (fun h10 => ?_)
    · refine PP.iconst dX6_in_17 ?_
      refine PP.zret dX6_in_18 rfl (by first | decide | omega | exact b2i_01 _) ?_
      first
      | exact RV1 (decide_eq_true ⟨by (split at h3 <;> (try split at h3)) <;> omega, by (split at h10 <;> (try split at h10)) <;> omega⟩)
      | exact RV0 (decide_eq_false (fun q => by (split at h10 <;> (try split at h10)) <;> omega))
      | exact RV0 (decide_eq_false (fun q => by (split at h3 <;> (try split at h3)) <;> omega))
    · refine PP.iconst dX6_in_13 ?_
      refine PP.goto (tgt := 18) dX6_in_14 (by decide) ?_
      refine PP.zret dX6_in_18 rfl (by first | decide | omega | exact b2i_01 _) ?_
      first
      | exact RV1 (decide_eq_true ⟨by (split at h3 <;> (try split at h3)) <;> omega, by (split at h10 <;> (try split at h10)) <;> omega⟩)
      | exact RV0 (decide_eq_false (fun q => by (split at h10 <;> (try split at h10)) <;> omega))
      | exact RV0 (decide_eq_false (fun q => by (split at h3 <;> (try split at h3)) <;> omega))
theorem m_has {SH : List shp} {σ : Sg} {p : Nat → Bool} {n t : Nat} (hn : n ≤ 7) (ht : t < n) : OK SH mX6_has 1 [vI (msk p n : Nat), vI (t : Int)] σ (RV (b2i (p t)) σ) := by
  refine OK.enter (L' := [vI ((msk p n) : Int), vI (t : Int)]) (by decide +kernel) (by simp [ent0]) rfl ?_
  refine PP.iload_n dX6_has_0 rfl ?_
  refine PP.iload_n dX6_has_1 rfl ?_
  refine PP.ishrR (z := ((msk p n / 2 ^ t) : Nat)) (shr_msk hn (by omega)) dX6_has_2 ?_
  refine PP.iconst dX6_has_3 ?_
  refine PP.iandR (z := (b2i (p t))) (and_bit ht) dX6_has_4 ?_
  refine PP.iconst dX6_has_5 ?_
  refine PP.icmp_ne (tgt := 13) (by first | omega | exact b2i_R _ | (unfold R32; omega)) (by first | omega | exact b2i_R _ | (unfold R32; omega)) dX6_has_6 (by decide) (fun h6 => ?_) (fun h6 => ?_)
  · refine PP.iconst dX6_has_13 ?_
    refine PP.zret dX6_has_14 rfl (by first | decide | omega | exact b2i_01 _) ?_
    first
    | exact RVe (by omega)
    | exact RVe (by have := b2i_01 (p t); omega)
  · refine PP.iconst dX6_has_9 ?_
    refine PP.goto (tgt := 14) dX6_has_10 (by decide) ?_
    refine PP.zret dX6_has_14 rfl (by first | decide | omega | exact b2i_01 _) ?_
    first
    | exact RVe (by omega)
    | exact RVe (by have := b2i_01 (p t); omega)
theorem on_1 : ∀ k : Fin 128, 0 < k.val → pc7 (k.val &&& (k.val - 1)) + 1 = pc7 k.val ∧ k.val &&& (k.val - 1) < k.val := by decide +kernel
theorem m_ones {SH : List shp} {σ : Sg} {a : Nat} (ha : a < 128) : OK SH mX6_ones 1 [vI (a : Int)] σ (RV (pc7 a : Nat) σ) := by
  refine OK.enter (L' := [vI (a : Int), vN, vN]) (by decide +kernel) (by simp [ent0]) rfl ?_
  have key : ∀ (m k c : Nat), k ≤ m → k < 128 → c + pc7 k = pc7 a → PP SH mX6_ones 1 4 [vI (a : Int), vI (c : Int), vI (k : Int)] [] σ (RV (pc7 a : Nat) σ) := by
    intro m
    induction m with
    | zero =>
      intro k c h1 h2 h3
      obtain rfl : k = 0 := by omega
      have : pc7 0 = 0 := rfl
      refine PP.iload_n dX6_ones_4 rfl ?_
      refine PP.if_eq (tgt := 20) (by first | omega | (unfold R32; omega)) dX6_ones_5 (by decide) (fun h5 => ?_) (fun h5 => ?_)
      · refine PP.iload_n dX6_ones_20 rfl ?_
        refine PP.iret dX6_ones_21 rfl ?_
        exact RVe (by omega)
      · exact absurd rfl h5
    | succ m ih =>
      intro k c h1 h2 h3
      rcases Nat.eq_zero_or_pos k with h | h
      · subst h
        have : pc7 0 = 0 := rfl
        refine PP.iload_n dX6_ones_4 rfl ?_
        refine PP.if_eq (tgt := 20) (by first | omega | (unfold R32; omega)) dX6_ones_5 (by decide) (fun h5 => ?_) (fun h5 => ?_)
        · refine PP.iload_n dX6_ones_20 rfl ?_
          refine PP.iret dX6_ones_21 rfl ?_
          exact RVe (by omega)
        · exact absurd rfl h5
      · have q : pc7 (k &&& (k - 1)) + 1 = pc7 k ∧ k &&& (k - 1) < k := on_1 ⟨k, h2⟩ h
        have ih' := ih (k &&& (k - 1)) (c + 1) (by omega) (by omega) (by omega)
        refine PP.iload_n dX6_ones_4 rfl ?_
        refine PP.if_eq (tgt := 20) (by first | omega | (unfold R32; omega)) dX6_ones_5 (by decide) (fun h5 => ?_) (fun h5 => ?_)
        · omega
        · refine PP.iinc (L' := [_, _, _]) dX6_ones_8 rfl rfl rfl ?_
          refine PP.iload_n dX6_ones_11 rfl ?_
          refine PP.iload_n dX6_ones_12 rfl ?_
          refine PP.iconst dX6_ones_13 ?_
          refine PP.isub dX6_ones_14 ?_
          refine PP.eqI (y := ((k - 1 : Nat) : Int)) (by omega) ?_
          refine PP.iandR (z := ((k &&& (k - 1)) : Nat)) (iand_n _ _) dX6_ones_15 ?_
          refine PP.istore_n (L' := [_, _, _]) dX6_ones_16 (Nat.le_of_ble_eq_true rfl) rfl rfl ?_
          refine PP.goto (tgt := 4) dX6_ones_17 (by decide) ?_
          exact ih'
  refine PP.iconst dX6_ones_0 ?_
  refine PP.istore_n (L' := [_, _, _]) dX6_ones_1 (Nat.le_of_ble_eq_true rfl) rfl rfl ?_
  refine PP.iload_n dX6_ones_2 rfl ?_
  refine PP.istore_n (L' := [_, _, _]) dX6_ones_3 (Nat.le_of_ble_eq_true rfl) rfl rfl ?_
  exact key a a 0 (Nat.le_refl _) ha (by omega)
def mT (σ : Sg) (T : Nat → Int) : Prop := ∀ k, k < 56 → σ 2 k = T k
def MS (σ : Sg) (T P F : Nat → Int) : Prop := ∀ t, t < 7 → σ 10 t = P t ∧ σ 11 t = F t ∧ σ 12 t = sdS T P t
def MC (σ : Sg) (T : Nat → Int) (n : Nat) (P F : Nat → Int) : Prop := wfT T n ∧ wfP T n P F ∧ mT σ T ∧ MS σ T P F
theorem m_isThing {σ : Sg} {T : Nat → Int} {n : Nat} {t : Int} (hw : wfT T n) (hT : mT σ T) (hx : R32 t) : OK SHm mX6_isThing 2 [vR 0, vI t] σ (RV (b2i (decide (0 ≤ t ∧ t < (n : Int)))) σ) := by
  have t3 : σ 2 3 = (n : Int) := (hT 3 (by decide)).trans hw.1
  have hn7 := hw.2.1
  refine OK.enter (L' := [vR 0, vI t]) (by decide +kernel) (by simp [ent0]) rfl ?_
  refine PP.iload_n dX6_isThing_0 rfl ?_
  refine PP.i2l (by first | omega | assumption | (unfold R32; omega)) dX6_isThing_1 ?_
  refine PP.lconst (z := 0) dX6_isThing_2 (by decide) ?_
  refine PP.aload_n dX6_isThing_3 rfl ?_
  refine PP.getfR dX6_isThing_4 fl_X6_13 sm0 rfl ?_
  refine PP.iconst dX6_isThing_7 ?_
  refine PP.ialoadN (n := 3) sm2 (by first | decide | omega) (by first | rfl | omega) (by first | omega | assumption | (unfold R32; omega)) dX6_isThing_8 ?_
  refine PP.iconst dX6_isThing_9 ?_
  refine PP.isub dX6_isThing_10 ?_
  refine PP.i2l (by first | omega | assumption | (unfold R32; omega)) dX6_isThing_11 ?_
  refine PP.callSi (m_in hx (by unfold R32; omega) (by unfold R32; omega)) dX6_isThing_12 sl_X6_70 rfl rfl (Nat.le_of_ble_eq_true rfl) (by first | exact Nat.le_of_ble_eq_true rfl | omega) ?_
  refine PP.zret dX6_isThing_15 rfl (by first | decide | omega | exact b2i_01 _) ?_
  exact RVe (by rw [t3]; congr 1; exact decide_eq_decide.mpr (by omega))
theorem m_isSlot {σ : Sg} {T : Nat → Int} {n : Nat} {t : Int} (hw : wfT T n) (hT : mT σ T) (hx : R32 t) : OK SHm mX6_isSlot 2 [vR 0, vI t] σ (RV (b2i (decide (0 ≤ t ∧ t < T 0))) σ) := by
  have t0 := hT 0 (by decide)
  have hsl := hw.2.2.1
  refine OK.enter (L' := [vR 0, vI t]) (by decide +kernel) (by simp [ent0]) rfl ?_
  refine PP.iload_n dX6_isSlot_0 rfl ?_
  refine PP.i2l (by first | omega | assumption | (unfold R32; omega)) dX6_isSlot_1 ?_
  refine PP.lconst (z := 0) dX6_isSlot_2 (by decide) ?_
  refine PP.aload_n dX6_isSlot_3 rfl ?_
  refine PP.getfR dX6_isSlot_4 fl_X6_13 sm0 rfl ?_
  refine PP.iconst dX6_isSlot_7 ?_
  refine PP.ialoadN (n := 0) sm2 (by first | decide | omega) (by first | rfl | omega) (by first | omega | assumption | (unfold R32; omega)) dX6_isSlot_8 ?_
  refine PP.iconst dX6_isSlot_9 ?_
  refine PP.isub dX6_isSlot_10 ?_
  refine PP.i2l (by first | omega | assumption | (unfold R32; omega)) dX6_isSlot_11 ?_
  refine PP.callSi (m_in hx (by unfold R32; omega) (by unfold R32; omega)) dX6_isSlot_12 sl_X6_70 rfl rfl (Nat.le_of_ble_eq_true rfl) (by first | exact Nat.le_of_ble_eq_true rfl | omega) ?_
  refine PP.zret dX6_isSlot_15 rfl (by first | decide | omega | exact b2i_01 _) ?_
  exact RVe (by rw [t0]; congr 1; exact decide_eq_decide.mpr (by omega))
def sdV (T : Nat → Int) (t : Nat) (s : Int) : Int := if s < 0 then -4 else if s + T (11 + t) - 1 < T 1 then -1 else if T 1 < s then 1 else 0
theorem m_setSide {σ : Sg} {T : Nat → Int} {n t : Nat} {s : Int} (hw : wfT T n) (hT : mT σ T) (ht : t < 7) (hs : σ 10 t = s) (hr : s = -4 ∨ ((0 ≤ s ∧ s ≤ 20) ∧ (1 ≤ T (11 + t) ∧ T (11 + t) ≤ 4))) : OK SHm mX6_setSide 1 [vR 0, vI (t : Int)] σ (RN (up σ 12 t (sdV T t s))) := by
  have t1 := hT 1 (by decide)
  have g2 := hT (11 + t) (by omega)
  have hmi := hw.2.2.2.1
  have hsl := hw.2.2.1
  refine OK.enter (L' := [vR 0, vI (t : Int), vN]) (by decide +kernel) (by simp [ent0]) rfl ?_
  refine PP.aload_n dX6_setSide_0 rfl ?_
  refine PP.getfR dX6_setSide_1 fl_X6_37 sm0 rfl ?_
  refine PP.iload_n dX6_setSide_4 rfl ?_
  refine PP.ialoadN (n := t) sm10 (by first | decide | omega) (by first | rfl | omega) (by first | omega | (unfold R32; omega)) dX6_setSide_5 ?_
  refine PP.aload_n dX6_setSide_6 rfl ?_
  refine PP.getfR dX6_setSide_7 fl_X6_13 sm0 rfl ?_
  refine PP.bipush dX6_setSide_10 (by decide) ?_
  refine PP.iload_n dX6_setSide_12 rfl ?_
  refine PP.iadd dX6_setSide_13 ?_
  refine PP.ialoadN (n := (11 + t)) sm2 (by first | decide | omega) (by first | rfl | omega) (by first | omega | (unfold R32; omega)) dX6_setSide_14 ?_
  refine PP.iadd dX6_setSide_15 ?_
  refine PP.iconst dX6_setSide_16 ?_
  refine PP.isub dX6_setSide_17 ?_
  refine PP.istore_n (L' := [_, _, _]) dX6_setSide_18 (Nat.le_of_ble_eq_true rfl) rfl rfl ?_
  refine PP.aload_n dX6_setSide_19 rfl ?_
  refine PP.getfR dX6_setSide_20 fl_X6_43 sm0 rfl ?_
  refine PP.iload_n dX6_setSide_23 rfl ?_
  refine PP.aload_n dX6_setSide_24 rfl ?_
  refine PP.getfR dX6_setSide_25 fl_X6_37 sm0 rfl ?_
  refine PP.iload_n dX6_setSide_28 rfl ?_
  refine PP.ialoadN (n := t) sm10 (by first | decide | omega) (by first | rfl | omega) (by first | omega | (unfold R32; omega)) dX6_setSide_29 ?_
  refine PP.if_ge (tgt := 38) (by first | omega | (unfold R32; omega)) dX6_setSide_30 (by decide) (fun h30 => ?_) (fun h30 => ?_)
  · refine PP.iload_n dX6_setSide_38 rfl ?_
    refine PP.aload_n dX6_setSide_39 rfl ?_
    refine PP.getfR dX6_setSide_40 fl_X6_13 sm0 rfl ?_
    refine PP.iconst dX6_setSide_43 ?_
    refine PP.ialoadN (n := 1) sm2 (by first | decide | omega) (by first | rfl | omega) (by first | omega | (unfold R32; omega)) dX6_setSide_44 ?_
    refine PP.icmp_ge (tgt := 52) (by first | omega | (unfold R32; omega)) (by first | omega | (unfold R32; omega)) dX6_setSide_45 (by decide) (fun h45 => ?_) (fun h45 => ?_)
    · refine PP.aload_n dX6_setSide_52 rfl ?_
      refine PP.getfR dX6_setSide_53 fl_X6_37 sm0 rfl ?_
      refine PP.iload_n dX6_setSide_56 rfl ?_
      refine PP.ialoadN (n := t) sm10 (by first | decide | omega) (by first | rfl | omega) (by first | omega | (unfold R32; omega)) dX6_setSide_57 ?_
      refine PP.aload_n dX6_setSide_58 rfl ?_
      refine PP.getfR dX6_setSide_59 fl_X6_13 sm0 rfl ?_
      refine PP.iconst dX6_setSide_62 ?_
      refine PP.ialoadN (n := 1) sm2 (by first | decide | omega) (by first | rfl | omega) (by first | omega | (unfold R32; omega)) dX6_setSide_63 ?_
      refine PP.icmp_le (tgt := 71) (by first | omega | (unfold R32; omega)) (by first | omega | (unfold R32; omega)) dX6_setSide_64 (by decide) (fun h64 => ?_) (fun h64 => ?_)
      · refine PP.iconst dX6_setSide_71 ?_
        refine PP.iastoreN (n := t) sm12 (by first | decide | omega) (by first | rfl | omega) (by first | omega | (unfold R32; omega)) (by first | omega | (unfold R32; omega)) dX6_setSide_72 ?_
        refine PP.vret dX6_setSide_73 rfl ?_
        unfold sdV
        first
          | (rw [if_pos (by omega)]; exact ⟨rfl, rfl⟩)
          | (rw [if_neg (by omega), if_pos (by omega)]; exact ⟨rfl, rfl⟩)
          | (rw [if_neg (by omega), if_neg (by omega), if_pos (by omega)]; exact ⟨rfl, rfl⟩)
          | (rw [if_neg (by omega), if_neg (by omega), if_neg (by omega)]; exact ⟨rfl, rfl⟩)
      · refine PP.iconst dX6_setSide_67 ?_
        refine PP.goto (tgt := 72) dX6_setSide_68 (by decide) ?_
        refine PP.iastoreN (n := t) sm12 (by first | decide | omega) (by first | rfl | omega) (by first | omega | (unfold R32; omega)) (by first | omega | (unfold R32; omega)) dX6_setSide_72 ?_
        refine PP.vret dX6_setSide_73 rfl ?_
        unfold sdV
        first
          | (rw [if_pos (by omega)]; exact ⟨rfl, rfl⟩)
          | (rw [if_neg (by omega), if_pos (by omega)]; exact ⟨rfl, rfl⟩)
          | (rw [if_neg (by omega), if_neg (by omega), if_pos (by omega)]; exact ⟨rfl, rfl⟩)
          | (rw [if_neg (by omega), if_neg (by omega), if_neg (by omega)]; exact ⟨rfl, rfl⟩)
    · refine PP.iconst dX6_setSide_48 ?_
      refine PP.goto (tgt := 72) dX6_setSide_49 (by decide) ?_
      refine PP.iastoreN (n := t) sm12 (by first | decide | omega) (by first | rfl | omega) (by first | omega | (unfold R32; omega)) (by first | omega | (unfold R32; omega)) dX6_setSide_72 ?_
      refine PP.vret dX6_setSide_73 rfl ?_
      unfold sdV
      first
        | (rw [if_pos (by omega)]; exact ⟨rfl, rfl⟩)
        | (rw [if_neg (by omega), if_pos (by omega)]; exact ⟨rfl, rfl⟩)
        | (rw [if_neg (by omega), if_neg (by omega), if_pos (by omega)]; exact ⟨rfl, rfl⟩)
        | (rw [if_neg (by omega), if_neg (by omega), if_neg (by omega)]; exact ⟨rfl, rfl⟩)
  · refine PP.bipush dX6_setSide_33 (by decide) ?_
    refine PP.goto (tgt := 72) dX6_setSide_35 (by decide) ?_
    refine PP.iastoreN (n := t) sm12 (by first | decide | omega) (by first | rfl | omega) (by first | omega | (unfold R32; omega)) (by first | omega | (unfold R32; omega)) dX6_setSide_72 ?_
    refine PP.vret dX6_setSide_73 rfl ?_
    unfold sdV
    first
      | (rw [if_pos (by omega)]; exact ⟨rfl, rfl⟩)
      | (rw [if_neg (by omega), if_pos (by omega)]; exact ⟨rfl, rfl⟩)
      | (rw [if_neg (by omega), if_neg (by omega), if_pos (by omega)]; exact ⟨rfl, rfl⟩)
      | (rw [if_neg (by omega), if_neg (by omega), if_neg (by omega)]; exact ⟨rfl, rfl⟩)
def ptU (σ : Sg) (T : Nat → Int) (t : Nat) (s f : Int) : Sg := up (up (up σ 10 t s) 11 t f) 12 t (sdV T t s)
theorem ptU_ne {σ : Sg} {T : Nat → Int} {t c : Nat} {s f : Int} (h0 : c ≠ 10) (h1 : c ≠ 11) (h2 : c ≠ 12) : ptU σ T t s f c = σ c := by
  unfold ptU; rw [up_ne h2, up_ne h1, up_ne h0]
theorem ptU_at {σ : Sg} {T : Nat → Int} {t : Nat} {s f : Int} : ptU σ T t s f 10 t = s ∧ ptU σ T t s f 11 t = f ∧ ptU σ T t s f 12 t = sdV T t s := by
  unfold ptU
  refine ⟨?_, ?_, ?_⟩
  · rw [up_ne (by decide), up_ne (by decide), up_at]
  · rw [up_ne (by decide), up_at]
  · rw [up_at]
theorem ptU_j {σ : Sg} {T : Nat → Int} {t u : Nat} {s f : Int} (h : u ≠ t) : ptU σ T t s f 10 u = σ 10 u ∧ ptU σ T t s f 11 u = σ 11 u ∧ ptU σ T t s f 12 u = σ 12 u := by
  unfold ptU
  refine ⟨?_, ?_, ?_⟩
  · rw [up_ne (by decide), up_ne (by decide), up_j h]
  · rw [up_ne (by decide), up_j h, up_ne (by decide)]
  · rw [up_j h, up_ne (by decide), up_ne (by decide)]
theorem MS_put {σ : Sg} {T P F : Nat → Int} {t : Nat} {s f : Int} (h : MS σ T P F) : MS (ptU σ T t s f) T (uf P t s) (uf F t f) := by
  intro u hu
  by_cases e : u = t
  · subst e
    obtain ⟨a, b, c⟩ := ptU_at (σ := σ) (T := T) (t := u) (s := s) (f := f)
    refine ⟨by rw [a, uf_at], by rw [b, uf_at], ?_⟩
    rw [c]; unfold sdV sdS; rw [uf_at]
  · obtain ⟨a, b, c⟩ := ptU_j (σ := σ) (T := T) (s := s) (f := f) e
    obtain ⟨p, q, r⟩ := h u hu
    refine ⟨by rw [a, uf_ne e, p], by rw [b, uf_ne e, q], ?_⟩
    rw [c, r]; unfold sdS; rw [uf_ne e]
theorem m_put {σ : Sg} {T : Nat → Int} {n t : Nat} {s f : Int} (hw : wfT T n) (hT : mT σ T) (ht : t < 7) (hf : R32 f) (hr : s = -4 ∨ ((0 ≤ s ∧ s ≤ 20) ∧ (1 ≤ T (11 + t) ∧ T (11 + t) ≤ 4))) : OK SHm mX6_put 2 [vR 0, vI (t : Int), vI s, vI f] σ (RN (ptU σ T t s f)) := by
  refine OK.enter (L' := [vR 0, vI (t : Int), vI s, vI f]) (by decide +kernel) (by simp [ent0]) rfl ?_
  refine PP.aload_n dX6_put_0 rfl ?_
  refine PP.getfR dX6_put_1 fl_X6_37 sm0 rfl ?_
  refine PP.iload_n dX6_put_4 rfl ?_
  refine PP.iload_n dX6_put_5 rfl ?_
  refine PP.iastoreN (n := t) sm10 (by first | decide | omega) (by first | rfl | omega) (by first | omega | assumption | (unfold R32; omega)) (by first | omega | assumption | (unfold R32; omega)) dX6_put_6 ?_
  refine PP.aload_n dX6_put_7 rfl ?_
  refine PP.getfR dX6_put_8 fl_X6_40 sm0 rfl ?_
  refine PP.iload_n dX6_put_11 rfl ?_
  refine PP.iload_n dX6_put_12 rfl ?_
  refine PP.iastoreN (n := t) sm11 (by first | decide | omega) (by first | rfl | omega) (by first | omega | assumption | (unfold R32; omega)) (by first | omega | assumption | (unfold R32; omega)) dX6_put_13 ?_
  refine PP.aload_n dX6_put_14 rfl ?_
  refine PP.iload_n dX6_put_15 rfl ?_
  refine PP.callVn (m_setSide hw (fun k hk => by rw [up_ne (by decide), up_ne (by decide)]; exact hT k hk) ht (by rw [up_ne (by decide), up_at]) hr) dX6_put_16 vl_X6_123 sm0 rfl rfl rfl rfl (Nat.le_of_ble_eq_true rfl) (by first | exact Nat.le_of_ble_eq_true rfl | omega) ?_
  refine PP.vret dX6_put_19 rfl ?_
  exact ⟨rfl, rfl⟩
theorem m_clear {σ : Sg} {T : Nat → Int} {n : Nat} (hw : wfT T n) (hT : mT σ T) : OK SHm mX6_clear 3 [vR 0] σ (RPn (fun τ => (∀ c, c ≠ 10 → c ≠ 11 → c ≠ 12 → τ c = σ c) ∧ MS τ T (fun _ => -4) (fun _ => -4))) := by
  refine OK.enter (L' := [vR 0, vN]) (by decide +kernel) (by simp [ent0]) rfl ?_
  have key : ∀ o, o ≤ 7 → ∀ σ1 : Sg, (∀ c, c ≠ 10 → c ≠ 11 → c ≠ 12 → σ1 c = σ c) → (∀ t, t < o → σ1 10 t = -4 ∧ σ1 11 t = -4 ∧ σ1 12 t = -4) → PP SHm mX6_clear 3 2 [vR 0, vI (o : Int)] [] σ1 (RPn (fun τ => (∀ c, c ≠ 10 → c ≠ 11 → c ≠ 12 → τ c = σ c) ∧ MS τ T (fun _ => -4) (fun _ => -4))) := by
    refine loop_dn 7 ?_ ?_
    · intro σ1 hfr hs
      refine PP.iload_n dX6_clear_2 rfl ?_
      refine PP.bipush dX6_clear_3 (by decide) ?_
      refine PP.icmp_ge (tgt := 23) (by first | omega | (unfold R32; omega)) (by first | omega | (unfold R32; omega)) dX6_clear_5 (by decide) (fun h5 => ?_) (fun h5 => ?_)
      · refine PP.vret dX6_clear_23 rfl ?_
        exact ⟨rfl, hfr, fun t ht => ⟨(hs t ht).1, (hs t ht).2.1, (hs t ht).2.2⟩⟩
      · omega
    · intro o ho ih σ1 hfr hs
      refine PP.iload_n dX6_clear_2 rfl ?_
      refine PP.bipush dX6_clear_3 (by decide) ?_
      refine PP.icmp_ge (tgt := 23) (by first | omega | (unfold R32; omega)) (by first | omega | (unfold R32; omega)) dX6_clear_5 (by decide) (fun h5 => ?_) (fun h5 => ?_)
      · omega
      · refine PP.aload_n dX6_clear_8 rfl ?_
        refine PP.iload_n dX6_clear_9 rfl ?_
        refine PP.bipush dX6_clear_10 (by decide) ?_
        refine PP.bipush dX6_clear_12 (by decide) ?_
        refine PP.callVn (m_put (T := T) (s := -4) (f := -4) hw (fun k hk => by rw [hfr 2 (by decide) (by decide) (by decide)]; exact hT k hk) ho (by unfold R32; omega) (Or.inl rfl)) dX6_clear_14 vl_X6_127 sm0 rfl rfl rfl rfl (Nat.le_of_ble_eq_true rfl) (by first | exact Nat.le_of_ble_eq_true rfl | omega) ?_
        refine PP.iinc (L' := [_, _]) dX6_clear_17 rfl rfl rfl ?_
        refine PP.goto (tgt := 2) dX6_clear_20 (by decide) ?_
        refine ih _ (fun c h0 h1 h2 => by rw [ptU_ne h0 h1 h2]; exact hfr c h0 h1 h2) (fun t ht => ?_)
        by_cases e : t = o
        · subst e
          obtain ⟨a, b, c⟩ := ptU_at (σ := σ1) (T := T) (t := t) (s := -4) (f := -4)
          exact ⟨a, b, c⟩
        · obtain ⟨a, b, c⟩ := ptU_j (σ := σ1) (T := T) (s := -4) (f := -4) e
          rw [a, b, c]
          exact hs t (by omega)
  refine PP.iconst dX6_clear_0 ?_
  refine PP.istore_n (L' := [_, _]) dX6_clear_1 (Nat.le_of_ble_eq_true rfl) rfl rfl ?_
  exact key 0 (by omega) σ (fun c _ _ _ => rfl) (fun t ht => by omega)
theorem m_standUp {σ : Sg} {T : Nat → Int} {n : Nat} {row : Nat → Int} (hw : wfT T n) (hT : mT σ T) (hr : wfR T n row) (hN : ∀ k, k < 16 → σ 4 k = row k) : OK SHm mX6_standUp 3 [vR 0] σ (RPn (fun τ => (∀ c, c ≠ 10 → c ≠ 11 → c ≠ 12 → τ c = σ c) ∧ MS τ T (rP row) (rF row))) := by
  have t3 : σ 2 3 = (n : Int) := (hT 3 (by decide)).trans hw.1
  have hn7 := hw.2.1
  have hsl := hw.2.2.1
  refine OK.enter (L' := [vR 0, vN]) (by decide +kernel) (by simp [ent0]) rfl ?_
  refine PP.rg (fun hg => ?_)
  have key : ∀ o, o ≤ 7 → ∀ σ1 : Sg, (∀ c, c ≠ 10 → c ≠ 11 → c ≠ 12 → σ1 c = σ c) → (∀ t, t < o → σ1 10 t = rP row t ∧ σ1 11 t = rF row t ∧ σ1 12 t = sdS T (rP row) t) → PP SHm mX6_standUp 3 2 [vR 0, vI (o : Int)] [] σ1 (RPn (fun τ => (∀ c, c ≠ 10 → c ≠ 11 → c ≠ 12 → τ c = σ c) ∧ MS τ T (rP row) (rF row))) := by
    refine loop_dn 7 ?_ ?_
    · intro σ1 hfr hs
      refine PP.iload_n dX6_standUp_2 rfl ?_
      refine PP.bipush dX6_standUp_3 (by decide) ?_
      refine PP.icmp_ge (tgt := 78) (by first | omega | (unfold R32; omega)) (by first | omega | (unfold R32; omega)) dX6_standUp_5 (by decide) (fun h5 => ?_) (fun h5 => ?_)
      · refine PP.vret dX6_standUp_78 rfl ?_
        exact ⟨rfl, hfr, hs⟩
      · omega
    · intro o ho ih σ1 hfr hs
      have hT1 : mT σ1 T := fun k hk => by rw [hfr 2 (by decide) (by decide) (by decide)]; exact hT k hk
      have t3' : σ1 2 3 = (n : Int) := by rw [hfr 2 (by decide) (by decide) (by decide)]; exact t3
      have n1 : σ1 4 (2 + o) = row (2 + o) := by rw [hfr 4 (by decide) (by decide) (by decide)]; exact hN _ (by omega)
      have n2 : σ1 4 (9 + o) = row (9 + o) := by rw [hfr 4 (by decide) (by decide) (by decide)]; exact hN _ (by omega)
      have hro : (row (2 + o) = -4 ∧ row (9 + o) = -4) ∨ (o < n ∧ 0 ≤ row (2 + o) ∧ row (2 + o) + T (11 + o) ≤ T 0 ∧ (row (9 + o) = 0 ∨ row (9 + o) = 1)) := by
        by_cases e : o < n
        · rcases hr.1.1 o e with h | h
          · exact Or.inl h
          · exact Or.inr ⟨e, h⟩
        · exact Or.inl (hr.1.2 o (by omega) ho)
      have hro2 : o < n → 1 ≤ T (11 + o) ∧ T (11 + o) ≤ 4 := fun e => (hw.2.2.2.2.2.1 o e).2.1
      have nx : PP SHm mX6_standUp 3 2 [vR 0, vI ((o : Int) + 1)] [] (ptU σ1 T o (row (2 + o)) (row (9 + o))) (RPn (fun τ => (∀ c, c ≠ 10 → c ≠ 11 → c ≠ 12 → τ c = σ c) ∧ MS τ T (rP row) (rF row))) := by
        refine ih _ (fun c h0 h1 h2 => by rw [ptU_ne h0 h1 h2]; exact hfr c h0 h1 h2) (fun t ht => ?_)
        by_cases e : t = o
        · subst e
          obtain ⟨a, b, c⟩ := ptU_at (σ := σ1) (T := T) (t := t) (s := row (2 + t)) (f := row (9 + t))
          exact ⟨a, b, c⟩
        · obtain ⟨a, b, c⟩ := ptU_j (σ := σ1) (T := T) (s := row (2 + o)) (f := row (9 + o)) e
          rw [a, b, c]
          exact hs t (by omega)
      have ho49 : ∀ z : Sg, z 4 (9 + o) = row (9 + o) → True := fun _ _ => trivial
      have J : ∀ st', st' = up (up σ1 10 o (row (2 + o))) 11 o (row (9 + o)) → PP SHm mX6_standUp 3 67 [vR 0, vI (o : Int)] [] st' (RPn (fun τ => (∀ c, c ≠ 10 → c ≠ 11 → c ≠ 12 → τ c = σ c) ∧ MS τ T (rP row) (rF row))) := by
        intro st' hst'
        subst hst'
        refine PP.aload_n dX6_standUp_67 rfl ?_
        refine PP.iload_n dX6_standUp_68 rfl ?_
        refine PP.callVn (m_setSide hw (s := row (2 + o)) (fun k hk => by rw [up_ne (by decide), up_ne (by decide)]; exact hT1 k hk) ho (by rw [up_ne (by decide), up_at]) (by omega)) dX6_standUp_69 vl_X6_123 sm0 rfl rfl rfl rfl (Nat.le_of_ble_eq_true rfl) (by first | exact Nat.le_of_ble_eq_true rfl | omega) ?_
        refine PP.iinc (L' := [_, _]) dX6_standUp_72 rfl rfl rfl ?_
        refine PP.goto (tgt := 2) dX6_standUp_75 (by decide) ?_
        exact nx
      refine PP.iload_n dX6_standUp_2 rfl ?_
      refine PP.bipush dX6_standUp_3 (by decide) ?_
      refine PP.icmp_ge (tgt := 78) (by first | omega | exact hg _ _ | (unfold R32; omega)) (by first | omega | exact hg _ _ | (unfold R32; omega)) dX6_standUp_5 (by decide) (fun h5 => ?_) (fun h5 => ?_)
      · omega
      · refine PP.aload_n dX6_standUp_8 rfl ?_
        refine PP.getfR dX6_standUp_9 fl_X6_37 sm0 rfl ?_
        refine PP.iload_n dX6_standUp_12 rfl ?_
        refine PP.iload_n dX6_standUp_13 rfl ?_
        refine PP.aload_n dX6_standUp_14 rfl ?_
        refine PP.getfR dX6_standUp_15 fl_X6_13 sm0 rfl ?_
        refine PP.iconst dX6_standUp_18 ?_
        refine PP.ialoadN (n := 3) sm2 (by first | decide | omega) (by first | rfl | omega) (by first | omega | exact hg _ _ | (unfold R32; omega)) dX6_standUp_19 ?_
        refine PP.icmp_ge (tgt := 34) (by first | omega | exact hg _ _ | (unfold R32; omega)) (by first | omega | exact hg _ _ | (unfold R32; omega)) dX6_standUp_20 (by decide) (fun h20 => ?_) (fun h20 => ?_)
        · refine PP.bipush dX6_standUp_34 (by decide) ?_
          refine PP.iastoreN (n := o) sm10 (by first | decide | omega) (by first | rfl | omega) (by first | omega | exact hg _ _ | (unfold R32; omega)) (by first | omega | exact hg _ _ | (unfold R32; omega)) dX6_standUp_36 ?_
          refine PP.aload_n dX6_standUp_37 rfl ?_
          refine PP.getfR dX6_standUp_38 fl_X6_40 sm0 rfl ?_
          refine PP.iload_n dX6_standUp_41 rfl ?_
          refine PP.iload_n dX6_standUp_42 rfl ?_
          refine PP.aload_n dX6_standUp_43 rfl ?_
          refine PP.getfR dX6_standUp_44 fl_X6_13 sm0 rfl ?_
          refine PP.iconst dX6_standUp_47 ?_
          refine PP.ialoadN (n := 3) sm2 (by first | decide | omega) (by first | rfl | omega) (by first | omega | exact hg _ _ | (unfold R32; omega)) dX6_standUp_48 ?_
          refine PP.eqI (y := (n : Int)) (by rw [up_ne (by decide)]; exact t3') ?_
          refine PP.icmp_ge (tgt := 64) (by first | omega | exact hg _ _ | (unfold R32; omega)) (by first | omega | exact hg _ _ | (unfold R32; omega)) dX6_standUp_49 (by decide) (fun h49 => ?_) (fun h49 => ?_)
          · refine PP.bipush dX6_standUp_64 (by decide) ?_
            refine PP.iastoreN (n := o) sm11 (by first | decide | omega) (by first | rfl | omega) (by first | omega | exact hg _ _ | (unfold R32; omega)) (by first | omega | exact hg _ _ | (unfold R32; omega)) dX6_standUp_66 ?_
            exact J _ (by congr 1 <;> first | rfl | omega | (congr 1 <;> omega))
          · refine PP.aload_n dX6_standUp_52 rfl ?_
            refine PP.getfR dX6_standUp_53 fl_X6_19 sm0 rfl ?_
            refine PP.bipush dX6_standUp_56 (by decide) ?_
            refine PP.iload_n dX6_standUp_58 rfl ?_
            refine PP.iadd dX6_standUp_59 ?_
            refine PP.ialoadN (n := (9 + o)) sm4 (by first | decide | omega) (by first | rfl | omega) (by first | omega | exact hg _ _ | (unfold R32; omega)) dX6_standUp_60 ?_
            refine PP.eqI (y := row (9 + o)) (by rw [up_ne (by decide)]; exact n2) ?_
            refine PP.goto (tgt := 66) dX6_standUp_61 (by decide) ?_
            refine PP.iastoreN (n := o) sm11 (by first | decide | omega) (by first | rfl | omega) (by first | omega | exact hg _ _ | (unfold R32; omega)) (by first | omega | exact hg _ _ | (unfold R32; omega)) dX6_standUp_66 ?_
            exact J _ (by congr 1 <;> first | rfl | omega | (congr 1 <;> omega))
        · refine PP.aload_n dX6_standUp_23 rfl ?_
          refine PP.getfR dX6_standUp_24 fl_X6_19 sm0 rfl ?_
          refine PP.iconst dX6_standUp_27 ?_
          refine PP.iload_n dX6_standUp_28 rfl ?_
          refine PP.iadd dX6_standUp_29 ?_
          refine PP.ialoadN (n := (2 + o)) sm4 (by first | decide | omega) (by first | rfl | omega) (by first | omega | exact hg _ _ | (unfold R32; omega)) dX6_standUp_30 ?_
          refine PP.goto (tgt := 36) dX6_standUp_31 (by decide) ?_
          refine PP.iastoreN (n := o) sm10 (by first | decide | omega) (by first | rfl | omega) (by first | omega | exact hg _ _ | (unfold R32; omega)) (by first | omega | exact hg _ _ | (unfold R32; omega)) dX6_standUp_36 ?_
          refine PP.aload_n dX6_standUp_37 rfl ?_
          refine PP.getfR dX6_standUp_38 fl_X6_40 sm0 rfl ?_
          refine PP.iload_n dX6_standUp_41 rfl ?_
          refine PP.iload_n dX6_standUp_42 rfl ?_
          refine PP.aload_n dX6_standUp_43 rfl ?_
          refine PP.getfR dX6_standUp_44 fl_X6_13 sm0 rfl ?_
          refine PP.iconst dX6_standUp_47 ?_
          refine PP.ialoadN (n := 3) sm2 (by first | decide | omega) (by first | rfl | omega) (by first | omega | exact hg _ _ | (unfold R32; omega)) dX6_standUp_48 ?_
          refine PP.eqI (y := (n : Int)) (by rw [up_ne (by decide)]; exact t3') ?_
          refine PP.icmp_ge (tgt := 64) (by first | omega | exact hg _ _ | (unfold R32; omega)) (by first | omega | exact hg _ _ | (unfold R32; omega)) dX6_standUp_49 (by decide) (fun h49 => ?_) (fun h49 => ?_)
          · refine PP.bipush dX6_standUp_64 (by decide) ?_
            refine PP.iastoreN (n := o) sm11 (by first | decide | omega) (by first | rfl | omega) (by first | omega | exact hg _ _ | (unfold R32; omega)) (by first | omega | exact hg _ _ | (unfold R32; omega)) dX6_standUp_66 ?_
            exact J _ (by congr 1 <;> first | rfl | omega | (congr 1 <;> omega))
          · refine PP.aload_n dX6_standUp_52 rfl ?_
            refine PP.getfR dX6_standUp_53 fl_X6_19 sm0 rfl ?_
            refine PP.bipush dX6_standUp_56 (by decide) ?_
            refine PP.iload_n dX6_standUp_58 rfl ?_
            refine PP.iadd dX6_standUp_59 ?_
            refine PP.ialoadN (n := (9 + o)) sm4 (by first | decide | omega) (by first | rfl | omega) (by first | omega | exact hg _ _ | (unfold R32; omega)) dX6_standUp_60 ?_
            refine PP.eqI (y := row (9 + o)) (by rw [up_ne (by decide)]; exact n2) ?_
            refine PP.goto (tgt := 66) dX6_standUp_61 (by decide) ?_
            refine PP.iastoreN (n := o) sm11 (by first | decide | omega) (by first | rfl | omega) (by first | omega | exact hg _ _ | (unfold R32; omega)) (by first | omega | exact hg _ _ | (unfold R32; omega)) dX6_standUp_66 ?_
            exact J _ (by congr 1 <;> first | rfl | omega | (congr 1 <;> omega))
  refine PP.iconst dX6_standUp_0 ?_
  refine PP.istore_n (L' := [_, _]) dX6_standUp_1 (Nat.le_of_ble_eq_true rfl) rfl rfl ?_
  exact key 0 (by omega) σ (fun c _ _ _ => rfl) (fun t ht => by omega)
