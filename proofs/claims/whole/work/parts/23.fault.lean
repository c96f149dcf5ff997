/-! the whole text, read by the component -/
def T0 : Nat → Int := fun j => if j = 0 then 12 else if j = 1 then 5 else if j = 2 then 6 else if j < 32 then 0 else 10
def row0 : Nat → Int := fun j => if j = 0 then 5 else if j = 1 then 0 else -4
def RS0 : RS := (T0, 0, row0, true)
theorem wfS_0 : wfS RS0 := by
  refine ⟨⟨rfl, by decide, by decide, by decide, by decide, fun t ht => absurd ht (Nat.not_lt_zero t), fun h hh => ?_⟩, ⟨fun t ht => absurd ht (Nat.not_lt_zero t), fun t _ _ => ?_⟩, by decide, rfl, fun _ => rfl⟩
  · have : T0 (32 + h) = 10 := by unfold T0; rw [if_neg (by omega), if_neg (by omega), if_neg (by omega), if_neg (by omega)]
    show 1 ≤ T0 (32 + h) ∧ T0 (32 + h) ≤ 99
    omega
  · show row0 (2 + t) = -4 ∧ row0 (9 + t) = -4
    unfold row0
    rw [if_neg (by omega), if_neg (by omega), if_neg (by omega), if_neg (by omega)]
    exact ⟨rfl, rfl⟩
/-- the answer v of reading from the place at on (-4: no fault, and y is what was read) -/
def rdA (x : Nat → Int) (b : Nat) : Nat → Nat → RS → Int → RS → Prop
  | 0, _, st, v, y => v = -4 ∧ y = st
  | k + 1, i, st, v, y => (b ≤ i ∧ v = -4 ∧ y = st) ∨ (i < b ∧ ((rdN x (b - (i + 1)) (i + 1) [] 0 0 = none ∧ v = (i : Int)) ∨ ∃ ns nx, rdN x (b - (i + 1)) (i + 1) [] 0 0 = some (ns, nx) ∧ ((v = (i : Int) ∧ ∀ y', ¬ itS (x i) ns st y') ∨ ∃ st', itS (x i) ns st st' ∧ rdA x b k nx st' v y)))
theorem itS_fun {c : Int} {ns : List Int} {x y z : RS} (h1 : itS c ns x y) (h2 : itS c ns x z) : y = z := by
  rcases h1 with ⟨q, a, b, e, -, rfl⟩ | ⟨q, a, b, c', d, e, -, rfl⟩ | ⟨q, a, b, c', e, -, rfl⟩ | ⟨q, a, e, -, rfl⟩ | ⟨q, a, e, -, rfl⟩ | ⟨q, a, b, e, -, rfl⟩ <;>
  rcases h2 with ⟨q', a', b', e', -, rfl⟩ | ⟨q', a', b', c'', d', e', -, rfl⟩ | ⟨q', a', b', c'', e', -, rfl⟩ | ⟨q', a', e', -, rfl⟩ | ⟨q', a', e', -, rfl⟩ | ⟨q', a', b', e', -, rfl⟩ <;>
  first
    | omega
    | (rw [e] at e'; cases e'; rfl)
theorem rdA_fun {x : Nat → Int} {b : Nat} : ∀ (k i : Nat) (st : RS) (v w : Int) (y z : RS), rdA x b k i st v y → rdA x b k i st w z → v = w ∧ (v = -4 → y = z)
  | 0, i, st, v, w, y, z, h1, h2 => by
    obtain ⟨rfl, rfl⟩ := h1
    obtain ⟨rfl, rfl⟩ := h2
    exact ⟨rfl, fun _ => rfl⟩
  | k + 1, i, st, v, w, y, z, h1, h2 => by
    rw [rdA] at h1 h2
    rcases h1 with ⟨a1, rfl, rfl⟩ | ⟨a1, h1⟩
    · rcases h2 with ⟨a2, rfl, rfl⟩ | ⟨a2, h2⟩
      · exact ⟨rfl, fun _ => rfl⟩
      · omega
    · rcases h2 with ⟨a2, rfl, rfl⟩ | ⟨a2, h2⟩
      · omega
      · rcases h1 with ⟨e1, rfl⟩ | ⟨ns, nx, e1, h1⟩
        · rcases h2 with ⟨e2, rfl⟩ | ⟨ms, mx, e2, h2⟩
          · exact ⟨rfl, fun q => by omega⟩
          · rw [e1] at e2; cases e2
        · rcases h2 with ⟨e2, rfl⟩ | ⟨ms, mx, e2, h2⟩
          · rw [e1] at e2; cases e2
          · rw [e1] at e2
            cases e2
            rcases h1 with ⟨rfl, n1⟩ | ⟨s1, i1, r1⟩
            · rcases h2 with ⟨rfl, n2⟩ | ⟨s2, i2, r2⟩
              · exact ⟨rfl, fun q => by omega⟩
              · exact absurd i2 (n1 s2)
            · rcases h2 with ⟨rfl, n2⟩ | ⟨s2, i2, r2⟩
              · exact absurd i1 (n2 s1)
              · have := itS_fun i1 i2
                subst this
                exact rdA_fun k _ _ _ _ _ _ r1 r2
def flU (σ : Sg) (c : Nat) (z : Int) : Nat → Sg
  | 0 => σ
  | k + 1 => up (flU σ c z k) c k z
theorem flU_ne {σ : Sg} {c c' : Nat} {z : Int} (h : c' ≠ c) : ∀ k, flU σ c z k c' = σ c'
  | 0 => rfl
  | k + 1 => by rw [flU, up_ne h, flU_ne h k]
theorem flU_in {σ : Sg} {c : Nat} {z : Int} : ∀ k j, j < k → flU σ c z k c j = z
  | 0, j, h => by omega
  | k + 1, j, h => by
    rw [flU]
    by_cases e : j = k
    · subst e; exact up_at
    · rw [up_j e]; exact flU_in k j (by omega)
theorem ok_fill {σ : Sg} {q : Nat} {z : Int} (hk : DK q) (hz : R32 z) : OK SHc mJ7_fill 1 [vR (q + 5), vI z] σ (RN (flU σ (q + 5) z 24)) := by
  obtain ⟨hq0, hq1, hq2, hq3, hq4, hq5⟩ := hk
  refine OK.enterF (L' := [vR (q + 5), vI z, vN, vN]) (by decide +kernel) (by simp [ent0]) rfl ?_
  have key : ∀ o : Nat, o ≤ 24 → PP SHc mJ7_fill 1 5 [vR (q + 5), vI z, vI (o : Int), vI 24] [] (flU σ (q + 5) z o) (RN (flU σ (q + 5) z 24)) := by
    refine loop_dn 24 ?_ ?_
    · refine PP.iload_n dJ7_fill_53178_5 rfl ?_
      refine PP.iload_n dJ7_fill_53178_6 rfl ?_
      refine PP.icmp_ge (tgt := 20) (by first | omega | (unfold R32; omega)) (by first | omega | (unfold R32; omega)) dJ7_fill_53178_7 (by decide) (fun h7 => ?_) (fun h7 => ?_)
      · refine PP.vret dJ7_fill_53178_20 rfl ?_
        exact ⟨rfl, rfl⟩
      · omega
    · intro o ho ih
      refine PP.iload_n dJ7_fill_53178_5 rfl ?_
      refine PP.iload_n dJ7_fill_53178_6 rfl ?_
      refine PP.icmp_ge (tgt := 20) (by first | omega | assumption | (unfold R32; omega)) (by first | omega | assumption | (unfold R32; omega)) dJ7_fill_53178_7 (by decide) (fun h7 => ?_) (fun h7 => ?_)
      · omega
      · refine PP.aload_n dJ7_fill_53178_10 rfl ?_
        refine PP.iload_n dJ7_fill_53178_11 rfl ?_
        refine PP.iload_n dJ7_fill_53178_12 rfl ?_
        refine PP.iastoreN (n := o) hq5 (by first | decide | omega) (by first | rfl | omega) (by first | omega | assumption | (unfold R32; omega)) (by first | omega | assumption | (unfold R32; omega)) dJ7_fill_53178_13 ?_
        refine PP.iinc (L' := [_, _, _, _]) dJ7_fill_53178_14 rfl rfl rfl ?_
        refine PP.goto (tgt := 5) dJ7_fill_53178_17 (by decide) ?_
        exact ih
  refine PP.iconst dJ7_fill_53178_0 ?_
  refine PP.istore_n (L' := [_, _, _, _]) dJ7_fill_53178_1 (Nat.le_of_ble_eq_true rfl) rfl rfl ?_
  refine PP.aload_n dJ7_fill_53178_2 rfl ?_
  refine PP.alen hq5 dJ7_fill_53178_3 ?_
  refine PP.istore_n (L' := [_, _, _, _]) dJ7_fill_53178_4 (Nat.le_of_ble_eq_true rfl) rfl rfl ?_
  exact key 0 (by omega)
theorem ok_dBegin {σ : Sg} {q : Nat} (hk : DK q) : OK SHc mX0_begin 2 [vR q] σ (RPn (fun τ => (∀ c, c ≠ q → c ≠ q + 5 → τ c = σ c) ∧ DR τ q T0 0)) := by
  obtain ⟨hq0, hq1, hq2, hq3, hq4, hq5⟩ := id hk
  refine OK.enter (L' := [vR q]) (by decide +kernel) (by simp [ent0]) rfl ?_
  refine PP.aload_n dX0_begin_0 rfl ?_
  refine PP.bipush dX0_begin_1 (by decide) ?_
  refine PP.putI dX0_begin_3 fp_X0_27 hq0 rfl (by first | omega | (unfold R32; omega)) ?_
  refine PP.aload_n dX0_begin_6 rfl ?_
  refine PP.iconst dX0_begin_7 ?_
  refine PP.putI dX0_begin_8 fp_X0_31 hq0 rfl (by first | omega | (unfold R32; omega)) ?_
  refine PP.aload_n dX0_begin_11 rfl ?_
  refine PP.bipush dX0_begin_12 (by decide) ?_
  refine PP.putI dX0_begin_14 fp_X0_34 hq0 rfl (by first | omega | (unfold R32; omega)) ?_
  refine PP.aload_n dX0_begin_17 rfl ?_
  refine PP.iconst dX0_begin_18 ?_
  refine PP.putI dX0_begin_19 fp_X0_37 hq0 rfl (by first | omega | (unfold R32; omega)) ?_
  refine PP.aload_n dX0_begin_22 rfl ?_
  refine PP.getfR dX0_begin_23 fl_X0_24 hq0 rfl ?_
  refine PP.bipush dX0_begin_26 (by decide) ?_
  refine PP.callSn (ok_fill hk (by unfold R32; omega)) dX0_begin_28 sl_X0_40 rfl rfl (Nat.le_of_ble_eq_true rfl) (Nat.le_of_ble_eq_true rfl) ?_
  refine PP.vret dX0_begin_31 rfl ?_
  refine ⟨rfl, fun c h0 h1 => ?_, ⟨?_, ?_, ?_, ?_, fun t ht => absurd ht (Nat.not_lt_zero t), fun h hh => ?_⟩⟩
  · rw [flU_ne h1, up_ne h0, up_ne h0, up_ne h0, up_ne h0]
  · rw [flU_ne (by omega), up_j (by decide), up_j (by decide), up_j (by decide), up_at]; rfl
  · rw [flU_ne (by omega), up_j (by decide), up_j (by decide), up_at]; rfl
  · rw [flU_ne (by omega), up_j (by decide), up_at]; rfl
  · rw [flU_ne (by omega), up_at]; rfl
  · rw [flU_in 24 h hh]
    unfold T0
    rw [if_neg (by omega), if_neg (by omega), if_neg (by omega), if_neg (by omega)]
theorem ok_rBegin {σ : Sg} : OK SHc mX3_begin 3 [vR 2] σ (RPn (fun τ => (∀ k, k < 2 ∨ 13 < k → τ k = σ k) ∧ RdC τ RS0)) := by
  refine OK.enter (L' := [vR 2]) (by decide +kernel) (by simp [ent0]) rfl ?_
  refine PP.aload_n dX3_begin_0 rfl ?_
  refine PP.getfR dX3_begin_1 fl_X3_12 sc2 rfl ?_
  refine PP.callVnP (ok_dBegin DK3) dX3_begin_4 vl_X3_48 sc3 rfl rfl rfl rfl (Nat.le_of_ble_eq_true rfl) (Nat.le_of_ble_eq_true rfl) (fun τ4 hq4 => ?_)
  obtain ⟨h41, h42⟩ := hq4
  refine PP.aload_n dX3_begin_7 rfl ?_
  refine PP.getfR dX3_begin_8 fl_X3_23 sc2 rfl ?_
  refine PP.callVn (ok_leaveAll RK9) dX3_begin_11 vl_X3_49 sc9 rfl rfl rfl rfl (Nat.le_of_ble_eq_true rfl) (Nat.le_of_ble_eq_true rfl) ?_
  refine PP.aload_n dX3_begin_14 rfl ?_
  refine PP.getfR dX3_begin_15 fl_X3_23 sc2 rfl ?_
  refine PP.iconst dX3_begin_18 ?_
  refine PP.putI dX3_begin_19 fp_X3_52 sc9 rfl (by first | omega | (unfold R32; omega)) ?_
  refine PP.aload_n dX3_begin_22 rfl ?_
  refine PP.getfR dX3_begin_23 fl_X3_23 sc2 rfl ?_
  refine PP.iconst dX3_begin_26 ?_
  refine PP.putI dX3_begin_27 fp_X3_56 sc9 rfl (by first | omega | (unfold R32; omega)) ?_
  refine PP.aload_n dX3_begin_30 rfl ?_
  refine PP.iconst dX3_begin_31 ?_
  refine PP.putZ dX3_begin_32 fp_X3_59 sc2 rfl (by first | omega | (unfold R32; omega)) ?_
  refine PP.vret dX3_begin_35 rfl ?_
  refine ⟨rfl, fun k hk => ?_, ⟨?_, ⟨fun t ht => ?_, ?_, ?_⟩, ?_⟩⟩
  · rw [up_ne (by omega), up_ne (by omega), up_ne (by omega), lvU_ne (by omega) (by omega) (by omega), h41 k (by omega) (by omega)]
  · exact DR_cong h42 (fun c _ _ => by rw [up_ne (by omega), up_ne (by omega), up_ne (by omega), lvU_ne (by omega) (by omega) (by omega)])
  · obtain ⟨a1, a2, a3⟩ := lvU_in (σ := τ4) (r := 9) 7 t ht
    rw [up_ne (by omega), up_ne (by omega), up_ne (by omega), up_ne (by omega), up_ne (by omega), up_ne (by omega), up_ne (by omega), up_ne (by omega), up_ne (by omega), a1, a2, a3]
    have : row0 (2 + t) = -4 := by unfold row0; rw [if_neg (by omega), if_neg (by omega)]
    simp [RS0, this, sdC]
  · rw [up_ne (by omega), up_j (by decide), up_at]; rfl
  · rw [up_ne (by omega), up_at]; rfl
  · rw [up_at]; rfl
theorem rdN_init {x : Nat → Int} {k i : Nat} {ms : List Int} {nx : Nat} (h : rdN x k i [] 0 0 = some (ms, nx)) : (∀ z ∈ ms, 0 ≤ z ∧ z ≤ 99) ∧ i < nx ∧ nx ≤ i + k ∧ ms.length ≤ 4 := by
  have := rdN_ok k i [] 0 0 ms nx h (by simp) (by simp) (by omega) (by simp)
  exact ⟨this.1, this.2.1, this.2.2.1, this.2.2.2.1⟩
theorem RP_R {σ τ : Sg} {v : Int} {b fr : Nat} (hb : b ≤ 200) (hfr : fr ≤ 200) (h : (rdN (σ 1) (b - fr) fr [] 0 0 = none ∧ v = -1) ∨ ∃ ns nx, rdN (σ 1) (b - fr) fr [] 0 0 = some (ns, nx) ∧ v = (nx : Nat) ∧ NRd τ ns) : -1 ≤ v ∧ v ≤ 400 := by
  rcases h with ⟨-, rfl⟩ | ⟨ns, nx, h1, rfl, -⟩
  · omega
  · have := rdN_init h1; omega
theorem ok_findFault {σ : Sg} {b : Nat} (hb : b ≤ 200) (hx : ∀ j, j < b → 0 ≤ σ 1 j ∧ σ 1 j ≤ 127) : OK SHc mX3_findFault 6 [vR 2, vR 1, vI (b : Int)] σ (RP (fun v τ => (∀ k, k < 2 ∨ 13 < k → τ k = σ k) ∧ ∃ y, rdA (σ 1) b 200 0 RS0 v y ∧ (v = -4 → RdC τ y ∧ wfS y))) := by
  refine OK.enter (L' := [vR 2, vR 1, vI (b : Int), vN, vN, vN, vN]) (by decide +kernel) (by simp [ent0]) rfl ?_
  have key : ∀ (k o i : Nat) (σ1 : Sg) (st : RS), o + k = 200 → (∀ k, k < 2 ∨ 13 < k → σ1 k = σ k) → RdC σ1 st → wfS st → i ≤ b → (∀ v y, rdA (σ 1) b k i st v y → rdA (σ 1) b 200 0 RS0 v y) → PP SHc mX3_findFault 6 17 [vR 2, vR 1, vI (b : Int), vI (b : Int), vI (i : Int), vI (o : Int), vN] [] σ1 (RP (fun v τ => (∀ k, k < 2 ∨ 13 < k → τ k = σ k) ∧ ∃ y, rdA (σ 1) b 200 0 RS0 v y ∧ (v = -4 → RdC τ y ∧ wfS y))) := by
    intro k
    induction k with
    | zero =>
      intro o i σ1 st ho hfr hr hw hi he
      refine PP.iload dX3_findFault_17 rfl ?_
      refine PP.sipush dX3_findFault_19 (by decide) ?_
      refine PP.icmp_ge (tgt := 72) (by first | omega | (unfold R32; omega)) (by first | omega | (unfold R32; omega)) dX3_findFault_22 (by decide) (fun h22 => ?_) (fun h22 => ?_)
      · refine PP.bipush dX3_findFault_72 (by decide) ?_
        refine PP.iret dX3_findFault_74 rfl ?_
        exact ⟨_, rfl, hfr, st, he _ _ ⟨rfl, rfl⟩, fun _ => ⟨hr, hw⟩⟩
      · omega
    | succ k ih =>
      intro o i σ1 st ho hfr hr hw hi he
      have e1 : σ1 1 = σ 1 := hfr 1 (by omega)
      have hx1 : ∀ j, j < b → 0 ≤ σ1 1 j ∧ σ1 1 j ≤ 127 := fun j hj => by rw [e1]; exact hx j hj
      refine PP.iload dX3_findFault_17 rfl ?_
      refine PP.sipush dX3_findFault_19 (by decide) ?_
      refine PP.icmp_ge (tgt := 72) (by first | omega | (unfold R32; omega)) (by first | omega | (unfold R32; omega)) dX3_findFault_22 (by decide) (fun h22 => ?_) (fun h22 => ?_)
      · omega
      · refine PP.iload dX3_findFault_25 rfl ?_
        refine PP.iload_n dX3_findFault_27 rfl ?_
        refine PP.icmp_ge (tgt := 72) (by first | omega | (unfold R32; omega)) (by first | omega | (unfold R32; omega)) dX3_findFault_28 (by decide) (fun h28 => ?_) (fun h28 => ?_)
        · refine PP.bipush dX3_findFault_72 (by decide) ?_
          refine PP.iret dX3_findFault_74 rfl ?_
          exact ⟨_, rfl, hfr, st, he _ _ (Or.inl ⟨by omega, rfl, rfl⟩), fun _ => ⟨hr, hw⟩⟩
        · refine PP.aload_n dX3_findFault_31 rfl ?_
          refine PP.aload_n dX3_findFault_32 rfl ?_
          refine PP.iload dX3_findFault_33 rfl ?_
          refine PP.iconst dX3_findFault_35 ?_
          refine PP.iadd dX3_findFault_36 ?_
          refine PP.iload_n dX3_findFault_37 rfl ?_
          refine PP.callViP (ok_readNumbers (b := b) (fr := i + 1) hb hx1 (by omega)) dX3_findFault_38 vl_X3_40 sc2 rfl rfl rfl rfl (Nat.le_of_ble_eq_true rfl) (Nat.le_of_ble_eq_true rfl) (fun v38 τ38 hq38 => ?_)
          obtain ⟨q1, q2, q3⟩ := hq38
          have qr := RP_R hb (by omega) q3
          refine PP.istore (L' := [_, _, _, _, _, _, _]) dX3_findFault_41 (Nat.le_of_ble_eq_true rfl) rfl rfl ?_
          refine PP.iload dX3_findFault_43 rfl ?_
          refine PP.if_lt (tgt := 59) (by first | omega | (unfold R32; omega)) dX3_findFault_45 (by decide) (fun h45 => ?_) (fun h45 => ?_)
          · refine PP.iload dX3_findFault_59 rfl ?_
            refine PP.iret dX3_findFault_61 rfl ?_
            refine ⟨_, rfl, fun k hk => by rw [q1 k (by omega) (by omega)]; exact hfr k hk, st, he _ _ (Or.inr ⟨by omega, Or.inl ⟨?_, rfl⟩⟩), fun h => by omega⟩
            rcases q3 with ⟨q4, -⟩ | ⟨ns, nx, -, q5, -⟩
            · rw [← e1]; exact q4
            · omega
          · obtain ⟨ns, nx, q4, q5, q6⟩ := q3.resolve_left (fun q => by omega)
            subst q5
            obtain ⟨p1, p2, p3, p4⟩ := rdN_init q4
            have e38 : τ38 1 = σ 1 := (q1 1 (by decide) (by decide)).trans e1
            have hr38 : RdC τ38 st := ⟨DR_cong hr.1 (fun c _ _ => q1 c (by omega) (by omega)), RW_cong hr.2.1 (fun c _ _ => q1 c (by omega) (by omega)), q2.trans hr.2.2⟩
            have hxi := hx i (by omega)
            refine PP.aload_n dX3_findFault_48 rfl ?_
            refine PP.aload_n dX3_findFault_49 rfl ?_
            refine PP.iload dX3_findFault_50 rfl ?_
            refine PP.ialoadN (n := i) sc1 (by first | decide | omega) (by first | rfl | omega) (by first | omega | (unfold R32; omega)) dX3_findFault_52 ?_
            refine PP.eqI (y := σ 1 i) (by rw [e38]) ?_
            refine PP.callViP (ok_take (c := σ 1 i) hw hr38 q6 p1 p4 hxi) dX3_findFault_53 vl_X3_44 sc2 rfl rfl rfl rfl (Nat.le_of_ble_eq_true rfl) (Nat.le_of_ble_eq_true rfl) (fun v53 τ53 hq53 => ?_)
            obtain ⟨r1, r2⟩ := hq53
            refine PP.if_ne (tgt := 62) (by first | omega | (unfold R32; omega)) dX3_findFault_56 (by decide) (fun h56 => ?_) (fun h56 => ?_)
            · refine PP.iload dX3_findFault_62 rfl ?_
              refine PP.istore (L' := [_, _, _, _, _, _, _]) dX3_findFault_64 (Nat.le_of_ble_eq_true rfl) rfl rfl ?_
              refine PP.iinc (L' := [_, _, _, _, _, _, _]) dX3_findFault_66 rfl rfl rfl ?_
              refine PP.goto (tgt := 17) dX3_findFault_69 (by decide) ?_
              refine PP.frg 6 (L' := [_, _, _, _, _, _, _]) rfl ?_
              rcases r2 with ⟨r3, -⟩ | ⟨-, y, r4, r5⟩
              · omega
              · refine ih (o + 1) nx _ y (by omega) (fun k hk => by rw [r1 k hk, q1 k (by omega) (by omega)]; exact hfr k hk) r5 (wfS_it r4 hw p1) (by omega) (fun v y' h => ?_)
                exact he v y' (Or.inr ⟨by omega, Or.inr ⟨ns, nx, by rw [← e1]; exact q4, Or.inr ⟨y, r4, h⟩⟩⟩)
            · refine PP.iload dX3_findFault_59 rfl ?_
              refine PP.iret dX3_findFault_61 rfl ?_
              refine ⟨_, rfl, fun k hk => by rw [r1 k hk, q1 k (by omega) (by omega)]; exact hfr k hk, st, he _ _ (Or.inr ⟨by omega, Or.inr ⟨ns, nx, by rw [← e1]; exact q4, Or.inl ⟨rfl, ?_⟩⟩⟩), fun h => by omega⟩
              rcases r2 with ⟨-, r3⟩ | ⟨r3, -⟩
              · exact r3
              · omega
  refine PP.aload_n dX3_findFault_0 rfl ?_
  refine PP.callVnP (ok_rBegin) dX3_findFault_1 vl_X3_31 sc2 rfl rfl rfl rfl (Nat.le_of_ble_eq_true rfl) (Nat.le_of_ble_eq_true rfl) (fun τ1 hq1 => ?_)
  obtain ⟨g1, g2⟩ := hq1
  refine PP.iload_n dX3_findFault_4 rfl ?_
  refine PP.aload_n dX3_findFault_5 rfl ?_
  refine PP.alen sc1 dX3_findFault_6 ?_
  refine PP.callSi (ok_min (x := (b : Int)) (y := 200) (by unfold R32; omega) (by unfold R32; omega)) dX3_findFault_7 sl_X3_34 rfl rfl (Nat.le_of_ble_eq_true rfl) (Nat.le_of_ble_eq_true rfl) ?_
  refine PP.eqI (y := (b : Int)) (by rw [if_neg (by omega)]) ?_
  refine PP.istore_n (L' := [_, _, _, _, _, _, _]) dX3_findFault_10 (Nat.le_of_ble_eq_true rfl) rfl rfl ?_
  refine PP.iconst dX3_findFault_11 ?_
  refine PP.istore (L' := [_, _, _, _, _, _, _]) dX3_findFault_12 (Nat.le_of_ble_eq_true rfl) rfl rfl ?_
  refine PP.iconst dX3_findFault_14 ?_
  refine PP.istore (L' := [_, _, _, _, _, _, _]) dX3_findFault_15 (Nat.le_of_ble_eq_true rfl) rfl rfl ?_
  exact key 200 0 0 _ RS0 (by omega) g1 g2 wfS_0 (by omega) (fun _ _ h => h)
