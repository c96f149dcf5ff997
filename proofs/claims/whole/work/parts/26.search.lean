/-! the component's search through orders -/
def BL (τ : Sg) (c : Nat) (l : List Nat) : Prop := ∀ (i u : Nat), l[i]? = some u → τ c i = (u : Int)
theorem flt_len (lf : Nat → Bool) : ∀ o, ((List.range o).filter lf).length = cnt lf o
  | 0 => rfl
  | o + 1 => by
    rw [List.range_succ, List.filter_append, List.length_append, flt_len lf o]
    simp only [cnt]
    cases h : lf o <;> simp [h]
theorem flt_s1 {lf : Nat → Bool} {o : Nat} (h : lf o = true) : (List.range (o + 1)).filter lf = (List.range o).filter lf ++ [o] := by
  rw [List.range_succ, List.filter_append]; simp [h]
theorem flt_s0 {lf : Nat → Bool} {o : Nat} (h : lf o = false) : (List.range (o + 1)).filter lf = (List.range o).filter lf := by
  rw [List.range_succ, List.filter_append]; simp [h]
theorem flt_ext {lf : Nat → Bool} {n m : Nat} (h : ∀ u, n ≤ u → u < m → lf u = false) (hn : n ≤ m) : (List.range m).filter lf = (List.range n).filter lf := by
  obtain ⟨k, rfl⟩ : ∃ k, m = n + k := ⟨m - n, by omega⟩
  clear hn
  induction k with
  | zero => rfl
  | succ k ih =>
    rw [show n + (k + 1) = n + k + 1 by omega, flt_s0 (h (n + k) (by omega) (by omega))]
    exact ih (fun u h1 h2 => h u h1 (by omega))
theorem cnt_full {p : Nat → Bool} {n m : Nat} (hm : m ≤ n) (h : cnt p m = cnt p n) : ∀ u, m ≤ u → u < n → p u = false := by
  obtain ⟨k, rfl⟩ : ∃ k, n = m + k := ⟨n - m, by omega⟩
  clear hm
  induction k with
  | zero => intro u h1 h2; omega
  | succ k ih =>
    rw [show m + (k + 1) = m + k + 1 by omega] at h ⊢
    have hle : cnt p m ≤ cnt p (m + k) := by
      clear ih h
      induction k with
      | zero => exact Nat.le_refl _
      | succ k ih => rw [show m + (k + 1) = m + k + 1 by omega]; simp only [cnt]; split <;> omega
    simp only [cnt] at h
    intro u h1 h2
    by_cases hp : p (m + k) = true
    · rw [if_pos hp] at h; omega
    · rw [if_neg hp] at h
      by_cases e : u = m + k
      · subst e; simpa using hp
      · exact ih (by omega) u h1 (by omega)
theorem ok_settle {σ : Sg} {n c : Nat} {T : Nat → Int} {pre : List Nat} {lf : Nat → Bool} (hw : wfT T n) (hD : DR σ 14 T n) (hpre : BL σ 33 pre) (hl : pre.length + cnt lf n ≤ 7) (hc : c ≤ 7) : OK SHc mX1_settle 2 [vR 28, vI (pre.length : Int), vI (msk lf n : Nat), vI (c : Int)] σ (RPn (fun τ => (∀ k, k ≠ 28 → k ≠ 34 → τ k = σ k) ∧ (∀ j, j ≠ 6 → τ 28 j = σ 28 j) ∧ τ 28 6 = (c : Int) ∧ BL τ 34 (pre ++ (List.range n).filter lf))) := by
  have hn7 := hw.2.1
  refine OK.enter (L' := [vR 28, vI (pre.length : Int), vI (msk lf n : Nat), vI (c : Int), vN, vN]) (by decide +kernel) (by simp [ent0]) rfl ?_
  have key : ∀ o, o ≤ n → ∀ σ1 : Sg, (∀ k, k ≠ 28 → k ≠ 34 → σ1 k = σ k) → (∀ j, j ≠ 6 → σ1 28 j = σ 28 j) → σ1 28 6 = (c : Int) → BL σ1 34 (pre ++ (List.range o).filter lf) → PP SHc mX1_settle 2 30 [vR 28, vI (pre.length : Int), vI (msk lf n : Nat), vI (c : Int), vI ((pre.length + cnt lf o : Nat) : Int), vI (o : Int)] [] σ1 (RPn (fun τ => (∀ k, k ≠ 28 → k ≠ 34 → τ k = σ k) ∧ (∀ j, j ≠ 6 → τ 28 j = σ 28 j) ∧ τ 28 6 = (c : Int) ∧ BL τ 34 (pre ++ (List.range n).filter lf))) := by
    refine loop_dn n ?_ ?_
    · intro σ1 f1 f2 f3 f4
      have d3 : σ1 14 3 = (n : Int) := by rw [f1 14 (by decide) (by decide)]; exact hD.2.2.2.1
      refine PP.iload dX1_settle_30 rfl ?_
      refine PP.aload_n dX1_settle_32 rfl ?_
      refine PP.getfR dX1_settle_33 fl_X1_18 sc28 rfl ?_
      refine PP.getfI dX1_settle_36 fl_X1_46 sc14 rfl ?_
      refine PP.icmp_ge (tgt := 77) (by first | omega | (unfold R32; omega)) (by first | omega | (unfold R32; omega)) dX1_settle_39 (by decide) (fun h39 => ?_) (fun h39 => ?_)
      · refine PP.vret dX1_settle_77 rfl ?_
        exact ⟨rfl, f1, f2, f3, f4⟩
      · omega
    · intro o hon ih σ1 f1 f2 f3 f4
      have d3 : σ1 14 3 = (n : Int) := by rw [f1 14 (by decide) (by decide)]; exact hD.2.2.2.1
      have hco : cnt lf o ≤ cnt lf n := by
        have : cnt lf o = cnt (fun u => decide (u < o) && lf u) n := by
          rw [cnt_ext (n := o) (m := n) (fun u h1 h2 => by simp; omega) (by omega)]
          exact cnt_cong (fun u hu => by simp [hu])
        rw [this]
        exact cnt_mono (fun u _ h => by rw [Bool.and_eq_true] at h; exact h.2)
      refine PP.iload dX1_settle_30 rfl ?_
      refine PP.aload_n dX1_settle_32 rfl ?_
      refine PP.getfR dX1_settle_33 fl_X1_18 sc28 rfl ?_
      refine PP.getfI dX1_settle_36 fl_X1_46 sc14 rfl ?_
      refine PP.icmp_ge (tgt := 77) (by first | omega | exact b2i_R _ | (unfold R32; omega)) (by first | omega | exact b2i_R _ | (unfold R32; omega)) dX1_settle_39 (by decide) (fun h39 => ?_) (fun h39 => ?_)
      · omega
      · refine PP.iload dX1_settle_42 rfl ?_
        refine PP.bipush dX1_settle_44 (by decide) ?_
        refine PP.icmp_ge (tgt := 77) (by first | omega | exact b2i_R _ | (unfold R32; omega)) (by first | omega | exact b2i_R _ | (unfold R32; omega)) dX1_settle_46 (by decide) (fun h46 => ?_) (fun h46 => ?_)
        · refine PP.vret dX1_settle_77 rfl ?_
          have hfull : cnt lf o = cnt lf n := by omega
          refine ⟨rfl, f1, f2, f3, ?_⟩
          rw [flt_ext (cnt_full (by omega) hfull) (by omega)]
          exact f4
        · refine PP.iload_n dX1_settle_49 rfl ?_
          refine PP.iload dX1_settle_50 rfl ?_
          refine PP.ishrR (z := ((msk lf n / 2 ^ o) : Nat)) (shr_msk hn7 (by omega)) dX1_settle_52 ?_
          refine PP.iconst dX1_settle_53 ?_
          refine PP.iandR (z := (b2i (lf o))) (and_bit hon) dX1_settle_54 ?_
          refine PP.iconst dX1_settle_55 ?_
          refine PP.icmp_ne (tgt := 71) (by first | omega | exact b2i_R _ | (unfold R32; omega)) (by first | omega | exact b2i_R _ | (unfold R32; omega)) dX1_settle_56 (by decide) (fun h56 => ?_) (fun h56 => ?_)
          · refine PP.iinc (L' := [_, _, _, _, _, _]) dX1_settle_71 rfl rfl rfl ?_
            refine PP.goto (tgt := 30) dX1_settle_74 (by decide) ?_
            have hlf : lf o = false := by have := b2i_01 (lf o); exact b2i_0.mp (by omega)
            rw [flt_s0 hlf, cnt_s0 hlf] at ih
            exact ih σ1 f1 f2 f3 f4
          · refine PP.aload_n dX1_settle_59 rfl ?_
            refine PP.getfR dX1_settle_60 fl_X1_15 sc28 rfl ?_
            refine PP.iload dX1_settle_63 rfl ?_
            refine PP.iload dX1_settle_65 rfl ?_
            refine PP.iastoreN (n := (pre.length + cnt lf o)) sc34 (by first | decide | omega) (by first | rfl | omega) (by first | omega | exact b2i_R _ | (unfold R32; omega)) (by first | omega | exact b2i_R _ | (unfold R32; omega)) dX1_settle_67 ?_
            refine PP.iinc (L' := [_, _, _, _, _, _]) dX1_settle_68 rfl rfl rfl ?_
            refine PP.iinc (L' := [_, _, _, _, _, _]) dX1_settle_71 rfl rfl rfl ?_
            refine PP.goto (tgt := 30) dX1_settle_74 (by decide) ?_
            have hlf : lf o = true := b2i_1.mp (by omega)
            rw [flt_s1 hlf, cnt_s1 hlf] at ih
            refine ih _ (fun k h0 h1 => by rw [up_ne h1]; exact f1 k h0 h1) (fun j hj => by rw [up_ne (by decide)]; exact f2 j hj) (by rw [up_ne (by decide)]; exact f3) (fun i u hi => ?_)
            rw [← List.append_assoc] at hi
            by_cases hi2 : i < (pre ++ (List.range o).filter lf).length
            · rw [List.getElem?_append_left hi2] at hi
              rw [List.length_append, flt_len] at hi2
              rw [up_j (by omega)]
              exact f4 i u hi
            · rw [List.getElem?_append_right (by omega)] at hi
              have hz := (List.getElem?_eq_some_iff.mp hi).1
              rw [List.length_append, flt_len] at hz hi hi2
              simp at hz
              have e : i = pre.length + cnt lf o := by omega
              subst e
              rw [Nat.sub_self] at hi
              cases hi
              exact up_at
  refine PP.aload_n dX1_settle_0 rfl ?_
  refine PP.iload_n dX1_settle_1 rfl ?_
  refine PP.putI dX1_settle_2 fp_X1_67 sc28 rfl (by first | omega | (unfold R32; omega)) ?_
  refine PP.aload_n dX1_settle_5 rfl ?_
  refine PP.getfR dX1_settle_6 fl_X1_9 sc28 rfl ?_
  refine PP.iconst dX1_settle_9 ?_
  refine PP.aload_n dX1_settle_10 rfl ?_
  refine PP.getfR dX1_settle_11 fl_X1_15 sc28 rfl ?_
  refine PP.iconst dX1_settle_14 ?_
  refine PP.iload_n dX1_settle_15 rfl ?_
  refine PP.bipush dX1_settle_16 (by decide) ?_
  refine PP.callSi (ok_min (x := (pre.length : Int)) (y := 7) (by unfold R32; omega) (by unfold R32; omega)) dX1_settle_18 sl_X1_109 rfl rfl (Nat.le_of_ble_eq_true rfl) (Nat.le_of_ble_eq_true rfl) ?_
  refine PP.eqI (y := (pre.length : Int)) (by rw [if_neg (by omega)]) ?_
  refine PP.acopy dX1_settle_21 sc_X1_114 sc33 sc34 (by first | decide | omega) (by first | decide | omega) (by first | omega | (unfold R32; omega)) (by first | omega | (unfold R32; omega)) (by first | omega | (unfold R32; omega)) (by first | omega | (unfold R32; omega)) (by first | omega | (unfold R32; omega)) (Nat.le_of_ble_eq_true rfl) (Nat.le_of_ble_eq_true rfl) ?_
  refine PP.iload_n dX1_settle_24 rfl ?_
  refine PP.istore (L' := [_, _, _, _, _, _]) dX1_settle_25 (Nat.le_of_ble_eq_true rfl) rfl rfl ?_
  refine PP.iconst dX1_settle_27 ?_
  refine PP.istore (L' := [_, _, _, _, _, _]) dX1_settle_28 (Nat.le_of_ble_eq_true rfl) rfl rfl ?_
  refine key 0 (by omega) _ (fun k h0 h1 => by rw [cpy_ne h1, up_ne h0]) (fun j hj => by rw [cpy_ne (by decide), up_j hj]) (by rw [cpy_ne (by decide), up_at]) (fun i u hi => ?_)
  simp only [List.range_zero, List.filter_nil, List.append_nil] at hi
  have hil : i < pre.length := (List.getElem?_eq_some_iff.mp hi).1
  rw [cpy_in (by simp) (by simp; omega), up_ne (by decide)]
  have := hpre i u hi
  simpa using this
def dlf (lf : Nat → Bool) (t : Nat) : Nat → Bool := fun u => lf u && !decide (u = t)
def prT (k : Nat) (lf : Nat → Bool) (t : Nat) : List (List Nat) := (List.range t).flatMap fun u => if lf u then (prm k (dlf lf u)).map (u :: ·) else []
theorem prT_7 (k : Nat) (lf : Nat → Bool) : prm (k + 1) lf = prT k lf 7 := rfl
theorem prT_s1 {k t : Nat} {lf : Nat → Bool} (h : lf t = true) : prT k lf (t + 1) = prT k lf t ++ (prm k (dlf lf t)).map (t :: ·) := by
  unfold prT; rw [List.range_succ, List.flatMap_append]; simp [h]
theorem prT_s0 {k t : Nat} {lf : Nat → Bool} (h : lf t = false) : prT k lf (t + 1) = prT k lf t := by
  unfold prT; rw [List.range_succ, List.flatMap_append]; simp [h]
theorem prT_ext {k n m : Nat} {lf : Nat → Bool} (h : ∀ u, n ≤ u → u < m → lf u = false) (hn : n ≤ m) : prT k lf m = prT k lf n := by
  obtain ⟨j, rfl⟩ : ∃ j, m = n + j := ⟨m - n, by omega⟩
  clear hn
  induction j with
  | zero => rfl
  | succ j ih =>
    rw [show n + (j + 1) = n + j + 1 by omega, prT_s0 (h (n + j) (by omega) (by omega))]
    exact ih (fun u h1 h2 => h u h1 (by omega))
/-- what the search holds: the rack filled by pre, the best so far -/
def SRC (σ : Sg) (T : Nat → Int) (n : Nat) (w : Int) (al : Nat → Bool) (pre : List Nat) (a : Int × List Nat) : Prop :=
  OC σ T n w (plL T pre) ∧ σ 28 3 = (msk (fun t => hpS T w t && al t) n : Nat) ∧ σ 28 6 = a.1 ∧ BL σ 33 pre ∧ BL σ 34 a.2
theorem iand_2 {p : Nat → Bool} {n t : Nat} (hn : n ≤ 7) (ht : t < n) : Int32.ofInt ((msk p n : Nat) : Int) &&& Int32.ofInt ((2 ^ t : Nat) : Int) = Int32.ofInt (if p t then ((2 ^ t : Nat) : Int) else 0) := by
  rw [iand_n]
  congr 1
  have : msk p n &&& 2 ^ t = if p t then 2 ^ t else 0 := by
    apply Nat.eq_of_testBit_eq
    intro i
    rw [Nat.testBit_and, Nat.testBit_two_pow]
    by_cases e : t = i
    · subst e
      rw [msk_bit ht]
      cases p t <;> simp [Nat.testBit_two_pow_self]
    · simp only [e, decide_false, Bool.and_false]
      cases p t <;> simp [Nat.testBit_two_pow, e]
  rw [this]
  split <;> rfl
theorem iand_del {p : Nat → Bool} {n t : Nat} (hn : n ≤ 7) (ht : t < n) : Int32.ofInt ((msk p n : Nat) : Int) &&& Int32.ofInt (-((2 ^ t : Nat) : Int) - 1) = Int32.ofInt ((msk (dlf p t) n : Nat) : Int) := by
  have h2 : 2 ^ t < 128 := Nat.lt_of_lt_of_le (Nat.pow_lt_pow_right (by decide) (show t < 7 by omega)) (by decide)
  rw [iandn_128 _ (msk_128 p hn) _ h2]
  congr 2
  have e : 2 ^ t = msk (fun u => decide (u = t)) n := by
    apply Nat.eq_of_testBit_eq
    intro i
    rw [Nat.testBit_two_pow]
    by_cases hi : i < n
    · rw [msk_bit hi]; apply decide_eq_decide.mpr; omega
    · rw [msk_bit0 (by omega)]; simp; omega
  rw [e, msk_andn]
  rfl
theorem uf_back {P : Nat → Int} {t : Nat} {s : Int} (h : P t = -4) : uf (uf P t s) t (-4) = P := by
  funext u
  unfold uf
  by_cases e : u = t
  · rw [if_pos e, e, h]
  · rw [if_neg e, if_neg e]
theorem clN_le (T : Nat → Int) (n : Nat) (w : Int) (x : FS) : clN T n w x ≤ n := cnt_le _ n
