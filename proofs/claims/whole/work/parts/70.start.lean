/-! what the start gives -/
theorem FTB_len : FTB.length = 126 := by decide +kernel
theorem st_el : ∀ j, j < 126 → (Cond.eq (.elem (.field (.string "PlatesLookingIn" 58) "java/lang/String" "value" "[B") (.int (Int32.ofNat j))) (.int (Int32.ofInt (FTx j)))) ∈ flatC (Jvm.Cond.and given_1 narrow_1) := by decide +kernel
theorem st_0 : (Cond.eq (.static "java/lang/String" "COMPACT_STRINGS" "Z") (.int 1)) ∈ flatC (Jvm.Cond.and given_1 narrow_1) := by decide +kernel
theorem st_1 : (Cond.isRef (.static "jdk/internal/util/Preconditions" "SIOOBE_FORMATTER" "Ljava/util/function/BiFunction;")) ∈ flatC (Jvm.Cond.and given_1 narrow_1) := by decide +kernel
theorem st_2 : (Cond.exactly (.string "PlatesLookingIn" 58) "java/lang/String") ∈ flatC (Jvm.Cond.and given_1 narrow_1) := by decide +kernel
theorem st_3 : (Cond.eq (.field (.string "PlatesLookingIn" 58) "java/lang/String" "coder" "B") (.int 0)) ∈ flatC (Jvm.Cond.and given_1 narrow_1) := by decide +kernel
theorem st_4 : (Cond.arrayOf (.field (.string "PlatesLookingIn" 58) "java/lang/String" "value" "[B") .byte) ∈ flatC (Jvm.Cond.and given_1 narrow_1) := by decide +kernel
theorem st_5 : (Cond.eq (.length (.field (.string "PlatesLookingIn" 58) "java/lang/String" "value" "[B")) (.int 126)) ∈ flatC (Jvm.Cond.and given_1 narrow_1) := by decide +kernel
theorem FTB_el (j : Nat) : (FTB.map Int32.ofInt).getD j 0 = Int32.ofInt (FTx j) := by
  unfold FTx
  rw [List.getD_eq_getElem?_getD, List.getD_eq_getElem?_getD, List.getElem?_map]
  cases FTB[j]? <;> rfl
theorem st_SF {args : Array Value} {s : State} (hts : ∀ w ∈ lw_tbl, w.before args s = true) (hgv : (Jvm.Cond.and given_1 narrow_1).before args s = true) : ∃ q qv f, SF q qv f (AZ s.heap.size) s s.heap ∧ vk_R RX5 58 FTs q s := by
  have hs := flat_of_before _ hgv
  have hA : ∀ a : Nat, a < s.heap.size → ¬ AZ s.heap.size a := fun a h h2 => by have h3 : s.heap.size ≤ a := h2; omega
  obtain ⟨adK, adV, hS, hE⟩ := vk_Sof (args := args) (s := s) (N := 1) (tm := fun _ => .string "PlatesLookingIn" 58) (len := [126]) (byt := [FTB.map Int32.ofInt]) (A := AZ s.heap.size)
    (fun i hi => by rw [show i = 0 by omega]; decide) (fun i _ => hs _ st_2) (fun i _ => hs _ st_3) (fun i _ => hs _ st_4) (fun i hi => by rw [show i = 0 by omega]; exact hs _ st_5)
    (fun i hi j hj => by
      have e : i = 0 := by omega
      subst e
      have h1 := hs _ (st_el j hj)
      show (Cond.eq _ (.int ((FTB.map Int32.ofInt).getD j 0))).before args s = true
      rw [FTB_el]
      exact h1)
    (fun i j hi hj h => absurd (show i = j by omega) h) hA
  obtain ⟨h1, h2, h3, h4⟩ := hS.1 0 (by decide)
  have hq := hE 0 (by decide)
  have hT : va_T .byte (adV 0) 126 (fun j => .int (Int32.ofInt (FTx j))) (AZ s.heap.size) s s.heap := by
    have e : (fun j => Value.int (Int32.ofInt (FTx j))) = (fun j => Value.int ((FTB.map Int32.ofInt).getD j 0)) := by
      funext j
      rw [FTB_el]
    rw [e]
    exact h4
  have hz := va_Zof (A := AZ s.heap.size) (hts (.laysStatic "java/lang/String" "COMPACT_STRINGS" "Z") (by decide +kernel)) (hts (.initialized "java/lang/String") (by decide +kernel)) (va_eqt (hs _ st_0)) hA
  have hR : vk_R RX5 58 FTs (adK 0) s := by
    refine vk_R.of (A := args) (hts (.stringRef RX5 58 FTs) (by decide +kernel)) ?_
    exact hq
  rcases va_Zqof (A := AZ s.heap.size) (hts (.laysStatic "jdk/internal/util/Preconditions" "SIOOBE_FORMATTER" "Ljava/util/function/BiFunction;") (by decide +kernel)) (hts (.initialized "jdk/internal/util/Preconditions") (by decide +kernel)) (hs _ st_1) hA with g | ⟨f, g⟩
  · exact ⟨adK 0, adV 0, 0, ⟨hz, Or.inl g, h1, h2, h3, hT⟩, hR⟩
  · exact ⟨adK 0, adV 0, f, ⟨hz, Or.inr g, h1, h2, h3, hT⟩, hR⟩
theorem st_K {args : Array Value} {s : State} (hts : ∀ w ∈ lw_tbl, w.before args s = true) : ∃ (D : va_G) (cA : ClassId), va_K D clsT [(cA, .int)] s := by
  obtain ⟨c0, i0, k0⟩ := u_known (C := RX0) (T := TX0) (N := 9) (n := 9) hts cw_0 (hts (.instantiable RX0 9) (by decide +kernel))
  obtain ⟨c1, i1, k1⟩ := u_known (C := RX1) (T := TX1) (N := 10) (n := 10) hts cw_1 (hts (.instantiable RX1 10) (by decide +kernel))
  obtain ⟨c2, i2, k2⟩ := u_known (C := RX2) (T := TX2) (N := 6) (n := 6) hts cw_2 (hts (.instantiable RX2 6) (by decide +kernel))
  obtain ⟨c3, i3, k3⟩ := u_known (C := RX3) (T := TX3) (N := 5) (n := 5) hts cw_3 (hts (.instantiable RX3 5) (by decide +kernel))
  obtain ⟨c4, i4, k4⟩ := u_known (C := RX4) (T := TX4) (N := 3) (n := 3) hts cw_4 (hts (.instantiable RX4 3) (by decide +kernel))
  obtain ⟨c5, i5, k5⟩ := u_known (C := RX5) (T := TX5) (N := 11) (n := 11) hts cw_5 (hts (.instantiable RX5 11) (by decide +kernel))
  obtain ⟨c6, i6, k6⟩ := u_known (C := RX6) (T := TX6) (N := 20) (n := 20) hts cw_6 (hts (.instantiable RX6 20) (by decide +kernel))
  obtain ⟨cA, kA, comp, g1, g2, g3⟩ := Cond.arrayClass_spec (hts (.arrayClass .int) (by decide +kernel))
  refine ⟨(fun k => match k with
    | 0 => c0
    | 1 => c1
    | 2 => c2
    | 3 => c3
    | 4 => c4
    | 5 => c5
    | _ => c6, fun k => match k with
    | 0 => i0
    | 1 => i1
    | 2 => i2
    | 3 => i3
    | 4 => i4
    | 5 => i5
    | _ => i6), cA, fun k q hq => ?_, fun k q hq => ?_⟩
  · match k, hq with
    | 0, hq => cases hq; exact k0
    | 1, hq => cases hq; exact k1
    | 2, hq => cases hq; exact k2
    | 3, hq => cases hq; exact k3
    | 4, hq => cases hq; exact k4
    | 5, hq => cases hq; exact k5
    | 6, hq => cases hq; exact k6
    | k + 7, hq => simp [clsT] at hq
  · match k, hq with
    | 0, hq => cases hq; exact ⟨fun n z => ⟨fun k h => (by cases h), kA, g2, comp, g3⟩, g1⟩
    | k + 1, hq => simp at hq
theorem nw2_in : ∀ w ∈ nw2, w ∈ lw_tbl := by decide +kernel
theorem nw2_t : ∀ w ∈ nw2, w.onTables = true := by decide +kernel

theorem whole_start {p : Program} {e : Env} {s : State} {m : MethodId} {below : List Frame} {meth : Method} {c : Code} (l : Launch) {b L : Nat} {xs : Nat → Int32} (hL : L ≤ 384) (C0 : lw_At p s m meth c b L xs) : W p l e room_1 s m #[Value.ref b] below meth c s.heap [] 0 0 (lw_Z below #[Value.ref b] s) (entryFrame m ([Value.ref b] : List Value).toArray 4) := by
  obtain ⟨hx, hb, hr, hml, hown, hts, hX, hbl, hlocks, hgv⟩ := id C0
  have X : CG RL code 4 p s m #[Value.ref b] c := ⟨hx, hb, hml, hown, fun w hw => hts w (List.mem_filter.mp hw).1⟩
  obtain ⟨D, cA, hK⟩ := st_K hts
  have hN : NW2 s := fun w hw => va_Nw.of (nw2_t w hw) (hts w (nw2_in w hw))
  obtain ⟨q, qv, f, hF, hZ⟩ := st_SF hts hgv
  exact lw_enter X hK hN hX hbl hL hF hZ hr hlocks
