/-! the model: the next order -/
theorem m_nextRow {σ : Sg} {l : List Nat} (hl : σ 0 19 = (l.length : Int)) (hl7 : l.length ≤ 7) (hB : BL σ 13 l) (hln : ∀ u ∈ l, u < 7) : OK SHm mX6_nextRow 1 [vR 0] σ (RP (fun v τ => (v = 0 ∧ nxL l = none ∧ τ = σ) ∨ (v = 1 ∧ ∃ l', nxL l = some l' ∧ BL τ 13 l' ∧ ∀ c, c ≠ 13 → τ c = σ c))) := by
  have hv : ∀ i, i < l.length → σ 13 i = ((l.getD i 0 : Nat) : Int) := fun i hi => by
    have := List.getElem?_eq_getElem hi
    rw [hB i _ this, List.getD_eq_getElem?_getD, this]; rfl
  have hr : ∀ i, l.getD i 0 < 7 := fun i => by
    rcases Nat.lt_or_ge i l.length with h | h
    · have := List.getElem?_eq_getElem h
      rw [List.getD_eq_getElem?_getD, this]
      exact hln _ (List.getElem_mem h)
    · rw [List.getD_eq_getElem?_getD, List.getElem?_eq_none h]; decide
  have swr : ∀ k j i, swP l k j i < 7 := fun k j i => by unfold swP; split; exact hr _; split; exact hr _; exact hr _
  have key3 : ∀ (k j : Nat) (z3 : Int), k + 1 < l.length → kS l (l.length - 1) = some k → jS l (l.getD k 0) (l.length - 1) = j → ∀ (m a : Nat) (σ1 : Sg), l.length + k - 2 * a ≤ m → k < a → a ≤ l.length → 2 * a ≤ l.length + k + 2 → (∀ c, c ≠ 13 → σ1 c = σ c) → (∀ i, i < l.length → σ1 13 i = ((if (k < i ∧ i < l.length) ∧ (i < a ∨ l.length + k - a < i) then swP l k j (l.length + k - i) else swP l k j i : Nat) : Int)) → PP SHm mX6_nextRow 1 99 [vR 0, vI (k : Int), vI (j : Int), vI z3, vI (a : Int), vN] [] σ1 (RP (fun v τ => (v = 0 ∧ nxL l = none ∧ τ = σ) ∨ (v = 1 ∧ ∃ l', nxL l = some l' ∧ BL τ 13 l' ∧ ∀ c, c ≠ 13 → τ c = σ c))) := by
    intro k j z3 hk hkS hjS m
    have fin : ∀ (a : Nat) (σ1 : Sg), k < a → a ≤ l.length → l.length + k ≤ 2 * a → (∀ c, c ≠ 13 → σ1 c = σ c) → (∀ i, i < l.length → σ1 13 i = ((if (k < i ∧ i < l.length) ∧ (i < a ∨ l.length + k - a < i) then swP l k j (l.length + k - i) else swP l k j i : Nat) : Int)) → PP SHm mX6_nextRow 1 99 [vR 0, vI (k : Int), vI (j : Int), vI z3, vI (a : Int), vN] [] σ1 (RP (fun v τ => (v = 0 ∧ nxL l = none ∧ τ = σ) ∨ (v = 1 ∧ ∃ l', nxL l = some l' ∧ BL τ 13 l' ∧ ∀ c, c ≠ 13 → τ c = σ c))) := by
      intro a σ1 h2 hal h3 f1 f2
      have hl' : σ1 0 19 = (l.length : Int) := by rw [f1 0 (by decide)]; exact hl
      by_cases ha : a ≤ 100
      · refine PP.iload dX6_nextRow_99 rfl ?_
        refine PP.aload_n dX6_nextRow_101 rfl ?_
        refine PP.getfI dX6_nextRow_102 fl_X6_191 sm0 rfl ?_
        refine PP.iload_n dX6_nextRow_105 rfl ?_
        refine PP.iadd dX6_nextRow_106 ?_
        refine PP.iload dX6_nextRow_107 rfl ?_
        refine PP.isub dX6_nextRow_109 ?_
        refine PP.icmp_ge (tgt := 165) (by first | omega | (unfold R32; omega)) (by first | omega | (unfold R32; omega)) dX6_nextRow_110 (by decide) (fun h110 => ?_) (fun h110 => ?_)
        · refine PP.iconst dX6_nextRow_165 ?_
          refine PP.zret dX6_nextRow_166 rfl (by first | decide | omega | exact b2i_01 _) ?_
          refine ⟨_, rfl, Or.inr ⟨rfl, (List.range l.length).map (nxV l k j), by unfold nxL; rw [hkS]; simp only [hjS], fun i u hu => ?_, f1⟩⟩
          have hi : i < l.length := by
            rcases Nat.lt_or_ge i l.length with h | h
            · exact h
            · rw [List.getElem?_eq_none (by simp; exact h)] at hu; cases hu
          rw [List.getElem?_map, List.getElem?_range hi] at hu
          have hu2 : nxV l k j i = u := by simpa using hu
          rw [f2 i hi, ← hu2]
          unfold nxV
          by_cases c1 : k < i ∧ i < l.length
          · rw [if_pos c1]
            by_cases c2 : i < a ∨ l.length + k - a < i
            · rw [if_pos ⟨c1, c2⟩]
            · rw [if_neg (fun q => c2 q.2), show l.length + k - i = i by omega]
          · rw [if_neg c1, if_neg (fun q => c1 q.1)]
        · omega
      · omega
    induction m with
    | zero =>
      intro a σ1 h1 h2 h3 h4 f1 f2
      exact fin a σ1 h2 h3 (by omega) f1 f2
    | succ m ih =>
      intro a σ1 h1 h2 h3 h4 f1 f2
      by_cases hend : l.length + k ≤ 2 * a
      · exact fin a σ1 h2 h3 hend f1 f2
      · have hl' : σ1 0 19 = (l.length : Int) := by rw [f1 0 (by decide)]; exact hl
        have va := f2 a (by omega)
        have vb := f2 (l.length + k - a) (by omega)
        rw [if_neg (by omega)] at va vb
        have ra := swr k j a
        have rb := swr k j (l.length + k - a)
        have vb' : ∀ z, up σ1 13 a z 13 (l.length + k - a) = σ1 13 (l.length + k - a) := fun z => up_j (by omega)
        have hl2 : ∀ z, up σ1 13 a z 0 19 = (l.length : Int) := fun z => by rw [up_ne (by decide)]; exact hl'
        refine PP.iload dX6_nextRow_99 rfl ?_
        refine PP.aload_n dX6_nextRow_101 rfl ?_
        refine PP.getfI dX6_nextRow_102 fl_X6_191 sm0 rfl ?_
        refine PP.iload_n dX6_nextRow_105 rfl ?_
        refine PP.iadd dX6_nextRow_106 ?_
        refine PP.iload dX6_nextRow_107 rfl ?_
        refine PP.isub dX6_nextRow_109 ?_
        refine PP.icmp_ge (tgt := 165) (by first | omega | (unfold R32; omega)) (by first | omega | (unfold R32; omega)) dX6_nextRow_110 (by decide) (fun h110 => ?_) (fun h110 => ?_)
        · omega
        · refine PP.aload_n dX6_nextRow_113 rfl ?_
          refine PP.getfR dX6_nextRow_114 fl_X6_46 sm0 rfl ?_
          refine PP.iload dX6_nextRow_117 rfl ?_
          refine PP.ialoadN (n := a) sm13 (by first | decide | omega) (by first | rfl | omega) (by first | omega | (unfold R32; omega)) dX6_nextRow_119 ?_
          refine PP.istore (L' := [_, _, _, _, _, _]) dX6_nextRow_120 (Nat.le_of_ble_eq_true rfl) rfl rfl ?_
          refine PP.aload_n dX6_nextRow_122 rfl ?_
          refine PP.getfR dX6_nextRow_123 fl_X6_46 sm0 rfl ?_
          refine PP.iload dX6_nextRow_126 rfl ?_
          refine PP.aload_n dX6_nextRow_128 rfl ?_
          refine PP.getfR dX6_nextRow_129 fl_X6_46 sm0 rfl ?_
          refine PP.aload_n dX6_nextRow_132 rfl ?_
          refine PP.getfI dX6_nextRow_133 fl_X6_191 sm0 rfl ?_
          refine PP.iload_n dX6_nextRow_136 rfl ?_
          refine PP.iadd dX6_nextRow_137 ?_
          refine PP.iload dX6_nextRow_138 rfl ?_
          refine PP.isub dX6_nextRow_140 ?_
          refine PP.ialoadN (n := (l.length + k - a)) sm13 (by first | decide | omega) (by omega) (by first | omega | (unfold R32; omega)) dX6_nextRow_141 ?_
          refine PP.iastoreN (n := a) sm13 (by first | decide | omega) (by first | rfl | omega) (by first | omega | (unfold R32; omega)) (by first | omega | (unfold R32; omega)) dX6_nextRow_142 ?_
          refine PP.aload_n dX6_nextRow_143 rfl ?_
          refine PP.getfR dX6_nextRow_144 fl_X6_46 sm0 rfl ?_
          refine PP.aload_n dX6_nextRow_147 rfl ?_
          refine PP.getfI dX6_nextRow_148 fl_X6_191 sm0 rfl ?_
          refine PP.eqI (hl2 _) ?_
          refine PP.iload_n dX6_nextRow_151 rfl ?_
          refine PP.iadd dX6_nextRow_152 ?_
          refine PP.iload dX6_nextRow_153 rfl ?_
          refine PP.isub dX6_nextRow_155 ?_
          refine PP.iload dX6_nextRow_156 rfl ?_
          refine PP.iastoreN (n := (l.length + k - a)) sm13 (by first | decide | omega) (by omega) (by first | omega | (unfold R32; omega)) (by first | omega | (unfold R32; omega)) dX6_nextRow_158 ?_
          refine PP.iinc (L' := [_, _, _, _, _, _]) dX6_nextRow_159 rfl rfl rfl ?_
          refine PP.goto (tgt := 99) dX6_nextRow_162 (by decide) ?_
          refine PP.frg 5 (L' := [_, _, _, _, _, _]) rfl ?_
          refine ih (a + 1) _ (by omega) (by omega) (by omega) (by omega) (fun c hc => by rw [up_ne hc, up_ne hc]; exact f1 c hc) (fun i hi => ?_)
          by_cases e1 : i = l.length + k - a
          · subst e1
            rw [up_at, va, if_pos (by omega), show l.length + k - (l.length + k - a) = a by omega]
          · rw [up_j e1]
            by_cases e2 : i = a
            · subst e2
              rw [up_at, vb, if_pos (by omega)]
            · rw [up_j e2, f2 i hi]
              by_cases c : (k < i ∧ i < l.length) ∧ (i < a ∨ l.length + k - a < i)
              · rw [if_pos c, if_pos (by omega)]
              · rw [if_neg c, if_neg (by omega)]
  have key2 : ∀ k : Nat, k + 1 < l.length → kS l (l.length - 1) = some k → ¬ l.getD (k + 1) 0 < l.getD k 0 → ∀ c, k + 1 ≤ c → c < l.length → jS l (l.getD k 0) c = jS l (l.getD k 0) (l.length - 1) → PP SHm mX6_nextRow 1 47 [vR 0, vI (k : Int), vI (c : Int), vN, vN, vN] [] σ (RP (fun v τ => (v = 0 ∧ nxL l = none ∧ τ = σ) ∨ (v = 1 ∧ ∃ l', nxL l = some l' ∧ BL τ 13 l' ∧ ∀ c, c ≠ 13 → τ c = σ c))) := by
    intro k hk hkS hge c
    induction c with
    | zero => intro h1; omega
    | succ c ih =>
      intro h1 h2 he
      have v1 := hv (c + 1) h2
      have v2 := hv k (by omega)
      have r1 := hr (c + 1)
      have r2 := hr k
      rw [jS] at he
      by_cases q : l.getD (c + 1) 0 < l.getD k 0
      · rw [if_pos q] at he
        have hck : k + 1 ≤ c := by
          rcases Nat.lt_or_ge k c with h | h
          · exact h
          · have : c = k := by omega
            subst this; exact absurd q hge
        have ih' := ih hck (by omega) he
        refine PP.aload_n dX6_nextRow_47 rfl ?_
        refine PP.getfR dX6_nextRow_48 fl_X6_46 sm0 rfl ?_
        refine PP.iload_n dX6_nextRow_51 rfl ?_
        refine PP.ialoadN (n := (c + 1)) sm13 (by first | decide | omega) (by first | rfl | omega) (by first | omega | (unfold R32; omega)) dX6_nextRow_52 ?_
        refine PP.aload_n dX6_nextRow_53 rfl ?_
        refine PP.getfR dX6_nextRow_54 fl_X6_46 sm0 rfl ?_
        refine PP.iload_n dX6_nextRow_57 rfl ?_
        refine PP.ialoadN (n := k) sm13 (by first | decide | omega) (by first | rfl | omega) (by first | omega | (unfold R32; omega)) dX6_nextRow_58 ?_
        refine PP.icmp_ge (tgt := 68) (by first | omega | (unfold R32; omega)) (by first | omega | (unfold R32; omega)) dX6_nextRow_59 (by decide) (fun h59 => ?_) (fun h59 => ?_)
        · omega
        · refine PP.iinc (L' := [_, _, _, _, _, _]) dX6_nextRow_62 rfl rfl rfl ?_
          refine PP.goto (tgt := 47) dX6_nextRow_65 (by decide) ?_
          exact PP.eqL (by rw [show ((c + 1 : Nat) : Int) + (-1) = (c : Int) by omega]) ih'
      · rw [if_neg q] at he
        have hsw : ∀ i, i < l.length → up (up σ 13 k ((l.getD (c + 1) 0 : Nat) : Int)) 13 (c + 1) ((l.getD k 0 : Nat) : Int) 13 i = ((if (k < i ∧ i < l.length) ∧ (i < k + 1 ∨ l.length + k - (k + 1) < i) then swP l k (c + 1) (l.length + k - i) else swP l k (c + 1) i : Nat) : Int) := fun i hi => by
          rw [if_neg (by omega)]
          unfold swP
          by_cases e1 : i = c + 1
          · subst e1; rw [up_at, if_pos rfl]
          · rw [up_j e1, if_neg e1]
            by_cases e2 : i = k
            · subst e2; rw [up_at, if_pos rfl]
            · rw [up_j e2, if_neg e2]; exact hv i hi
        have k3 := key3 k (c + 1) (σ 13 k) hk hkS he.symm (l.length + k) (k + 1) _ (by omega) (by omega) (by omega) (by omega) (fun c' hc => by rw [up_ne hc, up_ne hc]) hsw
        rw [← v1, ← v2] at k3
        refine PP.aload_n dX6_nextRow_47 rfl ?_
        refine PP.getfR dX6_nextRow_48 fl_X6_46 sm0 rfl ?_
        refine PP.iload_n dX6_nextRow_51 rfl ?_
        refine PP.ialoadN (n := (c + 1)) sm13 (by first | decide | omega) (by first | rfl | omega) (by first | omega | (unfold R32; omega)) dX6_nextRow_52 ?_
        refine PP.aload_n dX6_nextRow_53 rfl ?_
        refine PP.getfR dX6_nextRow_54 fl_X6_46 sm0 rfl ?_
        refine PP.iload_n dX6_nextRow_57 rfl ?_
        refine PP.ialoadN (n := k) sm13 (by first | decide | omega) (by first | rfl | omega) (by first | omega | (unfold R32; omega)) dX6_nextRow_58 ?_
        refine PP.icmp_ge (tgt := 68) (by first | omega | (unfold R32; omega)) (by first | omega | (unfold R32; omega)) dX6_nextRow_59 (by decide) (fun h59 => ?_) (fun h59 => ?_)
        · refine PP.aload_n dX6_nextRow_68 rfl ?_
          refine PP.getfR dX6_nextRow_69 fl_X6_46 sm0 rfl ?_
          refine PP.iload_n dX6_nextRow_72 rfl ?_
          refine PP.ialoadN (n := k) sm13 (by first | decide | omega) (by first | rfl | omega) (by first | omega | (unfold R32; omega)) dX6_nextRow_73 ?_
          refine PP.istore_n (L' := [_, _, _, _, _, _]) dX6_nextRow_74 (Nat.le_of_ble_eq_true rfl) rfl rfl ?_
          refine PP.aload_n dX6_nextRow_75 rfl ?_
          refine PP.getfR dX6_nextRow_76 fl_X6_46 sm0 rfl ?_
          refine PP.iload_n dX6_nextRow_79 rfl ?_
          refine PP.aload_n dX6_nextRow_80 rfl ?_
          refine PP.getfR dX6_nextRow_81 fl_X6_46 sm0 rfl ?_
          refine PP.iload_n dX6_nextRow_84 rfl ?_
          refine PP.ialoadN (n := (c + 1)) sm13 (by first | decide | omega) (by first | rfl | omega) (by first | omega | (unfold R32; omega)) dX6_nextRow_85 ?_
          refine PP.iastoreN (n := k) sm13 (by first | decide | omega) (by first | rfl | omega) (by first | omega | (unfold R32; omega)) (by first | omega | (unfold R32; omega)) dX6_nextRow_86 ?_
          refine PP.aload_n dX6_nextRow_87 rfl ?_
          refine PP.getfR dX6_nextRow_88 fl_X6_46 sm0 rfl ?_
          refine PP.iload_n dX6_nextRow_91 rfl ?_
          refine PP.iload_n dX6_nextRow_92 rfl ?_
          refine PP.iastoreN (n := (c + 1)) sm13 (by first | decide | omega) (by first | rfl | omega) (by first | omega | (unfold R32; omega)) (by first | omega | (unfold R32; omega)) dX6_nextRow_93 ?_
          refine PP.iload_n dX6_nextRow_94 rfl ?_
          refine PP.iconst dX6_nextRow_95 ?_
          refine PP.iadd dX6_nextRow_96 ?_
          refine PP.istore (L' := [_, _, _, _, _, _]) dX6_nextRow_97 (Nat.le_of_ble_eq_true rfl) rfl rfl ?_
          exact k3
        · omega
  have key1 : ∀ c, c < l.length → kS l c = kS l (l.length - 1) → PP SHm mX6_nextRow 1 7 [vR 0, vI ((c : Int) - 1), vN, vN, vN, vN] [] σ (RP (fun v τ => (v = 0 ∧ nxL l = none ∧ τ = σ) ∨ (v = 1 ∧ ∃ l', nxL l = some l' ∧ BL τ 13 l' ∧ ∀ c, c ≠ 13 → τ c = σ c))) := by
    intro c
    induction c with
    | zero =>
      intro h1 he
      refine PP.iload_n dX6_nextRow_7 rfl ?_
      refine PP.if_lt (tgt := 34) (by first | omega | (unfold R32; omega)) dX6_nextRow_8 (by decide) (fun h8 => ?_) (fun h8 => ?_)
      · refine PP.iload_n dX6_nextRow_34 rfl ?_
        refine PP.if_ge (tgt := 40) (by first | omega | (unfold R32; omega)) dX6_nextRow_35 (by decide) (fun h35 => ?_) (fun h35 => ?_)
        · omega
        · refine PP.iconst dX6_nextRow_38 ?_
          refine PP.zret dX6_nextRow_39 rfl (by first | decide | omega | exact b2i_01 _) ?_
          exact ⟨_, rfl, Or.inl ⟨rfl, by unfold nxL; rw [← he]; rfl, rfl⟩⟩
      · omega
    | succ c ih =>
      intro h1 he
      have v1 := hv c (by omega)
      have v2 := hv (c + 1) h1
      have r1 := hr c
      have r2 := hr (c + 1)
      rw [kS] at he
      refine PP.eqL (L' := [vR 0, vI (c : Int), vN, vN, vN, vN]) (by rw [show ((c + 1 : Nat) : Int) - 1 = (c : Int) by omega]) ?_
      by_cases q : l.getD (c + 1) 0 < l.getD c 0
      · rw [if_pos q] at he
        have ih' := ih (by omega) he
        refine PP.iload_n dX6_nextRow_7 rfl ?_
        refine PP.if_lt (tgt := 34) (by first | omega | (unfold R32; omega)) dX6_nextRow_8 (by decide) (fun h8 => ?_) (fun h8 => ?_)
        · omega
        · refine PP.aload_n dX6_nextRow_11 rfl ?_
          refine PP.getfR dX6_nextRow_12 fl_X6_46 sm0 rfl ?_
          refine PP.iload_n dX6_nextRow_15 rfl ?_
          refine PP.ialoadN (n := c) sm13 (by first | decide | omega) (by first | rfl | omega) (by first | omega | (unfold R32; omega)) dX6_nextRow_16 ?_
          refine PP.aload_n dX6_nextRow_17 rfl ?_
          refine PP.getfR dX6_nextRow_18 fl_X6_46 sm0 rfl ?_
          refine PP.iload_n dX6_nextRow_21 rfl ?_
          refine PP.iconst dX6_nextRow_22 ?_
          refine PP.iadd dX6_nextRow_23 ?_
          refine PP.ialoadN (n := (c + 1)) sm13 (by first | decide | omega) (by first | rfl | omega) (by first | omega | (unfold R32; omega)) dX6_nextRow_24 ?_
          refine PP.icmp_le (tgt := 34) (by first | omega | (unfold R32; omega)) (by first | omega | (unfold R32; omega)) dX6_nextRow_25 (by decide) (fun h25 => ?_) (fun h25 => ?_)
          · omega
          · refine PP.iinc (L' := [_, _, _, _, _, _]) dX6_nextRow_28 rfl rfl rfl ?_
            refine PP.goto (tgt := 7) dX6_nextRow_31 (by decide) ?_
            exact PP.eqL (by rw [show (c : Int) + (-1) = (c : Int) - 1 by omega]) ih'
      · rw [if_neg q] at he
        have k2 := key2 c h1 he.symm q (l.length - 1) (by omega) (by omega) rfl
        refine PP.iload_n dX6_nextRow_7 rfl ?_
        refine PP.if_lt (tgt := 34) (by first | omega | (unfold R32; omega)) dX6_nextRow_8 (by decide) (fun h8 => ?_) (fun h8 => ?_)
        · omega
        · refine PP.aload_n dX6_nextRow_11 rfl ?_
          refine PP.getfR dX6_nextRow_12 fl_X6_46 sm0 rfl ?_
          refine PP.iload_n dX6_nextRow_15 rfl ?_
          refine PP.ialoadN (n := c) sm13 (by first | decide | omega) (by first | rfl | omega) (by first | omega | (unfold R32; omega)) dX6_nextRow_16 ?_
          refine PP.aload_n dX6_nextRow_17 rfl ?_
          refine PP.getfR dX6_nextRow_18 fl_X6_46 sm0 rfl ?_
          refine PP.iload_n dX6_nextRow_21 rfl ?_
          refine PP.iconst dX6_nextRow_22 ?_
          refine PP.iadd dX6_nextRow_23 ?_
          refine PP.ialoadN (n := (c + 1)) sm13 (by first | decide | omega) (by first | rfl | omega) (by first | omega | (unfold R32; omega)) dX6_nextRow_24 ?_
          refine PP.icmp_le (tgt := 34) (by first | omega | (unfold R32; omega)) (by first | omega | (unfold R32; omega)) dX6_nextRow_25 (by decide) (fun h25 => ?_) (fun h25 => ?_)
          · refine PP.iload_n dX6_nextRow_34 rfl ?_
            refine PP.if_ge (tgt := 40) (by first | omega | (unfold R32; omega)) dX6_nextRow_35 (by decide) (fun h35 => ?_) (fun h35 => ?_)
            · refine PP.aload_n dX6_nextRow_40 rfl ?_
              refine PP.getfI dX6_nextRow_41 fl_X6_191 sm0 rfl ?_
              refine PP.iconst dX6_nextRow_44 ?_
              refine PP.isub dX6_nextRow_45 ?_
              refine PP.istore_n (L' := [_, _, _, _, _, _]) dX6_nextRow_46 (Nat.le_of_ble_eq_true rfl) rfl rfl ?_
              exact PP.eqL (by rw [hl, show ((l.length - 1 : Nat) : Int) = (l.length : Int) - 1 by omega]) k2
            · omega
          · omega
  refine OK.enter (L' := [vR 0, vN, vN, vN, vN, vN]) (by decide +kernel) (by simp [ent0]) rfl ?_
  rcases Nat.eq_zero_or_pos l.length with h0 | h0
  · have e : l = [] := List.length_eq_zero_iff.mp h0
    have k0 : PP SHm mX6_nextRow 1 7 [vR 0, vI (σ 0 19 - 2), vN, vN, vN, vN] [] σ (RP (fun v τ => (v = 0 ∧ nxL l = none ∧ τ = σ) ∨ (v = 1 ∧ ∃ l', nxL l = some l' ∧ BL τ 13 l' ∧ ∀ c, c ≠ 13 → τ c = σ c))) := by
      refine PP.iload_n dX6_nextRow_7 rfl ?_
      refine PP.if_lt (tgt := 34) (by first | omega | (unfold R32; omega)) dX6_nextRow_8 (by decide) (fun h8 => ?_) (fun h8 => ?_)
      · refine PP.iload_n dX6_nextRow_34 rfl ?_
        refine PP.if_ge (tgt := 40) (by first | omega | (unfold R32; omega)) dX6_nextRow_35 (by decide) (fun h35 => ?_) (fun h35 => ?_)
        · omega
        · refine PP.iconst dX6_nextRow_38 ?_
          refine PP.zret dX6_nextRow_39 rfl (by first | decide | omega | exact b2i_01 _) ?_
          exact ⟨_, rfl, Or.inl ⟨rfl, by rw [e]; rfl, rfl⟩⟩
      · omega
    refine PP.aload_n dX6_nextRow_0 rfl ?_
    refine PP.getfI dX6_nextRow_1 fl_X6_191 sm0 rfl ?_
    refine PP.iconst dX6_nextRow_4 ?_
    refine PP.isub dX6_nextRow_5 ?_
    refine PP.istore_n (L' := [_, _, _, _, _, _]) dX6_nextRow_6 (Nat.le_of_ble_eq_true rfl) rfl rfl ?_
    exact k0
  · have k1 := key1 (l.length - 1) (by omega) rfl
    refine PP.aload_n dX6_nextRow_0 rfl ?_
    refine PP.getfI dX6_nextRow_1 fl_X6_191 sm0 rfl ?_
    refine PP.iconst dX6_nextRow_4 ?_
    refine PP.isub dX6_nextRow_5 ?_
    refine PP.istore_n (L' := [_, _, _, _, _, _]) dX6_nextRow_6 (Nat.le_of_ble_eq_true rfl) rfl rfl ?_
    exact PP.eqL (by rw [hl, show ((l.length - 1 : Nat) : Int) - 1 = (l.length : Int) - 2 by omega]) k1
