/-! a text, read: numbers, items -/
def rdN (x : Nat → Int) : Nat → Nat → List Int → Nat → Int → Option (List Int × Nat)
  | 0, _, _, _, _ => none
  | k + 1, i, ns, fig, num =>
    if 48 ≤ x i ∧ x i ≤ 57 ∧ fig < 2 then rdN x k (i + 1) ns (fig + 1) (num * 10 + x i - 48)
    else if (x i = 44 ∨ x i = 59) ∧ 0 < fig ∧ ns.length < 4 then
      if x i = 59 then some (ns ++ [num], i + 1) else rdN x k (i + 1) (ns ++ [num]) 0 0
    else none
theorem rdN_ok {x : Nat → Int} : ∀ (k i : Nat) (ns : List Int) (fig : Nat) (num : Int) (ms : List Int) (nx : Nat), rdN x k i ns fig num = some (ms, nx) → (∀ z ∈ ns, 0 ≤ z ∧ z ≤ 99) → (0 ≤ num ∧ num < 10 ^ fig) → fig ≤ 2 → ns.length ≤ 4 → (∀ z ∈ ms, 0 ≤ z ∧ z ≤ 99) ∧ i < nx ∧ nx ≤ i + k ∧ ms.length ≤ 4 ∧ ns.length < ms.length
  | 0, i, ns, fig, num, ms, nx, h, _, _, _, _ => by simp [rdN] at h
  | k + 1, i, ns, fig, num, ms, nx, h, h1, h2, h3, h4 => by
    rw [rdN] at h
    by_cases c1 : 48 ≤ x i ∧ x i ≤ 57 ∧ fig < 2
    · rw [if_pos c1] at h
      have := rdN_ok k (i + 1) ns (fig + 1) _ ms nx h h1 (by rw [Int.pow_succ]; omega) (by omega) h4
      exact ⟨this.1, by omega, by omega, this.2.2.2.1, this.2.2.2.2⟩
    · rw [if_neg c1] at h
      by_cases c2 : (x i = 44 ∨ x i = 59) ∧ 0 < fig ∧ ns.length < 4
      · rw [if_pos c2] at h
        have hnum : 0 ≤ num ∧ num ≤ 99 := by
          rcases (by omega : fig = 1 ∨ fig = 2) with e | e <;> subst e <;> simp at h2 <;> omega
        have hall : ∀ z ∈ ns ++ [num], 0 ≤ z ∧ z ≤ 99 := by
          intro z hz
          rcases List.mem_append.mp hz with hz | hz
          · exact h1 z hz
          · rw [List.mem_singleton.mp hz]; exact hnum
        by_cases c3 : x i = 59
        · rw [if_pos c3] at h
          cases h
          exact ⟨hall, by omega, by omega, by simp; omega, by simp⟩
        · rw [if_neg c3] at h
          have := rdN_ok k (i + 1) _ 0 0 ms nx h hall (by simp) (by omega) (by simp; omega)
          refine ⟨this.1, by omega, by omega, this.2.2.2.1, ?_⟩
          have := this.2.2.2.2
          simp at this
          omega
      · rw [if_neg c2] at h; cases h
theorem rdN_dig {x : Nat → Int} {k i fig : Nat} {ns : List Int} {num : Int} (h1 : 48 ≤ x i) (h2 : x i ≤ 57) (h3 : fig < 2) : rdN x (k + 1) i ns fig num = rdN x k (i + 1) ns (fig + 1) (num * 10 + x i - 48) := by
  rw [rdN, if_pos ⟨h1, h2, h3⟩]
theorem rdN_com {x : Nat → Int} {k i fig : Nat} {ns : List Int} {num : Int} (h1 : x i = 44) (h2 : 0 < fig) (h3 : ns.length < 4) : rdN x (k + 1) i ns fig num = rdN x k (i + 1) (ns ++ [num]) 0 0 := by
  rw [rdN, if_neg (by omega), if_pos ⟨Or.inl h1, h2, h3⟩, if_neg (by omega)]
theorem rdN_end {x : Nat → Int} {k i fig : Nat} {ns : List Int} {num : Int} (h1 : x i = 59) (h2 : 0 < fig) (h3 : ns.length < 4) : rdN x (k + 1) i ns fig num = some (ns ++ [num], i + 1) := by
  rw [rdN, if_neg (by omega), if_pos ⟨Or.inr h1, h2, h3⟩, if_pos h1]
theorem rdN_bad {x : Nat → Int} {k i fig : Nat} {ns : List Int} {num : Int} (h1 : ¬ (48 ≤ x i ∧ x i ≤ 57 ∧ fig < 2)) (h2 : ¬ ((x i = 44 ∨ x i = 59) ∧ 0 < fig ∧ ns.length < 4)) : rdN x (k + 1) i ns fig num = none := by
  rw [rdN, if_neg h1, if_neg h2]
def NRd (σ : Sg) (ns : List Int) : Prop := σ 2 3 = (ns.length : Int) ∧ ∀ (j : Nat) (z : Int), ns[j]? = some z → σ 13 j = z
theorem ok_readNumbers {σ : Sg} {b fr : Nat} (hb : b ≤ 200) (hx : ∀ j, j < b → 0 ≤ σ 1 j ∧ σ 1 j ≤ 127) (hf : fr ≤ 200) : OK SHc mX3_readNumbers 1 [vR 2, vR 1, vI (fr : Int), vI (b : Int)] σ (RP (fun v τ => (∀ c, c ≠ 2 → c ≠ 13 → τ c = σ c) ∧ τ 2 4 = σ 2 4 ∧ ((rdN (σ 1) (b - fr) fr [] 0 0 = none ∧ v = -1) ∨ ∃ ns nx, rdN (σ 1) (b - fr) fr [] 0 0 = some (ns, nx) ∧ v = (nx : Nat) ∧ NRd τ ns))) := by
  refine OK.enter (L' := [vR 2, vR 1, vI (fr : Int), vI (b : Int), vN, vN, vN, vN]) (by decide +kernel) (by simp [ent0]) rfl ?_
  refine PP.rg (fun hg => ?_)
  have key : ∀ (k i : Nat) (σ1 : Sg) (ns : List Int) (fig : Nat) (num : Int), i + k = max b i → (∀ c, c ≠ 2 → c ≠ 13 → σ1 c = σ c) → σ1 2 4 = σ 2 4 → NRd σ1 ns → ns.length ≤ 4 → fig ≤ 2 → (0 ≤ num ∧ num < 10 ^ fig) → rdN (σ 1) k i ns fig num = rdN (σ 1) (b - fr) fr [] 0 0 → i ≤ 200 → PP SHc mX3_readNumbers 1 14 [vR 2, vR 1, vI (fr : Int), vI (b : Int), vI (fig : Int), vI num, vI (i : Int), vN] [] σ1 (RP (fun v τ => (∀ c, c ≠ 2 → c ≠ 13 → τ c = σ c) ∧ τ 2 4 = σ 2 4 ∧ ((rdN (σ 1) (b - fr) fr [] 0 0 = none ∧ v = -1) ∨ ∃ ns nx, rdN (σ 1) (b - fr) fr [] 0 0 = some (ns, nx) ∧ v = (nx : Nat) ∧ NRd τ ns))) := by
    intro k
    induction k with
    | zero =>
      intro i σ1 ns fig num hi hfr h24 hN hl hfig hnum he hi2
      rw [rdN] at he
      refine PP.iload dX3_readNumbers_14 rfl ?_
      refine PP.iload_n dX3_readNumbers_16 rfl ?_
      refine PP.icmp_ge (tgt := 139) (by first | omega | (unfold R32; omega)) (by first | omega | (unfold R32; omega)) dX3_readNumbers_17 (by decide) (fun h17 => ?_) (fun h17 => ?_)
      · refine PP.iconst dX3_readNumbers_139 ?_
        refine PP.iret dX3_readNumbers_140 rfl ?_
        exact ⟨_, rfl, hfr, h24, Or.inl ⟨he.symm, rfl⟩⟩
      · omega
    | succ k ih =>
      intro i σ1 ns fig num hi hfr h24 hN hl hfig hnum he hi2
      have hib : i < b := by omega
      have e1 : σ1 1 = σ 1 := hfr 1 (by decide) (by decide)
      have hxi := hx i hib
      have hp : (10 : Int) ^ fig ≤ 100 := by
        rcases (by omega : fig = 0 ∨ fig = 1 ∨ fig = 2) with e | e | e <;> subst e <;> decide
      obtain ⟨n1, n2⟩ := id hN
      refine PP.iload dX3_readNumbers_14 rfl ?_
      refine PP.iload_n dX3_readNumbers_16 rfl ?_
      refine PP.icmp_ge (tgt := 139) (by first | omega | (unfold R32; omega)) (by first | omega | (unfold R32; omega)) dX3_readNumbers_17 (by decide) (fun h17 => ?_) (fun h17 => ?_)
      · omega
      · refine PP.aload_n dX3_readNumbers_20 rfl ?_
        refine PP.iload dX3_readNumbers_21 rfl ?_
        refine PP.ialoadN (n := i) sc1 (by first | decide | omega) (by first | rfl | omega) (by first | omega | (unfold R32; omega)) dX3_readNumbers_23 ?_
        refine PP.eqI (y := σ 1 i) (by rw [e1]) ?_
        refine PP.istore (L' := [_, _, _, _, _, _, _, _]) dX3_readNumbers_24 (Nat.le_of_ble_eq_true rfl) rfl rfl ?_
        refine PP.iload dX3_readNumbers_26 rfl ?_
        refine PP.bipush dX3_readNumbers_28 (by decide) ?_
        refine PP.icmp_lt (tgt := 65) (by first | omega | (unfold R32; omega)) (by first | omega | (unfold R32; omega)) dX3_readNumbers_30 (by decide) (fun h30 => ?_) (fun h30 => ?_)
        · refine PP.iload dX3_readNumbers_65 rfl ?_
          refine PP.bipush dX3_readNumbers_67 (by decide) ?_
          refine PP.icmp_eq (tgt := 79) (by first | omega | (unfold R32; omega)) (by first | omega | (unfold R32; omega)) dX3_readNumbers_69 (by decide) (fun h69 => ?_) (fun h69 => ?_)
          · refine PP.iload dX3_readNumbers_79 rfl ?_
            refine PP.if_le (tgt := 131) (by first | omega | (unfold R32; omega)) dX3_readNumbers_81 (by decide) (fun h81 => ?_) (fun h81 => ?_)
            · refine PP.iconst dX3_readNumbers_131 ?_
              refine PP.iret dX3_readNumbers_132 rfl ?_
              rw [rdN_bad (by omega) (by omega)] at he
              exact ⟨_, rfl, hfr, h24, Or.inl ⟨he.symm, rfl⟩⟩
            · refine PP.aload_n dX3_readNumbers_84 rfl ?_
              refine PP.getfI dX3_readNumbers_85 fl_X3_63 sc2 rfl ?_
              refine PP.eqI (y := (ns.length : Int)) n1 ?_
              refine PP.iconst dX3_readNumbers_88 ?_
              refine PP.icmp_ge (tgt := 131) (by first | omega | (unfold R32; omega)) (by first | omega | (unfold R32; omega)) dX3_readNumbers_89 (by decide) (fun h89 => ?_) (fun h89 => ?_)
              · refine PP.iconst dX3_readNumbers_131 ?_
                refine PP.iret dX3_readNumbers_132 rfl ?_
                rw [rdN_bad (by omega) (by omega)] at he
                exact ⟨_, rfl, hfr, h24, Or.inl ⟨he.symm, rfl⟩⟩
              · refine PP.aload_n dX3_readNumbers_92 rfl ?_
                refine PP.getfR dX3_readNumbers_93 fl_X3_27 sc2 rfl ?_
                refine PP.aload_n dX3_readNumbers_96 rfl ?_
                refine PP.getfI dX3_readNumbers_97 fl_X3_63 sc2 rfl ?_
                refine PP.eqI (y := (ns.length : Int)) n1 ?_
                refine PP.iload dX3_readNumbers_100 rfl ?_
                refine PP.iastoreN (n := ns.length) sc13 (by first | decide | omega) (by first | rfl | omega) (by first | omega | (unfold R32; omega)) (by first | omega | (unfold R32; omega)) dX3_readNumbers_102 ?_
                refine PP.aload_n dX3_readNumbers_103 rfl ?_
                refine PP.dup rfl dX3_readNumbers_104 ?_
                refine PP.getfI dX3_readNumbers_105 fl_X3_63 sc2 rfl ?_
                refine PP.eqI (y := (ns.length : Int)) (by rw [up_ne (by decide)]; exact n1) ?_
                refine PP.iconst dX3_readNumbers_108 ?_
                refine PP.iadd dX3_readNumbers_109 ?_
                refine PP.putI dX3_readNumbers_110 fp_X3_63 sc2 rfl (by first | omega | (unfold R32; omega)) ?_
                refine PP.iconst dX3_readNumbers_113 ?_
                refine PP.istore (L' := [_, _, _, _, _, _, _, _]) dX3_readNumbers_114 (Nat.le_of_ble_eq_true rfl) rfl rfl ?_
                refine PP.iconst dX3_readNumbers_116 ?_
                refine PP.istore (L' := [_, _, _, _, _, _, _, _]) dX3_readNumbers_117 (Nat.le_of_ble_eq_true rfl) rfl rfl ?_
                refine PP.iload dX3_readNumbers_119 rfl ?_
                refine PP.bipush dX3_readNumbers_121 (by decide) ?_
                refine PP.icmp_ne (tgt := 133) (by first | omega | (unfold R32; omega)) (by first | omega | (unfold R32; omega)) dX3_readNumbers_123 (by decide) (fun h123 => ?_) (fun h123 => ?_)
                · refine PP.iinc (L' := [_, _, _, _, _, _, _, _]) dX3_readNumbers_133 rfl rfl rfl ?_
                  refine PP.goto (tgt := 14) dX3_readNumbers_136 (by decide) ?_
                  refine PP.frg 7 (L' := [_, _, _, _, _, _, _, _]) rfl ?_
                  have hcm : σ 1 i = 44 := by omega
                  rw [rdN_com hcm (by omega) (by omega)] at he
                  refine ih (i + 1) _ (ns ++ [num]) 0 0 (by omega) (fun c h0 h1 => by rw [up_ne h0, up_ne h1]; exact hfr c h0 h1) (by rw [up_j (by decide), up_ne (by decide)]; exact h24) ⟨by rw [up_at]; simp, fun j z hj => ?_⟩ (by simp; omega) (by omega) (by simp) he (by omega)
                  rw [up_ne (by decide)]
                  by_cases ej : j < ns.length
                  · rw [List.getElem?_append_left ej] at hj
                    rw [up_j (by omega)]; exact n2 j z hj
                  · rw [List.getElem?_append_right (by omega)] at hj
                    have hz : j - ns.length < 1 := (List.getElem?_eq_some_iff.mp hj).1
                    have ej2 : j = ns.length := by omega
                    subst ej2
                    rw [Nat.sub_self] at hj
                    cases hj
                    exact up_at
                · refine PP.iload dX3_readNumbers_126 rfl ?_
                  refine PP.iconst dX3_readNumbers_128 ?_
                  refine PP.iadd dX3_readNumbers_129 ?_
                  refine PP.iret dX3_readNumbers_130 rfl ?_
                  have hcm : σ 1 i = 59 := by omega
                  rw [rdN_end hcm (by omega) (by omega)] at he
                  refine ⟨_, rfl, fun c h0 h1 => by rw [up_ne h0, up_ne h1]; exact hfr c h0 h1, by rw [up_j (by decide), up_ne (by decide)]; exact h24, Or.inr ⟨_, _, he.symm, rfl, ⟨by rw [up_at]; simp, fun j z hj => ?_⟩⟩⟩
                  rw [up_ne (by decide)]
                  by_cases ej : j < ns.length
                  · rw [List.getElem?_append_left ej] at hj
                    rw [up_j (by omega)]; exact n2 j z hj
                  · rw [List.getElem?_append_right (by omega)] at hj
                    have hz : j - ns.length < 1 := (List.getElem?_eq_some_iff.mp hj).1
                    have ej2 : j = ns.length := by omega
                    subst ej2
                    rw [Nat.sub_self] at hj
                    cases hj
                    exact up_at
          · refine PP.iload dX3_readNumbers_72 rfl ?_
            refine PP.bipush dX3_readNumbers_74 (by decide) ?_
            refine PP.icmp_ne (tgt := 131) (by first | omega | (unfold R32; omega)) (by first | omega | (unfold R32; omega)) dX3_readNumbers_76 (by decide) (fun h76 => ?_) (fun h76 => ?_)
            · refine PP.iconst dX3_readNumbers_131 ?_
              refine PP.iret dX3_readNumbers_132 rfl ?_
              rw [rdN_bad (by omega) (by omega)] at he
              exact ⟨_, rfl, hfr, h24, Or.inl ⟨he.symm, rfl⟩⟩
            · refine PP.iload dX3_readNumbers_79 rfl ?_
              refine PP.if_le (tgt := 131) (by first | omega | (unfold R32; omega)) dX3_readNumbers_81 (by decide) (fun h81 => ?_) (fun h81 => ?_)
              · refine PP.iconst dX3_readNumbers_131 ?_
                refine PP.iret dX3_readNumbers_132 rfl ?_
                rw [rdN_bad (by omega) (by omega)] at he
                exact ⟨_, rfl, hfr, h24, Or.inl ⟨he.symm, rfl⟩⟩
              · refine PP.aload_n dX3_readNumbers_84 rfl ?_
                refine PP.getfI dX3_readNumbers_85 fl_X3_63 sc2 rfl ?_
                refine PP.eqI (y := (ns.length : Int)) n1 ?_
                refine PP.iconst dX3_readNumbers_88 ?_
                refine PP.icmp_ge (tgt := 131) (by first | omega | (unfold R32; omega)) (by first | omega | (unfold R32; omega)) dX3_readNumbers_89 (by decide) (fun h89 => ?_) (fun h89 => ?_)
                · refine PP.iconst dX3_readNumbers_131 ?_
                  refine PP.iret dX3_readNumbers_132 rfl ?_
                  rw [rdN_bad (by omega) (by omega)] at he
                  exact ⟨_, rfl, hfr, h24, Or.inl ⟨he.symm, rfl⟩⟩
                · refine PP.aload_n dX3_readNumbers_92 rfl ?_
                  refine PP.getfR dX3_readNumbers_93 fl_X3_27 sc2 rfl ?_
                  refine PP.aload_n dX3_readNumbers_96 rfl ?_
                  refine PP.getfI dX3_readNumbers_97 fl_X3_63 sc2 rfl ?_
                  refine PP.eqI (y := (ns.length : Int)) n1 ?_
                  refine PP.iload dX3_readNumbers_100 rfl ?_
                  refine PP.iastoreN (n := ns.length) sc13 (by first | decide | omega) (by first | rfl | omega) (by first | omega | (unfold R32; omega)) (by first | omega | (unfold R32; omega)) dX3_readNumbers_102 ?_
                  refine PP.aload_n dX3_readNumbers_103 rfl ?_
                  refine PP.dup rfl dX3_readNumbers_104 ?_
                  refine PP.getfI dX3_readNumbers_105 fl_X3_63 sc2 rfl ?_
                  refine PP.eqI (y := (ns.length : Int)) (by rw [up_ne (by decide)]; exact n1) ?_
                  refine PP.iconst dX3_readNumbers_108 ?_
                  refine PP.iadd dX3_readNumbers_109 ?_
                  refine PP.putI dX3_readNumbers_110 fp_X3_63 sc2 rfl (by first | omega | (unfold R32; omega)) ?_
                  refine PP.iconst dX3_readNumbers_113 ?_
                  refine PP.istore (L' := [_, _, _, _, _, _, _, _]) dX3_readNumbers_114 (Nat.le_of_ble_eq_true rfl) rfl rfl ?_
                  refine PP.iconst dX3_readNumbers_116 ?_
                  refine PP.istore (L' := [_, _, _, _, _, _, _, _]) dX3_readNumbers_117 (Nat.le_of_ble_eq_true rfl) rfl rfl ?_
                  refine PP.iload dX3_readNumbers_119 rfl ?_
                  refine PP.bipush dX3_readNumbers_121 (by decide) ?_
                  refine PP.icmp_ne (tgt := 133) (by first | omega | (unfold R32; omega)) (by first | omega | (unfold R32; omega)) dX3_readNumbers_123 (by decide) (fun h123 => ?_) (fun h123 => ?_)
                  · refine PP.iinc (L' := [_, _, _, _, _, _, _, _]) dX3_readNumbers_133 rfl rfl rfl ?_
                    refine PP.goto (tgt := 14) dX3_readNumbers_136 (by decide) ?_
                    refine PP.frg 7 (L' := [_, _, _, _, _, _, _, _]) rfl ?_
                    have hcm : σ 1 i = 44 := by omega
                    rw [rdN_com hcm (by omega) (by omega)] at he
                    refine ih (i + 1) _ (ns ++ [num]) 0 0 (by omega) (fun c h0 h1 => by rw [up_ne h0, up_ne h1]; exact hfr c h0 h1) (by rw [up_j (by decide), up_ne (by decide)]; exact h24) ⟨by rw [up_at]; simp, fun j z hj => ?_⟩ (by simp; omega) (by omega) (by simp) he (by omega)
                    rw [up_ne (by decide)]
                    by_cases ej : j < ns.length
                    · rw [List.getElem?_append_left ej] at hj
                      rw [up_j (by omega)]; exact n2 j z hj
                    · rw [List.getElem?_append_right (by omega)] at hj
                      have hz : j - ns.length < 1 := (List.getElem?_eq_some_iff.mp hj).1
                      have ej2 : j = ns.length := by omega
                      subst ej2
                      rw [Nat.sub_self] at hj
                      cases hj
                      exact up_at
                  · refine PP.iload dX3_readNumbers_126 rfl ?_
                    refine PP.iconst dX3_readNumbers_128 ?_
                    refine PP.iadd dX3_readNumbers_129 ?_
                    refine PP.iret dX3_readNumbers_130 rfl ?_
                    have hcm : σ 1 i = 59 := by omega
                    rw [rdN_end hcm (by omega) (by omega)] at he
                    refine ⟨_, rfl, fun c h0 h1 => by rw [up_ne h0, up_ne h1]; exact hfr c h0 h1, by rw [up_j (by decide), up_ne (by decide)]; exact h24, Or.inr ⟨_, _, he.symm, rfl, ⟨by rw [up_at]; simp, fun j z hj => ?_⟩⟩⟩
                    rw [up_ne (by decide)]
                    by_cases ej : j < ns.length
                    · rw [List.getElem?_append_left ej] at hj
                      rw [up_j (by omega)]; exact n2 j z hj
                    · rw [List.getElem?_append_right (by omega)] at hj
                      have hz : j - ns.length < 1 := (List.getElem?_eq_some_iff.mp hj).1
                      have ej2 : j = ns.length := by omega
                      subst ej2
                      rw [Nat.sub_self] at hj
                      cases hj
                      exact up_at
        · refine PP.iload dX3_readNumbers_33 rfl ?_
          refine PP.bipush dX3_readNumbers_35 (by decide) ?_
          refine PP.icmp_gt (tgt := 65) (by first | omega | (unfold R32; omega)) (by first | omega | (unfold R32; omega)) dX3_readNumbers_37 (by decide) (fun h37 => ?_) (fun h37 => ?_)
          · refine PP.iload dX3_readNumbers_65 rfl ?_
            refine PP.bipush dX3_readNumbers_67 (by decide) ?_
            refine PP.icmp_eq (tgt := 79) (by first | omega | (unfold R32; omega)) (by first | omega | (unfold R32; omega)) dX3_readNumbers_69 (by decide) (fun h69 => ?_) (fun h69 => ?_)
            · refine PP.iload dX3_readNumbers_79 rfl ?_
              refine PP.if_le (tgt := 131) (by first | omega | (unfold R32; omega)) dX3_readNumbers_81 (by decide) (fun h81 => ?_) (fun h81 => ?_)
              · refine PP.iconst dX3_readNumbers_131 ?_
                refine PP.iret dX3_readNumbers_132 rfl ?_
                rw [rdN_bad (by omega) (by omega)] at he
                exact ⟨_, rfl, hfr, h24, Or.inl ⟨he.symm, rfl⟩⟩
              · refine PP.aload_n dX3_readNumbers_84 rfl ?_
                refine PP.getfI dX3_readNumbers_85 fl_X3_63 sc2 rfl ?_
                refine PP.eqI (y := (ns.length : Int)) n1 ?_
                refine PP.iconst dX3_readNumbers_88 ?_
                refine PP.icmp_ge (tgt := 131) (by first | omega | (unfold R32; omega)) (by first | omega | (unfold R32; omega)) dX3_readNumbers_89 (by decide) (fun h89 => ?_) (fun h89 => ?_)
                · refine PP.iconst dX3_readNumbers_131 ?_
                  refine PP.iret dX3_readNumbers_132 rfl ?_
                  rw [rdN_bad (by omega) (by omega)] at he
                  exact ⟨_, rfl, hfr, h24, Or.inl ⟨he.symm, rfl⟩⟩
                · refine PP.aload_n dX3_readNumbers_92 rfl ?_
                  refine PP.getfR dX3_readNumbers_93 fl_X3_27 sc2 rfl ?_
                  refine PP.aload_n dX3_readNumbers_96 rfl ?_
                  refine PP.getfI dX3_readNumbers_97 fl_X3_63 sc2 rfl ?_
                  refine PP.eqI (y := (ns.length : Int)) n1 ?_
                  refine PP.iload dX3_readNumbers_100 rfl ?_
                  refine PP.iastoreN (n := ns.length) sc13 (by first | decide | omega) (by first | rfl | omega) (by first | omega | (unfold R32; omega)) (by first | omega | (unfold R32; omega)) dX3_readNumbers_102 ?_
                  refine PP.aload_n dX3_readNumbers_103 rfl ?_
                  refine PP.dup rfl dX3_readNumbers_104 ?_
                  refine PP.getfI dX3_readNumbers_105 fl_X3_63 sc2 rfl ?_
                  refine PP.eqI (y := (ns.length : Int)) (by rw [up_ne (by decide)]; exact n1) ?_
                  refine PP.iconst dX3_readNumbers_108 ?_
                  refine PP.iadd dX3_readNumbers_109 ?_
                  refine PP.putI dX3_readNumbers_110 fp_X3_63 sc2 rfl (by first | omega | (unfold R32; omega)) ?_
                  refine PP.iconst dX3_readNumbers_113 ?_
                  refine PP.istore (L' := [_, _, _, _, _, _, _, _]) dX3_readNumbers_114 (Nat.le_of_ble_eq_true rfl) rfl rfl ?_
                  refine PP.iconst dX3_readNumbers_116 ?_
                  refine PP.istore (L' := [_, _, _, _, _, _, _, _]) dX3_readNumbers_117 (Nat.le_of_ble_eq_true rfl) rfl rfl ?_
                  refine PP.iload dX3_readNumbers_119 rfl ?_
                  refine PP.bipush dX3_readNumbers_121 (by decide) ?_
                  refine PP.icmp_ne (tgt := 133) (by first | omega | (unfold R32; omega)) (by first | omega | (unfold R32; omega)) dX3_readNumbers_123 (by decide) (fun h123 => ?_) (fun h123 => ?_)
                  · refine PP.iinc (L' := [_, _, _, _, _, _, _, _]) dX3_readNumbers_133 rfl rfl rfl ?_
                    refine PP.goto (tgt := 14) dX3_readNumbers_136 (by decide) ?_
                    refine PP.frg 7 (L' := [_, _, _, _, _, _, _, _]) rfl ?_
                    have hcm : σ 1 i = 44 := by omega
                    rw [rdN_com hcm (by omega) (by omega)] at he
                    refine ih (i + 1) _ (ns ++ [num]) 0 0 (by omega) (fun c h0 h1 => by rw [up_ne h0, up_ne h1]; exact hfr c h0 h1) (by rw [up_j (by decide), up_ne (by decide)]; exact h24) ⟨by rw [up_at]; simp, fun j z hj => ?_⟩ (by simp; omega) (by omega) (by simp) he (by omega)
                    rw [up_ne (by decide)]
                    by_cases ej : j < ns.length
                    · rw [List.getElem?_append_left ej] at hj
                      rw [up_j (by omega)]; exact n2 j z hj
                    · rw [List.getElem?_append_right (by omega)] at hj
                      have hz : j - ns.length < 1 := (List.getElem?_eq_some_iff.mp hj).1
                      have ej2 : j = ns.length := by omega
                      subst ej2
                      rw [Nat.sub_self] at hj
                      cases hj
                      exact up_at
                  · refine PP.iload dX3_readNumbers_126 rfl ?_
                    refine PP.iconst dX3_readNumbers_128 ?_
                    refine PP.iadd dX3_readNumbers_129 ?_
                    refine PP.iret dX3_readNumbers_130 rfl ?_
                    have hcm : σ 1 i = 59 := by omega
                    rw [rdN_end hcm (by omega) (by omega)] at he
                    refine ⟨_, rfl, fun c h0 h1 => by rw [up_ne h0, up_ne h1]; exact hfr c h0 h1, by rw [up_j (by decide), up_ne (by decide)]; exact h24, Or.inr ⟨_, _, he.symm, rfl, ⟨by rw [up_at]; simp, fun j z hj => ?_⟩⟩⟩
                    rw [up_ne (by decide)]
                    by_cases ej : j < ns.length
                    · rw [List.getElem?_append_left ej] at hj
                      rw [up_j (by omega)]; exact n2 j z hj
                    · rw [List.getElem?_append_right (by omega)] at hj
                      have hz : j - ns.length < 1 := (List.getElem?_eq_some_iff.mp hj).1
                      have ej2 : j = ns.length := by omega
                      subst ej2
                      rw [Nat.sub_self] at hj
                      cases hj
                      exact up_at
            · refine PP.iload dX3_readNumbers_72 rfl ?_
              refine PP.bipush dX3_readNumbers_74 (by decide) ?_
              refine PP.icmp_ne (tgt := 131) (by first | omega | (unfold R32; omega)) (by first | omega | (unfold R32; omega)) dX3_readNumbers_76 (by decide) (fun h76 => ?_) (fun h76 => ?_)
              · refine PP.iconst dX3_readNumbers_131 ?_
                refine PP.iret dX3_readNumbers_132 rfl ?_
                rw [rdN_bad (by omega) (by omega)] at he
                exact ⟨_, rfl, hfr, h24, Or.inl ⟨he.symm, rfl⟩⟩
              · refine PP.iload dX3_readNumbers_79 rfl ?_
                refine PP.if_le (tgt := 131) (by first | omega | (unfold R32; omega)) dX3_readNumbers_81 (by decide) (fun h81 => ?_) (fun h81 => ?_)
                · refine PP.iconst dX3_readNumbers_131 ?_
                  refine PP.iret dX3_readNumbers_132 rfl ?_
                  rw [rdN_bad (by omega) (by omega)] at he
                  exact ⟨_, rfl, hfr, h24, Or.inl ⟨he.symm, rfl⟩⟩
                · refine PP.aload_n dX3_readNumbers_84 rfl ?_
                  refine PP.getfI dX3_readNumbers_85 fl_X3_63 sc2 rfl ?_
                  refine PP.eqI (y := (ns.length : Int)) n1 ?_
                  refine PP.iconst dX3_readNumbers_88 ?_
                  refine PP.icmp_ge (tgt := 131) (by first | omega | (unfold R32; omega)) (by first | omega | (unfold R32; omega)) dX3_readNumbers_89 (by decide) (fun h89 => ?_) (fun h89 => ?_)
                  · refine PP.iconst dX3_readNumbers_131 ?_
                    refine PP.iret dX3_readNumbers_132 rfl ?_
                    rw [rdN_bad (by omega) (by omega)] at he
                    exact ⟨_, rfl, hfr, h24, Or.inl ⟨he.symm, rfl⟩⟩
                  · refine PP.aload_n dX3_readNumbers_92 rfl ?_
                    refine PP.getfR dX3_readNumbers_93 fl_X3_27 sc2 rfl ?_
                    refine PP.aload_n dX3_readNumbers_96 rfl ?_
                    refine PP.getfI dX3_readNumbers_97 fl_X3_63 sc2 rfl ?_
                    refine PP.eqI (y := (ns.length : Int)) n1 ?_
                    refine PP.iload dX3_readNumbers_100 rfl ?_
                    refine PP.iastoreN (n := ns.length) sc13 (by first | decide | omega) (by first | rfl | omega) (by first | omega | (unfold R32; omega)) (by first | omega | (unfold R32; omega)) dX3_readNumbers_102 ?_
                    refine PP.aload_n dX3_readNumbers_103 rfl ?_
                    refine PP.dup rfl dX3_readNumbers_104 ?_
                    refine PP.getfI dX3_readNumbers_105 fl_X3_63 sc2 rfl ?_
                    refine PP.eqI (y := (ns.length : Int)) (by rw [up_ne (by decide)]; exact n1) ?_
                    refine PP.iconst dX3_readNumbers_108 ?_
                    refine PP.iadd dX3_readNumbers_109 ?_
                    refine PP.putI dX3_readNumbers_110 fp_X3_63 sc2 rfl (by first | omega | (unfold R32; omega)) ?_
                    refine PP.iconst dX3_readNumbers_113 ?_
                    refine PP.istore (L' := [_, _, _, _, _, _, _, _]) dX3_readNumbers_114 (Nat.le_of_ble_eq_true rfl) rfl rfl ?_
                    refine PP.iconst dX3_readNumbers_116 ?_
                    refine PP.istore (L' := [_, _, _, _, _, _, _, _]) dX3_readNumbers_117 (Nat.le_of_ble_eq_true rfl) rfl rfl ?_
                    refine PP.iload dX3_readNumbers_119 rfl ?_
                    refine PP.bipush dX3_readNumbers_121 (by decide) ?_
                    refine PP.icmp_ne (tgt := 133) (by first | omega | (unfold R32; omega)) (by first | omega | (unfold R32; omega)) dX3_readNumbers_123 (by decide) (fun h123 => ?_) (fun h123 => ?_)
                    · refine PP.iinc (L' := [_, _, _, _, _, _, _, _]) dX3_readNumbers_133 rfl rfl rfl ?_
                      refine PP.goto (tgt := 14) dX3_readNumbers_136 (by decide) ?_
                      refine PP.frg 7 (L' := [_, _, _, _, _, _, _, _]) rfl ?_
                      have hcm : σ 1 i = 44 := by omega
                      rw [rdN_com hcm (by omega) (by omega)] at he
                      refine ih (i + 1) _ (ns ++ [num]) 0 0 (by omega) (fun c h0 h1 => by rw [up_ne h0, up_ne h1]; exact hfr c h0 h1) (by rw [up_j (by decide), up_ne (by decide)]; exact h24) ⟨by rw [up_at]; simp, fun j z hj => ?_⟩ (by simp; omega) (by omega) (by simp) he (by omega)
                      rw [up_ne (by decide)]
                      by_cases ej : j < ns.length
                      · rw [List.getElem?_append_left ej] at hj
                        rw [up_j (by omega)]; exact n2 j z hj
                      · rw [List.getElem?_append_right (by omega)] at hj
                        have hz : j - ns.length < 1 := (List.getElem?_eq_some_iff.mp hj).1
                        have ej2 : j = ns.length := by omega
                        subst ej2
                        rw [Nat.sub_self] at hj
                        cases hj
                        exact up_at
                    · refine PP.iload dX3_readNumbers_126 rfl ?_
                      refine PP.iconst dX3_readNumbers_128 ?_
                      refine PP.iadd dX3_readNumbers_129 ?_
                      refine PP.iret dX3_readNumbers_130 rfl ?_
                      have hcm : σ 1 i = 59 := by omega
                      rw [rdN_end hcm (by omega) (by omega)] at he
                      refine ⟨_, rfl, fun c h0 h1 => by rw [up_ne h0, up_ne h1]; exact hfr c h0 h1, by rw [up_j (by decide), up_ne (by decide)]; exact h24, Or.inr ⟨_, _, he.symm, rfl, ⟨by rw [up_at]; simp, fun j z hj => ?_⟩⟩⟩
                      rw [up_ne (by decide)]
                      by_cases ej : j < ns.length
                      · rw [List.getElem?_append_left ej] at hj
                        rw [up_j (by omega)]; exact n2 j z hj
                      · rw [List.getElem?_append_right (by omega)] at hj
                        have hz : j - ns.length < 1 := (List.getElem?_eq_some_iff.mp hj).1
                        have ej2 : j = ns.length := by omega
                        subst ej2
                        rw [Nat.sub_self] at hj
                        cases hj
                        exact up_at
          · refine PP.iload dX3_readNumbers_40 rfl ?_
            refine PP.iconst dX3_readNumbers_42 ?_
            refine PP.icmp_ge (tgt := 65) (by first | omega | (unfold R32; omega)) (by first | omega | (unfold R32; omega)) dX3_readNumbers_43 (by decide) (fun h43 => ?_) (fun h43 => ?_)
            · refine PP.iload dX3_readNumbers_65 rfl ?_
              refine PP.bipush dX3_readNumbers_67 (by decide) ?_
              refine PP.icmp_eq (tgt := 79) (by first | omega | (unfold R32; omega)) (by first | omega | (unfold R32; omega)) dX3_readNumbers_69 (by decide) (fun h69 => ?_) (fun h69 => ?_)
              · refine PP.iload dX3_readNumbers_79 rfl ?_
                refine PP.if_le (tgt := 131) (by first | omega | (unfold R32; omega)) dX3_readNumbers_81 (by decide) (fun h81 => ?_) (fun h81 => ?_)
                · refine PP.iconst dX3_readNumbers_131 ?_
                  refine PP.iret dX3_readNumbers_132 rfl ?_
                  rw [rdN_bad (by omega) (by omega)] at he
                  exact ⟨_, rfl, hfr, h24, Or.inl ⟨he.symm, rfl⟩⟩
                · refine PP.aload_n dX3_readNumbers_84 rfl ?_
                  refine PP.getfI dX3_readNumbers_85 fl_X3_63 sc2 rfl ?_
                  refine PP.eqI (y := (ns.length : Int)) n1 ?_
                  refine PP.iconst dX3_readNumbers_88 ?_
                  refine PP.icmp_ge (tgt := 131) (by first | omega | (unfold R32; omega)) (by first | omega | (unfold R32; omega)) dX3_readNumbers_89 (by decide) (fun h89 => ?_) (fun h89 => ?_)
                  · refine PP.iconst dX3_readNumbers_131 ?_
                    refine PP.iret dX3_readNumbers_132 rfl ?_
                    rw [rdN_bad (by omega) (by omega)] at he
                    exact ⟨_, rfl, hfr, h24, Or.inl ⟨he.symm, rfl⟩⟩
                  · refine PP.aload_n dX3_readNumbers_92 rfl ?_
                    refine PP.getfR dX3_readNumbers_93 fl_X3_27 sc2 rfl ?_
                    refine PP.aload_n dX3_readNumbers_96 rfl ?_
                    refine PP.getfI dX3_readNumbers_97 fl_X3_63 sc2 rfl ?_
                    refine PP.eqI (y := (ns.length : Int)) n1 ?_
                    refine PP.iload dX3_readNumbers_100 rfl ?_
                    refine PP.iastoreN (n := ns.length) sc13 (by first | decide | omega) (by first | rfl | omega) (by first | omega | (unfold R32; omega)) (by first | omega | (unfold R32; omega)) dX3_readNumbers_102 ?_
                    refine PP.aload_n dX3_readNumbers_103 rfl ?_
                    refine PP.dup rfl dX3_readNumbers_104 ?_
                    refine PP.getfI dX3_readNumbers_105 fl_X3_63 sc2 rfl ?_
                    refine PP.eqI (y := (ns.length : Int)) (by rw [up_ne (by decide)]; exact n1) ?_
                    refine PP.iconst dX3_readNumbers_108 ?_
                    refine PP.iadd dX3_readNumbers_109 ?_
                    refine PP.putI dX3_readNumbers_110 fp_X3_63 sc2 rfl (by first | omega | (unfold R32; omega)) ?_
                    refine PP.iconst dX3_readNumbers_113 ?_
                    refine PP.istore (L' := [_, _, _, _, _, _, _, _]) dX3_readNumbers_114 (Nat.le_of_ble_eq_true rfl) rfl rfl ?_
                    refine PP.iconst dX3_readNumbers_116 ?_
                    refine PP.istore (L' := [_, _, _, _, _, _, _, _]) dX3_readNumbers_117 (Nat.le_of_ble_eq_true rfl) rfl rfl ?_
                    refine PP.iload dX3_readNumbers_119 rfl ?_
                    refine PP.bipush dX3_readNumbers_121 (by decide) ?_
                    refine PP.icmp_ne (tgt := 133) (by first | omega | (unfold R32; omega)) (by first | omega | (unfold R32; omega)) dX3_readNumbers_123 (by decide) (fun h123 => ?_) (fun h123 => ?_)
                    · refine PP.iinc (L' := [_, _, _, _, _, _, _, _]) dX3_readNumbers_133 rfl rfl rfl ?_
                      refine PP.goto (tgt := 14) dX3_readNumbers_136 (by decide) ?_
                      refine PP.frg 7 (L' := [_, _, _, _, _, _, _, _]) rfl ?_
                      have hcm : σ 1 i = 44 := by omega
                      rw [rdN_com hcm (by omega) (by omega)] at he
                      refine ih (i + 1) _ (ns ++ [num]) 0 0 (by omega) (fun c h0 h1 => by rw [up_ne h0, up_ne h1]; exact hfr c h0 h1) (by rw [up_j (by decide), up_ne (by decide)]; exact h24) ⟨by rw [up_at]; simp, fun j z hj => ?_⟩ (by simp; omega) (by omega) (by simp) he (by omega)
                      rw [up_ne (by decide)]
                      by_cases ej : j < ns.length
                      · rw [List.getElem?_append_left ej] at hj
                        rw [up_j (by omega)]; exact n2 j z hj
                      · rw [List.getElem?_append_right (by omega)] at hj
                        have hz : j - ns.length < 1 := (List.getElem?_eq_some_iff.mp hj).1
                        have ej2 : j = ns.length := by omega
                        subst ej2
                        rw [Nat.sub_self] at hj
                        cases hj
                        exact up_at
                    · refine PP.iload dX3_readNumbers_126 rfl ?_
                      refine PP.iconst dX3_readNumbers_128 ?_
                      refine PP.iadd dX3_readNumbers_129 ?_
                      refine PP.iret dX3_readNumbers_130 rfl ?_
                      have hcm : σ 1 i = 59 := by omega
                      rw [rdN_end hcm (by omega) (by omega)] at he
                      refine ⟨_, rfl, fun c h0 h1 => by rw [up_ne h0, up_ne h1]; exact hfr c h0 h1, by rw [up_j (by decide), up_ne (by decide)]; exact h24, Or.inr ⟨_, _, he.symm, rfl, ⟨by rw [up_at]; simp, fun j z hj => ?_⟩⟩⟩
                      rw [up_ne (by decide)]
                      by_cases ej : j < ns.length
                      · rw [List.getElem?_append_left ej] at hj
                        rw [up_j (by omega)]; exact n2 j z hj
                      · rw [List.getElem?_append_right (by omega)] at hj
                        have hz : j - ns.length < 1 := (List.getElem?_eq_some_iff.mp hj).1
                        have ej2 : j = ns.length := by omega
                        subst ej2
                        rw [Nat.sub_self] at hj
                        cases hj
                        exact up_at
              · refine PP.iload dX3_readNumbers_72 rfl ?_
                refine PP.bipush dX3_readNumbers_74 (by decide) ?_
                refine PP.icmp_ne (tgt := 131) (by first | omega | (unfold R32; omega)) (by first | omega | (unfold R32; omega)) dX3_readNumbers_76 (by decide) (fun h76 => ?_) (fun h76 => ?_)
                · refine PP.iconst dX3_readNumbers_131 ?_
                  refine PP.iret dX3_readNumbers_132 rfl ?_
                  rw [rdN_bad (by omega) (by omega)] at he
                  exact ⟨_, rfl, hfr, h24, Or.inl ⟨he.symm, rfl⟩⟩
                · refine PP.iload dX3_readNumbers_79 rfl ?_
                  refine PP.if_le (tgt := 131) (by first | omega | (unfold R32; omega)) dX3_readNumbers_81 (by decide) (fun h81 => ?_) (fun h81 => ?_)
                  · refine PP.iconst dX3_readNumbers_131 ?_
                    refine PP.iret dX3_readNumbers_132 rfl ?_
                    rw [rdN_bad (by omega) (by omega)] at he
                    exact ⟨_, rfl, hfr, h24, Or.inl ⟨he.symm, rfl⟩⟩
                  · refine PP.aload_n dX3_readNumbers_84 rfl ?_
                    refine PP.getfI dX3_readNumbers_85 fl_X3_63 sc2 rfl ?_
                    refine PP.eqI (y := (ns.length : Int)) n1 ?_
                    refine PP.iconst dX3_readNumbers_88 ?_
                    refine PP.icmp_ge (tgt := 131) (by first | omega | (unfold R32; omega)) (by first | omega | (unfold R32; omega)) dX3_readNumbers_89 (by decide) (fun h89 => ?_) (fun h89 => ?_)
                    · refine PP.iconst dX3_readNumbers_131 ?_
                      refine PP.iret dX3_readNumbers_132 rfl ?_
                      rw [rdN_bad (by omega) (by omega)] at he
                      exact ⟨_, rfl, hfr, h24, Or.inl ⟨he.symm, rfl⟩⟩
                    · refine PP.aload_n dX3_readNumbers_92 rfl ?_
                      refine PP.getfR dX3_readNumbers_93 fl_X3_27 sc2 rfl ?_
                      refine PP.aload_n dX3_readNumbers_96 rfl ?_
                      refine PP.getfI dX3_readNumbers_97 fl_X3_63 sc2 rfl ?_
                      refine PP.eqI (y := (ns.length : Int)) n1 ?_
                      refine PP.iload dX3_readNumbers_100 rfl ?_
                      refine PP.iastoreN (n := ns.length) sc13 (by first | decide | omega) (by first | rfl | omega) (by first | omega | (unfold R32; omega)) (by first | omega | (unfold R32; omega)) dX3_readNumbers_102 ?_
                      refine PP.aload_n dX3_readNumbers_103 rfl ?_
                      refine PP.dup rfl dX3_readNumbers_104 ?_
                      refine PP.getfI dX3_readNumbers_105 fl_X3_63 sc2 rfl ?_
                      refine PP.eqI (y := (ns.length : Int)) (by rw [up_ne (by decide)]; exact n1) ?_
                      refine PP.iconst dX3_readNumbers_108 ?_
                      refine PP.iadd dX3_readNumbers_109 ?_
                      refine PP.putI dX3_readNumbers_110 fp_X3_63 sc2 rfl (by first | omega | (unfold R32; omega)) ?_
                      refine PP.iconst dX3_readNumbers_113 ?_
                      refine PP.istore (L' := [_, _, _, _, _, _, _, _]) dX3_readNumbers_114 (Nat.le_of_ble_eq_true rfl) rfl rfl ?_
                      refine PP.iconst dX3_readNumbers_116 ?_
                      refine PP.istore (L' := [_, _, _, _, _, _, _, _]) dX3_readNumbers_117 (Nat.le_of_ble_eq_true rfl) rfl rfl ?_
                      refine PP.iload dX3_readNumbers_119 rfl ?_
                      refine PP.bipush dX3_readNumbers_121 (by decide) ?_
                      refine PP.icmp_ne (tgt := 133) (by first | omega | (unfold R32; omega)) (by first | omega | (unfold R32; omega)) dX3_readNumbers_123 (by decide) (fun h123 => ?_) (fun h123 => ?_)
                      · refine PP.iinc (L' := [_, _, _, _, _, _, _, _]) dX3_readNumbers_133 rfl rfl rfl ?_
                        refine PP.goto (tgt := 14) dX3_readNumbers_136 (by decide) ?_
                        refine PP.frg 7 (L' := [_, _, _, _, _, _, _, _]) rfl ?_
                        have hcm : σ 1 i = 44 := by omega
                        rw [rdN_com hcm (by omega) (by omega)] at he
                        refine ih (i + 1) _ (ns ++ [num]) 0 0 (by omega) (fun c h0 h1 => by rw [up_ne h0, up_ne h1]; exact hfr c h0 h1) (by rw [up_j (by decide), up_ne (by decide)]; exact h24) ⟨by rw [up_at]; simp, fun j z hj => ?_⟩ (by simp; omega) (by omega) (by simp) he (by omega)
                        rw [up_ne (by decide)]
                        by_cases ej : j < ns.length
                        · rw [List.getElem?_append_left ej] at hj
                          rw [up_j (by omega)]; exact n2 j z hj
                        · rw [List.getElem?_append_right (by omega)] at hj
                          have hz : j - ns.length < 1 := (List.getElem?_eq_some_iff.mp hj).1
                          have ej2 : j = ns.length := by omega
                          subst ej2
                          rw [Nat.sub_self] at hj
                          cases hj
                          exact up_at
                      · refine PP.iload dX3_readNumbers_126 rfl ?_
                        refine PP.iconst dX3_readNumbers_128 ?_
                        refine PP.iadd dX3_readNumbers_129 ?_
                        refine PP.iret dX3_readNumbers_130 rfl ?_
                        have hcm : σ 1 i = 59 := by omega
                        rw [rdN_end hcm (by omega) (by omega)] at he
                        refine ⟨_, rfl, fun c h0 h1 => by rw [up_ne h0, up_ne h1]; exact hfr c h0 h1, by rw [up_j (by decide), up_ne (by decide)]; exact h24, Or.inr ⟨_, _, he.symm, rfl, ⟨by rw [up_at]; simp, fun j z hj => ?_⟩⟩⟩
                        rw [up_ne (by decide)]
                        by_cases ej : j < ns.length
                        · rw [List.getElem?_append_left ej] at hj
                          rw [up_j (by omega)]; exact n2 j z hj
                        · rw [List.getElem?_append_right (by omega)] at hj
                          have hz : j - ns.length < 1 := (List.getElem?_eq_some_iff.mp hj).1
                          have ej2 : j = ns.length := by omega
                          subst ej2
                          rw [Nat.sub_self] at hj
                          cases hj
                          exact up_at
            · refine PP.iload dX3_readNumbers_46 rfl ?_
              refine PP.bipush dX3_readNumbers_48 (by decide) ?_
              refine PP.imul dX3_readNumbers_50 ?_
              refine PP.iload dX3_readNumbers_51 rfl ?_
              refine PP.iadd dX3_readNumbers_53 ?_
              refine PP.bipush dX3_readNumbers_54 (by decide) ?_
              refine PP.isub dX3_readNumbers_56 ?_
              refine PP.istore (L' := [_, _, _, _, _, _, _, _]) dX3_readNumbers_57 (Nat.le_of_ble_eq_true rfl) rfl rfl ?_
              refine PP.iinc (L' := [_, _, _, _, _, _, _, _]) dX3_readNumbers_59 rfl rfl rfl ?_
              refine PP.goto (tgt := 133) dX3_readNumbers_62 (by decide) ?_
              refine PP.iinc (L' := [_, _, _, _, _, _, _, _]) dX3_readNumbers_133 rfl rfl rfl ?_
              refine PP.goto (tgt := 14) dX3_readNumbers_136 (by decide) ?_
              refine PP.frg 7 (L' := [_, _, _, _, _, _, _, _]) rfl ?_
              rw [rdN_dig h30 h37 (by omega)] at he
              exact ih (i + 1) _ ns (fig + 1) _ (by omega) hfr h24 hN hl (by omega) (by rw [Int.pow_succ]; omega) he (by omega)
  refine PP.aload_n dX3_readNumbers_0 rfl ?_
  refine PP.iconst dX3_readNumbers_1 ?_
  refine PP.putI dX3_readNumbers_2 fp_X3_63 sc2 rfl (by first | omega | exact hg _ _ | (unfold R32; omega)) ?_
  refine PP.iconst dX3_readNumbers_5 ?_
  refine PP.istore (L' := [_, _, _, _, _, _, _, _]) dX3_readNumbers_6 (Nat.le_of_ble_eq_true rfl) rfl rfl ?_
  refine PP.iconst dX3_readNumbers_8 ?_
  refine PP.istore (L' := [_, _, _, _, _, _, _, _]) dX3_readNumbers_9 (Nat.le_of_ble_eq_true rfl) rfl rfl ?_
  refine PP.iload_n dX3_readNumbers_11 rfl ?_
  refine PP.istore (L' := [_, _, _, _, _, _, _, _]) dX3_readNumbers_12 (Nat.le_of_ble_eq_true rfl) rfl rfl ?_
  exact key (b - fr) fr _ [] 0 0 (by omega) (fun c h0 h1 => up_ne h0) (up_j (by decide)) ⟨up_at, fun j z hj => by simp at hj⟩ (by simp) (by omega) (by simp) rfl hf
