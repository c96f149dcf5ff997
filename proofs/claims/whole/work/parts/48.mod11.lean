/-! the model: numbers of a text -/
def ltA (x : Nat → Int) (b k : Nat) : Int := if k < b then x k else 0
theorem m_letterAt {σ : Sg} {b k : Nat} (hb : σ 0 0 = (b : Int)) (hb2 : b ≤ 200) (hk : k ≤ 1000) : OK SHm mX6_letterAt 1 [vR 0, vI (k : Int)] σ (RV (ltA (σ 1) b k) σ) := by
  refine OK.enter (L' := [vR 0, vI (k : Int)]) (by decide +kernel) (by simp [ent0]) rfl ?_
  refine PP.iload_n dX6_letterAt_0 rfl ?_
  refine PP.aload_n dX6_letterAt_1 rfl ?_
  refine PP.getfI dX6_letterAt_2 fl_X6_74 sm0 rfl ?_
  refine PP.icmp_ge (tgt := 17) (by first | omega | (unfold R32; omega)) (by first | omega | (unfold R32; omega)) dX6_letterAt_5 (by decide) (fun h5 => ?_) (fun h5 => ?_)
  · refine PP.iconst dX6_letterAt_17 ?_
    refine PP.iret dX6_letterAt_18 rfl ?_
    first
    | exact RVe (by unfold ltA; rw [if_pos (by omega)])
    | exact RVe (by unfold ltA; rw [if_neg (by omega)])
  · refine PP.aload_n dX6_letterAt_8 rfl ?_
    refine PP.getfR dX6_letterAt_9 fl_X6_7 sm0 rfl ?_
    refine PP.iload_n dX6_letterAt_12 rfl ?_
    refine PP.ialoadN (n := k) sm1 (by first | decide | omega) (by first | rfl | omega) (by first | omega | (unfold R32; omega)) dX6_letterAt_13 ?_
    refine PP.goto (tgt := 18) dX6_letterAt_14 (by decide) ?_
    refine PP.iret dX6_letterAt_18 rfl ?_
    first
    | exact RVe (by unfold ltA; rw [if_pos (by omega)])
    | exact RVe (by unfold ltA; rw [if_neg (by omega)])
theorem m_numbers {σ : Sg} {b i0 many : Nat} {R : Option (List Int × Nat)} (hb : σ 0 0 = (b : Int)) (hb2 : b ≤ 200) (hx : ∀ j, j < b → 0 ≤ σ 1 j ∧ σ 1 j ≤ 127) (hi : σ 0 12 = (i0 : Int)) (hi2 : i0 ≤ 201) (hm : 1 ≤ many ∧ many ≤ 4) (hR : rdN (σ 1) (b - i0) i0 [] 0 0 = R) : OK SHm mX6_numbers 2 [vR 0, vI (many : Int)] σ (RP (fun v τ => (∀ c, c ≠ 0 → c ≠ 9 → τ c = σ c) ∧ (∀ j, j ≠ 12 → τ 0 j = σ 0 j) ∧ ((v = 0 ∧ ∀ ns nx, R = some (ns, nx) → ns.length ≠ many) ∨ (v = 1 ∧ ∃ ns nx, R = some (ns, nx) ∧ ns.length = many ∧ τ 0 12 = ((nx : Nat) : Int) ∧ ∀ (j : Nat) (z : Int), ns[j]? = some z → τ 9 j = z)))) := by
  have bad3 : R = none → ∀ (σ1 : Sg) (i k : Nat) (v : Int), (∀ c, c ≠ 0 → c ≠ 9 → σ1 c = σ c) → (∀ j, j ≠ 12 → σ1 0 j = σ 0 j) → σ1 0 12 = (i : Int) → i ≤ 300 → PP SHm mX6_numbers 2 12 [vR 0, vI (many : Int), vI (k : Int), vI 3, vI v] [] σ1 (RP (fun v τ => (∀ c, c ≠ 0 → c ≠ 9 → τ c = σ c) ∧ (∀ j, j ≠ 12 → τ 0 j = σ 0 j) ∧ ((v = 0 ∧ ∀ ns nx, R = some (ns, nx) → ns.length ≠ many) ∨ (v = 1 ∧ ∃ ns nx, R = some (ns, nx) ∧ ns.length = many ∧ τ 0 12 = ((nx : Nat) : Int) ∧ ∀ (j : Nat) (z : Int), ns[j]? = some z → τ 9 j = z)))) := by
    intro hRn σ1 i k v f1 f2 h12 hi3
    have hb' : σ1 0 0 = (b : Int) := by rw [f2 0 (by decide)]; exact hb
    have lr : 0 ≤ ltA (σ1 1) b i ∧ ltA (σ1 1) b i ≤ 127 := by
      unfold ltA
      rw [f1 1 (by decide) (by decide)]
      split
      · exact hx i (by omega)
      · omega
    refine PP.aload_n dX6_numbers_12 rfl ?_
    refine PP.aload_n dX6_numbers_13 rfl ?_
    refine PP.getfI dX6_numbers_14 fl_X6_78 sm0 rfl ?_
    refine PP.eqI h12 ?_
    refine PP.callVi (m_letterAt hb' hb2 (by omega)) dX6_numbers_17 vl_X6_81 sm0 rfl rfl rfl rfl (Nat.le_of_ble_eq_true rfl) (by first | exact Nat.le_of_ble_eq_true rfl | omega) ?_
    refine PP.i2l (by first | omega | exact b2i_R _ | (unfold R32; omega)) dX6_numbers_20 ?_
    refine PP.ldc2 (z := 48) dX6_numbers_21 bw864 ?_
    refine PP.ldc2 (z := 57) dX6_numbers_24 bw865 ?_
    refine PP.callSi (m_in (by unfold R32; omega) (by unfold R32; omega) (by unfold R32; omega)) dX6_numbers_27 sl_X6_70 rfl rfl (Nat.le_of_ble_eq_true rfl) (by first | exact Nat.le_of_ble_eq_true rfl | omega) ?_
    refine PP.if_eq (tgt := 73) (by first | omega | exact b2i_R _ | (unfold R32; omega)) dX6_numbers_30 (by decide) (fun h30 => ?_) (fun h30 => ?_)
    · refine PP.iload_n dX6_numbers_73 rfl ?_
      refine PP.i2l (by first | omega | exact b2i_R _ | (unfold R32; omega)) dX6_numbers_74 ?_
      refine PP.lconst (z := 1) dX6_numbers_75 (by decide) ?_
      refine PP.ldc2 (z := 2) dX6_numbers_76 bw866 ?_
      refine PP.callSi (m_in (v := 3) (lo := 1) (hi := 2) (by unfold R32; omega) (by unfold R32; omega) (by unfold R32; omega)) dX6_numbers_79 sl_X6_70 rfl rfl (Nat.le_of_ble_eq_true rfl) (by first | exact Nat.le_of_ble_eq_true rfl | omega) ?_
      refine PP.if_eq (tgt := 110) (by first | omega | exact b2i_R _ | (unfold R32; omega)) dX6_numbers_82 (by decide) (fun h82 => ?_) (fun h82 => ?_)
      · refine PP.iconst dX6_numbers_110 ?_
        refine PP.zret dX6_numbers_111 rfl (by first | decide | omega | exact b2i_01 _) ?_
        exact ⟨_, rfl, f1, f2, Or.inl ⟨rfl, fun ns nx h => by rw [hRn] at h; cases h⟩⟩
      · exact absurd rfl h82
    · refine PP.iload_n dX6_numbers_33 rfl ?_
      refine PP.iconst dX6_numbers_34 ?_
      refine PP.icmp_ge (tgt := 73) (by first | omega | exact b2i_R _ | (unfold R32; omega)) (by first | omega | exact b2i_R _ | (unfold R32; omega)) dX6_numbers_35 (by decide) (fun h35 => ?_) (fun h35 => ?_)
      · refine PP.iload_n dX6_numbers_73 rfl ?_
        refine PP.i2l (by first | omega | exact b2i_R _ | (unfold R32; omega)) dX6_numbers_74 ?_
        refine PP.lconst (z := 1) dX6_numbers_75 (by decide) ?_
        refine PP.ldc2 (z := 2) dX6_numbers_76 bw866 ?_
        refine PP.callSi (m_in (v := 3) (lo := 1) (hi := 2) (by unfold R32; omega) (by unfold R32; omega) (by unfold R32; omega)) dX6_numbers_79 sl_X6_70 rfl rfl (Nat.le_of_ble_eq_true rfl) (by first | exact Nat.le_of_ble_eq_true rfl | omega) ?_
        refine PP.if_eq (tgt := 110) (by first | omega | exact b2i_R _ | (unfold R32; omega)) dX6_numbers_82 (by decide) (fun h82 => ?_) (fun h82 => ?_)
        · refine PP.iconst dX6_numbers_110 ?_
          refine PP.zret dX6_numbers_111 rfl (by first | decide | omega | exact b2i_01 _) ?_
          exact ⟨_, rfl, f1, f2, Or.inl ⟨rfl, fun ns nx h => by rw [hRn] at h; cases h⟩⟩
        · exact absurd rfl h82
      · omega
  have key : ∀ (m i k : Nat) (σ1 : Sg) (ns : List Int) (f : Nat) (v : Int), b - i = m → i ≤ 201 → k < many → ns.length = k → (∀ c, c ≠ 0 → c ≠ 9 → σ1 c = σ c) → (∀ j, j ≠ 12 → σ1 0 j = σ 0 j) → σ1 0 12 = (i : Int) → (∀ (j : Nat) (z : Int), ns[j]? = some z → σ1 9 j = z) → f ≤ 2 → (0 ≤ v ∧ v < 10 ^ f) → rdN (σ 1) m i ns f v = R → PP SHm mX6_numbers 2 12 [vR 0, vI (many : Int), vI (k : Int), vI (f : Int), vI v] [] σ1 (RP (fun v τ => (∀ c, c ≠ 0 → c ≠ 9 → τ c = σ c) ∧ (∀ j, j ≠ 12 → τ 0 j = σ 0 j) ∧ ((v = 0 ∧ ∀ ns nx, R = some (ns, nx) → ns.length ≠ many) ∨ (v = 1 ∧ ∃ ns nx, R = some (ns, nx) ∧ ns.length = many ∧ τ 0 12 = ((nx : Nat) : Int) ∧ ∀ (j : Nat) (z : Int), ns[j]? = some z → τ 9 j = z)))) := by
    intro m
    induction m with
    | zero =>
      intro i k σ1 ns f v hm0 hi3 hk hl f1 f2 h12 hN hf hv hRR
      have hb' : σ1 0 0 = (b : Int) := by rw [f2 0 (by decide)]; exact hb
      have hRn : R = none := by rw [← hRR]; rfl
      have hlt : ltA (σ1 1) b i = 0 := by unfold ltA; rw [if_neg (by omega)]
      refine PP.aload_n dX6_numbers_12 rfl ?_
      refine PP.aload_n dX6_numbers_13 rfl ?_
      refine PP.getfI dX6_numbers_14 fl_X6_78 sm0 rfl ?_
      refine PP.eqI h12 ?_
      refine PP.callVi (m_letterAt hb' hb2 (by omega)) dX6_numbers_17 vl_X6_81 sm0 rfl rfl rfl rfl (Nat.le_of_ble_eq_true rfl) (by first | exact Nat.le_of_ble_eq_true rfl | omega) ?_
      refine PP.eqI hlt ?_
      refine PP.i2l (by first | omega | exact b2i_R _ | (unfold R32; omega)) dX6_numbers_20 ?_
      refine PP.ldc2 (z := 48) dX6_numbers_21 bw864 ?_
      refine PP.ldc2 (z := 57) dX6_numbers_24 bw865 ?_
      refine PP.callSi (m_in (v := 0) (lo := 48) (hi := 57) (by unfold R32; omega) (by unfold R32; omega) (by unfold R32; omega)) dX6_numbers_27 sl_X6_70 rfl rfl (Nat.le_of_ble_eq_true rfl) (by first | exact Nat.le_of_ble_eq_true rfl | omega) ?_
      refine PP.if_eq (tgt := 73) (by first | omega | exact b2i_R _ | (unfold R32; omega)) dX6_numbers_30 (by decide) (fun h30 => ?_) (fun h30 => ?_)
      · refine PP.iload_n dX6_numbers_73 rfl ?_
        refine PP.i2l (by first | omega | exact b2i_R _ | (unfold R32; omega)) dX6_numbers_74 ?_
        refine PP.lconst (z := 1) dX6_numbers_75 (by decide) ?_
        refine PP.ldc2 (z := 2) dX6_numbers_76 bw866 ?_
        refine PP.callSi (m_in (v := (f : Int)) (lo := 1) (hi := 2) (by unfold R32; omega) (by unfold R32; omega) (by unfold R32; omega)) dX6_numbers_79 sl_X6_70 rfl rfl (Nat.le_of_ble_eq_true rfl) (by first | exact Nat.le_of_ble_eq_true rfl | omega) ?_
        refine PP.if_eq (tgt := 110) (by first | omega | exact b2i_R _ | (unfold R32; omega)) dX6_numbers_82 (by decide) (fun h82 => ?_) (fun h82 => ?_)
        · refine PP.iconst dX6_numbers_110 ?_
          refine PP.zret dX6_numbers_111 rfl (by first | decide | omega | exact b2i_01 _) ?_
          exact ⟨_, rfl, f1, f2, Or.inl ⟨rfl, fun ns nx h => by rw [hRn] at h; cases h⟩⟩
        · refine PP.aload_n dX6_numbers_85 rfl ?_
          refine PP.aload_n dX6_numbers_86 rfl ?_
          refine PP.getfI dX6_numbers_87 fl_X6_78 sm0 rfl ?_
          refine PP.eqI h12 ?_
          refine PP.callVi (m_letterAt hb' hb2 (by omega)) dX6_numbers_90 vl_X6_81 sm0 rfl rfl rfl rfl (Nat.le_of_ble_eq_true rfl) (by first | exact Nat.le_of_ble_eq_true rfl | omega) ?_
          refine PP.iload_n dX6_numbers_93 rfl ?_
          refine PP.iload_n dX6_numbers_94 rfl ?_
          refine PP.iconst dX6_numbers_95 ?_
          refine PP.isub dX6_numbers_96 ?_
          refine PP.icmp_ge (tgt := 105) (by first | omega | exact b2i_R _ | (unfold R32; omega)) (by first | omega | exact b2i_R _ | (unfold R32; omega)) dX6_numbers_97 (by decide) (fun h97 => ?_) (fun h97 => ?_)
          · refine PP.bipush dX6_numbers_105 (by decide) ?_
            refine PP.icmp_eq (tgt := 112) (by first | omega | exact b2i_R _ | (unfold R32; omega)) (by first | omega | exact b2i_R _ | (unfold R32; omega)) dX6_numbers_107 (by decide) (fun h107 => ?_) (fun h107 => ?_)
            · omega
            · refine PP.iconst dX6_numbers_110 ?_
              refine PP.zret dX6_numbers_111 rfl (by first | decide | omega | exact b2i_01 _) ?_
              exact ⟨_, rfl, f1, f2, Or.inl ⟨rfl, fun ns nx h => by rw [hRn] at h; cases h⟩⟩
          · refine PP.bipush dX6_numbers_100 (by decide) ?_
            refine PP.goto (tgt := 107) dX6_numbers_102 (by decide) ?_
            refine PP.icmp_eq (tgt := 112) (by first | omega | exact b2i_R _ | (unfold R32; omega)) (by first | omega | exact b2i_R _ | (unfold R32; omega)) dX6_numbers_107 (by decide) (fun h107 => ?_) (fun h107 => ?_)
            · omega
            · refine PP.iconst dX6_numbers_110 ?_
              refine PP.zret dX6_numbers_111 rfl (by first | decide | omega | exact b2i_01 _) ?_
              exact ⟨_, rfl, f1, f2, Or.inl ⟨rfl, fun ns nx h => by rw [hRn] at h; cases h⟩⟩
      · exact absurd rfl h30
    | succ m ih =>
      intro i k σ1 ns f v hm0 hi3 hk hl f1 f2 h12 hN hf hv hRR
      have hb' : σ1 0 0 = (b : Int) := by rw [f2 0 (by decide)]; exact hb
      have hlt : ltA (σ1 1) b i = σ 1 i := by unfold ltA; rw [if_pos (by omega), f1 1 (by decide) (by decide)]
      have hxr := hx i (by omega)
      have hv99 : 0 ≤ v ∧ v ≤ 99 := by
        rcases (by omega : f = 0 ∨ f = 1 ∨ f = 2) with e | e | e <;> subst e <;> simp at hv <;> omega
      have hpw : f < 2 → 0 ≤ v * 10 + σ 1 i - 48 ∧ v * 10 + σ 1 i - 48 < 10 ^ (f + 1) ∨ ¬ (48 ≤ σ 1 i ∧ σ 1 i ≤ 57) := by
        intro hf2
        by_cases hd : 48 ≤ σ 1 i ∧ σ 1 i ≤ 57
        · rw [Int.pow_succ]; omega
        · exact Or.inr hd
      by_cases hdg : 48 ≤ σ 1 i ∧ σ 1 i ≤ 57
      · refine PP.aload_n dX6_numbers_12 rfl ?_
        refine PP.aload_n dX6_numbers_13 rfl ?_
        refine PP.getfI dX6_numbers_14 fl_X6_78 sm0 rfl ?_
        refine PP.eqI h12 ?_
        refine PP.callVi (m_letterAt hb' hb2 (by omega)) dX6_numbers_17 vl_X6_81 sm0 rfl rfl rfl rfl (Nat.le_of_ble_eq_true rfl) (by first | exact Nat.le_of_ble_eq_true rfl | omega) ?_
        refine PP.eqI hlt ?_
        refine PP.i2l (by first | omega | exact b2i_R _ | (unfold R32; omega)) dX6_numbers_20 ?_
        refine PP.ldc2 (z := 48) dX6_numbers_21 bw864 ?_
        refine PP.ldc2 (z := 57) dX6_numbers_24 bw865 ?_
        refine PP.callSi (m_in (v := σ 1 i) (lo := 48) (hi := 57) (by unfold R32; omega) (by unfold R32; omega) (by unfold R32; omega)) dX6_numbers_27 sl_X6_70 rfl rfl (Nat.le_of_ble_eq_true rfl) (by first | exact Nat.le_of_ble_eq_true rfl | omega) ?_
        refine PP.if_eq (tgt := 73) (by first | omega | exact b2i_R _ | (unfold R32; omega)) dX6_numbers_30 (by decide) (fun h30 => ?_) (fun h30 => ?_)
        · rw [decide_eq_true hdg] at h30; cases h30
        · refine PP.iload_n dX6_numbers_33 rfl ?_
          refine PP.iconst dX6_numbers_34 ?_
          refine PP.icmp_ge (tgt := 73) (by first | omega | exact b2i_R _ | (unfold R32; omega)) (by first | omega | exact b2i_R _ | (unfold R32; omega)) dX6_numbers_35 (by decide) (fun h35 => ?_) (fun h35 => ?_)
          · omega
          · refine PP.bipush dX6_numbers_38 (by decide) ?_
            refine PP.iload dX6_numbers_40 rfl ?_
            refine PP.imul dX6_numbers_42 ?_
            refine PP.aload_n dX6_numbers_43 rfl ?_
            refine PP.aload_n dX6_numbers_44 rfl ?_
            refine PP.getfI dX6_numbers_45 fl_X6_78 sm0 rfl ?_
            refine PP.eqI h12 ?_
            refine PP.callVi (m_letterAt hb' hb2 (by omega)) dX6_numbers_48 vl_X6_81 sm0 rfl rfl rfl rfl (Nat.le_of_ble_eq_true rfl) (by first | exact Nat.le_of_ble_eq_true rfl | omega) ?_
            refine PP.eqI hlt ?_
            refine PP.iadd dX6_numbers_51 ?_
            refine PP.bipush dX6_numbers_52 (by decide) ?_
            refine PP.isub dX6_numbers_54 ?_
            refine PP.eqI (y := v * 10 + σ 1 i - 48) (by omega) ?_
            refine PP.istore (L' := [_, _, _, _, _]) dX6_numbers_55 (Nat.le_of_ble_eq_true rfl) rfl rfl ?_
            refine PP.iinc (L' := [_, _, _, _, _]) dX6_numbers_57 rfl rfl rfl ?_
            refine PP.aload_n dX6_numbers_60 rfl ?_
            refine PP.dup rfl dX6_numbers_61 ?_
            refine PP.getfI dX6_numbers_62 fl_X6_78 sm0 rfl ?_
            refine PP.eqI h12 ?_
            refine PP.iconst dX6_numbers_65 ?_
            refine PP.iadd dX6_numbers_66 ?_
            refine PP.putI dX6_numbers_67 fp_X6_78 sm0 rfl (by first | omega | exact b2i_R _ | (unfold R32; omega)) ?_
            refine PP.goto (tgt := 12) dX6_numbers_70 (by decide) ?_
            by_cases hf2 : f < 2
            · rw [rdN_dig hdg.1 hdg.2 hf2] at hRR
              exact ih (i + 1) k _ ns (f + 1) _ (by omega) (by omega) hk hl (fun c h0 h9 => by rw [up_ne h0]; exact f1 c h0 h9) (fun j hj => by rw [up_j hj]; exact f2 j hj) (by rw [up_at]; rfl) (fun j z hz => by rw [up_ne (by decide)]; exact hN j z hz) (by omega) ((hpw hf2).resolve_right (fun q => q hdg)) hRR
            · have hRn : R = none := by rw [← hRR]; exact rdN_bad (by omega) (by omega)
              obtain rfl : f = 2 := by omega
              exact bad3 hRn _ (i + 1) k _ (fun c h0 h9 => by rw [up_ne h0]; exact f1 c h0 h9) (fun j hj => by rw [up_j hj]; exact f2 j hj) (by rw [up_at]; rfl) (by omega)
      · have hno : ∀ w : Int, w = σ 1 i → ¬ (w = 44 ∧ 0 < f) → ¬ (w = 59 ∧ 0 < f) → ∀ ns' nx, R = some (ns', nx) → ns'.length ≠ many := by
          intro w hw h1 h2 ns' nx h
          rw [← hRR, rdN_bad (by omega) (by omega)] at h
          cases h
        have h44 : σ 1 i = 44 → 0 < f → R = rdN (σ 1) m (i + 1) (ns ++ [v]) 0 0 := fun a c => by rw [← hRR, rdN_com a c (by omega)]
        have h59 : σ 1 i = 59 → 0 < f → R = some (ns ++ [v], i + 1) := fun a c => by rw [← hRR, rdN_end a c (by omega)]
        have l44 : σ 1 i = 44 → 0 < f → many = k + 1 → ∀ ns' nx, R = some (ns', nx) → ns'.length ≠ many := by
          intro a c e ns' nx h
          rw [h44 a c] at h
          have : 0 < m ∨ m = 0 := by omega
          rcases this with q | q
          · by_cases h4 : (ns ++ [v]).length ≤ 4
            · intro hl2
              rw [e] at hl2
              have hge : ∀ (k i : Nat) (ns : List Int) (fig : Nat) (num : Int) (ms : List Int) (nx : Nat), rdN (σ 1) k i ns fig num = some (ms, nx) → ns.length < ms.length := by
                intro k
                induction k with
                | zero => intro i ns fig num ms nx h; cases h
                | succ k ihk =>
                  intro i ns fig num ms nx h
                  rw [rdN] at h
                  split at h
                  · exact ihk _ _ _ _ _ _ h
                  · split at h
                    · split at h
                      · cases h; simp
                      · have := ihk _ _ _ _ _ _ h; simp at this; omega
                    · cases h
              have := hge _ _ _ _ _ _ _ h
              simp at this
              omega
            · simp at h4; omega
          · subst q; cases h
        have hf10 : 0 < f → ¬ (b2i (decide (1 ≤ (f : Int) ∧ (f : Int) ≤ 2)) = 0) := fun q => by rw [decide_eq_true (by omega)]; decide
        have hend : ∀ nz : Sg, (∀ c, c ≠ 0 → c ≠ 9 → nz c = σ c) → (∀ j, j ≠ 12 → nz 0 j = σ 0 j) → nz 0 12 = ((i + 1 : Nat) : Int) → (∀ j z, (ns ++ [v])[j]? = some z → nz 9 j = z) → 0 < f → k + 1 < many → σ 1 i = 44 → PP SHm mX6_numbers 2 12 [vR 0, vI (many : Int), vI ((k : Int) + 1), vI 0, vI 0] [] nz (RP (fun v τ => (∀ c, c ≠ 0 → c ≠ 9 → τ c = σ c) ∧ (∀ j, j ≠ 12 → τ 0 j = σ 0 j) ∧ ((v = 0 ∧ ∀ ns nx, R = some (ns, nx) → ns.length ≠ many) ∨ (v = 1 ∧ ∃ ns nx, R = some (ns, nx) ∧ ns.length = many ∧ τ 0 12 = ((nx : Nat) : Int) ∧ ∀ (j : Nat) (z : Int), ns[j]? = some z → τ 9 j = z)))) := fun nz g1 g2 g3 g4 hf0 hk2 ha =>
          ih (i + 1) (k + 1) nz (ns ++ [v]) 0 0 (by omega) (by omega) hk2 (by simp; omega) g1 g2 g3 g4 (by omega) (by simp) (h44 ha hf0).symm
        have gN : ∀ j z, (ns ++ [v])[j]? = some z → up (up σ1 9 k v) 0 12 ((i : Int) + 1) 9 j = z := by
          intro j z hz
          rw [up_ne (by decide)]
          rcases Nat.lt_trichotomy j ns.length with q | q | q
          · rw [List.getElem?_append_left q] at hz
            rw [up_j (by omega)]
            exact hN j z hz
          · subst q
            rw [List.getElem?_append_right (Nat.le_refl _), Nat.sub_self] at hz
            cases hz
            rw [hl, up_at]
          · rw [List.getElem?_eq_none (by simp; omega)] at hz
            cases hz
        refine PP.aload_n dX6_numbers_12 rfl ?_
        refine PP.aload_n dX6_numbers_13 rfl ?_
        refine PP.getfI dX6_numbers_14 fl_X6_78 sm0 rfl ?_
        refine PP.eqI h12 ?_
        refine PP.callVi (m_letterAt hb' hb2 (by omega)) dX6_numbers_17 vl_X6_81 sm0 rfl rfl rfl rfl (Nat.le_of_ble_eq_true rfl) (by first | exact Nat.le_of_ble_eq_true rfl | omega) ?_
        refine PP.eqI hlt ?_
        refine PP.i2l (by first | omega | exact b2i_R _ | (unfold R32; omega)) dX6_numbers_20 ?_
        refine PP.ldc2 (z := 48) dX6_numbers_21 bw864 ?_
        refine PP.ldc2 (z := 57) dX6_numbers_24 bw865 ?_
        refine PP.callSi (m_in (v := σ 1 i) (lo := 48) (hi := 57) (by unfold R32; omega) (by unfold R32; omega) (by unfold R32; omega)) dX6_numbers_27 sl_X6_70 rfl rfl (Nat.le_of_ble_eq_true rfl) (by first | exact Nat.le_of_ble_eq_true rfl | omega) ?_
        refine PP.if_eq (tgt := 73) (by first | omega | exact b2i_R _ | (unfold R32; omega)) dX6_numbers_30 (by decide) (fun h30 => ?_) (fun h30 => ?_)
        · refine PP.iload_n dX6_numbers_73 rfl ?_
          refine PP.i2l (by first | omega | exact b2i_R _ | (unfold R32; omega)) dX6_numbers_74 ?_
          refine PP.lconst (z := 1) dX6_numbers_75 (by decide) ?_
          refine PP.ldc2 (z := 2) dX6_numbers_76 bw866 ?_
          refine PP.callSi (m_in (v := (f : Int)) (lo := 1) (hi := 2) (by unfold R32; omega) (by unfold R32; omega) (by unfold R32; omega)) dX6_numbers_79 sl_X6_70 rfl rfl (Nat.le_of_ble_eq_true rfl) (by first | exact Nat.le_of_ble_eq_true rfl | omega) ?_
          refine PP.if_eq (tgt := 110) (by first | omega | exact b2i_R _ | (unfold R32; omega)) dX6_numbers_82 (by decide) (fun h82 => ?_) (fun h82 => ?_)
          · refine PP.iconst dX6_numbers_110 ?_
            refine PP.zret dX6_numbers_111 rfl (by first | decide | omega | exact b2i_01 _) ?_
            first
            | exact ⟨_, rfl, f1, f2, Or.inl ⟨rfl, hno _ rfl (fun q => hf10 q.2 h82) (fun q => hf10 q.2 h82)⟩⟩
            | (by_cases q1 : σ 1 i = 59
               · refine ⟨_, rfl, f1, f2, Or.inl ⟨rfl, fun ns' nx h => ?_⟩⟩
                 rw [h59 q1 (by omega)] at h
                 cases h
                 simp
                 omega
               · by_cases q2 : σ 1 i = 44
                 · exact ⟨_, rfl, f1, f2, Or.inl ⟨rfl, l44 q2 (by omega) (by omega)⟩⟩
                 · exact ⟨_, rfl, f1, f2, Or.inl ⟨rfl, hno _ rfl (fun q => q2 q.1) (fun q => q1 q.1)⟩⟩)
          · have hf0 := of_decide_eq_true (b2i_n.mp h82)
            refine PP.aload_n dX6_numbers_85 rfl ?_
            refine PP.aload_n dX6_numbers_86 rfl ?_
            refine PP.getfI dX6_numbers_87 fl_X6_78 sm0 rfl ?_
            refine PP.eqI h12 ?_
            refine PP.callVi (m_letterAt hb' hb2 (by omega)) dX6_numbers_90 vl_X6_81 sm0 rfl rfl rfl rfl (Nat.le_of_ble_eq_true rfl) (by first | exact Nat.le_of_ble_eq_true rfl | omega) ?_
            refine PP.eqI hlt ?_
            refine PP.iload_n dX6_numbers_93 rfl ?_
            refine PP.iload_n dX6_numbers_94 rfl ?_
            refine PP.iconst dX6_numbers_95 ?_
            refine PP.isub dX6_numbers_96 ?_
            refine PP.icmp_ge (tgt := 105) (by first | omega | exact b2i_R _ | (unfold R32; omega)) (by first | omega | exact b2i_R _ | (unfold R32; omega)) dX6_numbers_97 (by decide) (fun h97 => ?_) (fun h97 => ?_)
            · refine PP.bipush dX6_numbers_105 (by decide) ?_
              refine PP.icmp_eq (tgt := 112) (by first | omega | exact b2i_R _ | (unfold R32; omega)) (by first | omega | exact b2i_R _ | (unfold R32; omega)) dX6_numbers_107 (by decide) (fun h107 => ?_) (fun h107 => ?_)
              · refine PP.aload_n dX6_numbers_112 rfl ?_
                refine PP.getfR dX6_numbers_113 fl_X6_34 sm0 rfl ?_
                refine PP.iload_n dX6_numbers_116 rfl ?_
                refine PP.iload dX6_numbers_117 rfl ?_
                refine PP.iastoreN (n := k) sm9 (by first | decide | omega) (by first | rfl | omega) (by first | omega | exact b2i_R _ | (unfold R32; omega)) (by first | omega | exact b2i_R _ | (unfold R32; omega)) dX6_numbers_119 ?_
                refine PP.aload_n dX6_numbers_120 rfl ?_
                refine PP.dup rfl dX6_numbers_121 ?_
                refine PP.getfI dX6_numbers_122 fl_X6_78 sm0 rfl ?_
                refine PP.eqI (y := (i : Int)) (by rw [up_ne (by decide)]; exact h12) ?_
                refine PP.iconst dX6_numbers_125 ?_
                refine PP.iadd dX6_numbers_126 ?_
                refine PP.putI dX6_numbers_127 fp_X6_78 sm0 rfl (by first | omega | exact b2i_R _ | (unfold R32; omega)) ?_
                refine PP.iinc (L' := [_, _, _, _, _]) dX6_numbers_130 rfl rfl rfl ?_
                refine PP.goto (tgt := 2) dX6_numbers_133 (by decide) ?_
                refine PP.iload_n dX6_numbers_2 rfl ?_
                refine PP.iload_n dX6_numbers_3 rfl ?_
                refine PP.icmp_ge (tgt := 136) (by first | omega | exact b2i_R _ | (unfold R32; omega)) (by first | omega | exact b2i_R _ | (unfold R32; omega)) dX6_numbers_4 (by decide) (fun h4 => ?_) (fun h4 => ?_)
                · refine PP.iconst dX6_numbers_136 ?_
                  refine PP.zret dX6_numbers_137 rfl (by first | decide | omega | exact b2i_01 _) ?_
                  refine ⟨_, rfl, fun c h0 h9 => by rw [up_ne h0, up_ne h9]; exact f1 c h0 h9, fun j hj => by rw [up_j hj, up_ne (by decide)]; exact f2 j hj, ?_⟩
                  first
                    | (exfalso; omega)
                    | exact Or.inr ⟨rfl, ns ++ [v], i + 1, h59 (by omega) (by omega), by simp; omega, by rw [up_at]; rfl, gN⟩
                · refine PP.iconst dX6_numbers_7 ?_
                  refine PP.istore_n (L' := [_, _, _, _, _]) dX6_numbers_8 (Nat.le_of_ble_eq_true rfl) rfl rfl ?_
                  refine PP.iconst dX6_numbers_9 ?_
                  refine PP.istore (L' := [_, _, _, _, _]) dX6_numbers_10 (Nat.le_of_ble_eq_true rfl) rfl rfl ?_
                  first
                  | (exfalso; omega)
                  | exact hend _ (fun c h0 h9 => by rw [up_ne h0, up_ne h9]; exact f1 c h0 h9) (fun j hj => by rw [up_j hj, up_ne (by decide)]; exact f2 j hj) (by rw [up_at]; rfl) gN (by omega) (by omega) (by omega)
              · refine PP.iconst dX6_numbers_110 ?_
                refine PP.zret dX6_numbers_111 rfl (by first | decide | omega | exact b2i_01 _) ?_
                first
                | exact ⟨_, rfl, f1, f2, Or.inl ⟨rfl, hno _ rfl (fun q => hf10 q.2 h82) (fun q => hf10 q.2 h82)⟩⟩
                | (by_cases q1 : σ 1 i = 59
                   · refine ⟨_, rfl, f1, f2, Or.inl ⟨rfl, fun ns' nx h => ?_⟩⟩
                     rw [h59 q1 (by omega)] at h
                     cases h
                     simp
                     omega
                   · by_cases q2 : σ 1 i = 44
                     · exact ⟨_, rfl, f1, f2, Or.inl ⟨rfl, l44 q2 (by omega) (by omega)⟩⟩
                     · exact ⟨_, rfl, f1, f2, Or.inl ⟨rfl, hno _ rfl (fun q => q2 q.1) (fun q => q1 q.1)⟩⟩)
            · refine PP.bipush dX6_numbers_100 (by decide) ?_
              refine PP.goto (tgt := 107) dX6_numbers_102 (by decide) ?_
              refine PP.icmp_eq (tgt := 112) (by first | omega | exact b2i_R _ | (unfold R32; omega)) (by first | omega | exact b2i_R _ | (unfold R32; omega)) dX6_numbers_107 (by decide) (fun h107 => ?_) (fun h107 => ?_)
              · refine PP.aload_n dX6_numbers_112 rfl ?_
                refine PP.getfR dX6_numbers_113 fl_X6_34 sm0 rfl ?_
                refine PP.iload_n dX6_numbers_116 rfl ?_
                refine PP.iload dX6_numbers_117 rfl ?_
                refine PP.iastoreN (n := k) sm9 (by first | decide | omega) (by first | rfl | omega) (by first | omega | exact b2i_R _ | (unfold R32; omega)) (by first | omega | exact b2i_R _ | (unfold R32; omega)) dX6_numbers_119 ?_
                refine PP.aload_n dX6_numbers_120 rfl ?_
                refine PP.dup rfl dX6_numbers_121 ?_
                refine PP.getfI dX6_numbers_122 fl_X6_78 sm0 rfl ?_
                refine PP.eqI (y := (i : Int)) (by rw [up_ne (by decide)]; exact h12) ?_
                refine PP.iconst dX6_numbers_125 ?_
                refine PP.iadd dX6_numbers_126 ?_
                refine PP.putI dX6_numbers_127 fp_X6_78 sm0 rfl (by first | omega | exact b2i_R _ | (unfold R32; omega)) ?_
                refine PP.iinc (L' := [_, _, _, _, _]) dX6_numbers_130 rfl rfl rfl ?_
                refine PP.goto (tgt := 2) dX6_numbers_133 (by decide) ?_
                refine PP.iload_n dX6_numbers_2 rfl ?_
                refine PP.iload_n dX6_numbers_3 rfl ?_
                refine PP.icmp_ge (tgt := 136) (by first | omega | exact b2i_R _ | (unfold R32; omega)) (by first | omega | exact b2i_R _ | (unfold R32; omega)) dX6_numbers_4 (by decide) (fun h4 => ?_) (fun h4 => ?_)
                · refine PP.iconst dX6_numbers_136 ?_
                  refine PP.zret dX6_numbers_137 rfl (by first | decide | omega | exact b2i_01 _) ?_
                  refine ⟨_, rfl, fun c h0 h9 => by rw [up_ne h0, up_ne h9]; exact f1 c h0 h9, fun j hj => by rw [up_j hj, up_ne (by decide)]; exact f2 j hj, ?_⟩
                  first
                    | (exfalso; omega)
                    | exact Or.inr ⟨rfl, ns ++ [v], i + 1, h59 (by omega) (by omega), by simp; omega, by rw [up_at]; rfl, gN⟩
                · refine PP.iconst dX6_numbers_7 ?_
                  refine PP.istore_n (L' := [_, _, _, _, _]) dX6_numbers_8 (Nat.le_of_ble_eq_true rfl) rfl rfl ?_
                  refine PP.iconst dX6_numbers_9 ?_
                  refine PP.istore (L' := [_, _, _, _, _]) dX6_numbers_10 (Nat.le_of_ble_eq_true rfl) rfl rfl ?_
                  first
                  | (exfalso; omega)
                  | exact hend _ (fun c h0 h9 => by rw [up_ne h0, up_ne h9]; exact f1 c h0 h9) (fun j hj => by rw [up_j hj, up_ne (by decide)]; exact f2 j hj) (by rw [up_at]; rfl) gN (by omega) (by omega) (by omega)
              · refine PP.iconst dX6_numbers_110 ?_
                refine PP.zret dX6_numbers_111 rfl (by first | decide | omega | exact b2i_01 _) ?_
                first
                | exact ⟨_, rfl, f1, f2, Or.inl ⟨rfl, hno _ rfl (fun q => hf10 q.2 h82) (fun q => hf10 q.2 h82)⟩⟩
                | (by_cases q1 : σ 1 i = 59
                   · refine ⟨_, rfl, f1, f2, Or.inl ⟨rfl, fun ns' nx h => ?_⟩⟩
                     rw [h59 q1 (by omega)] at h
                     cases h
                     simp
                     omega
                   · by_cases q2 : σ 1 i = 44
                     · exact ⟨_, rfl, f1, f2, Or.inl ⟨rfl, l44 q2 (by omega) (by omega)⟩⟩
                     · exact ⟨_, rfl, f1, f2, Or.inl ⟨rfl, hno _ rfl (fun q => q2 q.1) (fun q => q1 q.1)⟩⟩)
        · rw [decide_eq_false hdg] at h30; exact absurd rfl h30
  refine OK.enter (L' := [vR 0, vI (many : Int), vN, vN, vN]) (by decide +kernel) (by simp [ent0]) rfl ?_
  refine PP.iconst dX6_numbers_0 ?_
  refine PP.istore_n (L' := [_, _, _, _, _]) dX6_numbers_1 (Nat.le_of_ble_eq_true rfl) rfl rfl ?_
  refine PP.iload_n dX6_numbers_2 rfl ?_
  refine PP.iload_n dX6_numbers_3 rfl ?_
  refine PP.icmp_ge (tgt := 136) (by first | omega | (unfold R32; omega)) (by first | omega | (unfold R32; omega)) dX6_numbers_4 (by decide) (fun h4 => ?_) (fun h4 => ?_)
  · omega
  · refine PP.iconst dX6_numbers_7 ?_
    refine PP.istore_n (L' := [_, _, _, _, _]) dX6_numbers_8 (Nat.le_of_ble_eq_true rfl) rfl rfl ?_
    refine PP.iconst dX6_numbers_9 ?_
    refine PP.istore (L' := [_, _, _, _, _]) dX6_numbers_10 (Nat.le_of_ble_eq_true rfl) rfl rfl ?_
    exact key (b - i0) i0 0 σ [] 0 0 rfl (by omega) (by omega) rfl (fun c _ _ => rfl) (fun j _ => rfl) hi (fun j z hz => by simp at hz) (by omega) (by simp) hR
