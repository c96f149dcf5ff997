/-! the model: the whole text -/
def RdM (σ : Sg) (x : RS) : Prop := (∀ k, k < 56 → σ 3 k = x.1 k) ∧ (∀ k, k < 16 → σ 5 k = x.2.2.1 k) ∧ σ 0 4 = b2i (!x.2.2.2)
theorem m_empty {σ : Sg} : OK SHm mX6_empty 1 [vR 0] σ (RPn (fun τ => (∀ c, c ≠ 0 → c ≠ 3 → c ≠ 5 → τ c = σ c) ∧ (∀ j, j ≠ 4 → τ 0 j = σ 0 j) ∧ RdM τ RS0)) := by
  have key2 : ∀ o, o ≤ 16 → ∀ σ1 : Sg, (∀ c, c ≠ 0 → c ≠ 3 → c ≠ 5 → σ1 c = σ c) → σ1 0 = σ 0 → (∀ k, k < 56 → σ1 3 k = T0 k) → (∀ k, k < o → σ1 5 k = if k < 2 then 0 else -4) → PP SHm mX6_empty 1 57 [vR 0, vI (o : Int)] [] σ1 (RPn (fun τ => (∀ c, c ≠ 0 → c ≠ 3 → c ≠ 5 → τ c = σ c) ∧ (∀ j, j ≠ 4 → τ 0 j = σ 0 j) ∧ RdM τ RS0)) := by
    refine loop_dn 16 ?_ ?_
    · intro σ1 f1 f2 f3 f4
      refine PP.iload_n dX6_empty_57 rfl ?_
      refine PP.bipush dX6_empty_58 (by decide) ?_
      refine PP.icmp_ge (tgt := 86) (by first | omega | (unfold R32; omega)) (by first | omega | (unfold R32; omega)) dX6_empty_60 (by decide) (fun h60 => ?_) (fun h60 => ?_)
      · refine PP.aload_n dX6_empty_86 rfl ?_
        refine PP.getfR dX6_empty_87 fl_X6_22 sm0 rfl ?_
        refine PP.iconst dX6_empty_90 ?_
        refine PP.iconst dX6_empty_91 ?_
        refine PP.iastoreN (n := 0) sm5 (by first | decide | omega) (by first | rfl | omega) (by first | omega | (unfold R32; omega)) (by first | omega | (unfold R32; omega)) dX6_empty_92 ?_
        refine PP.aload_n dX6_empty_93 rfl ?_
        refine PP.iconst dX6_empty_94 ?_
        refine PP.putZ dX6_empty_95 fp_X6_62 sm0 rfl (by first | omega | (unfold R32; omega)) ?_
        refine PP.vret dX6_empty_98 rfl ?_
        refine ⟨rfl, fun c h0 h3 h5 => by rw [up_ne h0, up_ne h5]; exact f1 c h0 h3 h5, fun j hj => by rw [up_j hj, up_ne (by decide), f2], fun k hk => by rw [up_ne (by decide), up_ne (by decide)]; exact f3 k hk, fun k hk => ?_, by rw [up_at]; rfl⟩
        rw [up_ne (by decide)]
        show _ = row0 k
        unfold row0
        by_cases e : k = 0
        · subst e; rw [up_at, if_pos rfl]
        · rw [up_j e, f4 k hk, if_neg e]
          by_cases e1 : k = 1
          · rw [if_pos (by omega), if_pos e1]
          · rw [if_neg (by omega), if_neg e1]
      · omega
    · intro o ho ih σ1 f1 f2 f3 f4
      refine PP.iload_n dX6_empty_57 rfl ?_
      refine PP.bipush dX6_empty_58 (by decide) ?_
      refine PP.icmp_ge (tgt := 86) (by first | omega | (unfold R32; omega)) (by first | omega | (unfold R32; omega)) dX6_empty_60 (by decide) (fun h60 => ?_) (fun h60 => ?_)
      · omega
      · refine PP.aload_n dX6_empty_63 rfl ?_
        refine PP.getfR dX6_empty_64 fl_X6_22 sm0 rfl ?_
        refine PP.iload_n dX6_empty_67 rfl ?_
        refine PP.iload_n dX6_empty_68 rfl ?_
        refine PP.iconst dX6_empty_69 ?_
        refine PP.icmp_ge (tgt := 77) (by first | omega | (unfold R32; omega)) (by first | omega | (unfold R32; omega)) dX6_empty_70 (by decide) (fun h70 => ?_) (fun h70 => ?_)
        · refine PP.bipush dX6_empty_77 (by decide) ?_
          refine PP.iastoreN (n := o) sm5 (by first | decide | omega) (by first | rfl | omega) (by first | omega | (unfold R32; omega)) (by first | omega | (unfold R32; omega)) dX6_empty_79 ?_
          refine PP.iinc (L' := [_, _]) dX6_empty_80 rfl rfl rfl ?_
          refine PP.goto (tgt := 57) dX6_empty_83 (by decide) ?_
          refine ih _ (fun c h0 h3 h5 => by rw [up_ne h5]; exact f1 c h0 h3 h5) (by rw [up_ne (by decide)]; exact f2) (fun k hk => by rw [up_ne (by decide)]; exact f3 k hk) (fun k hk => ?_)
          by_cases e : k = o
          · subst e
            rw [up_at]
            first
              | rw [if_pos (by omega)]
              | rw [if_neg (by omega)]
          · rw [up_j e]; exact f4 k (by omega)
        · refine PP.iconst dX6_empty_73 ?_
          refine PP.goto (tgt := 79) dX6_empty_74 (by decide) ?_
          refine PP.iastoreN (n := o) sm5 (by first | decide | omega) (by first | rfl | omega) (by first | omega | (unfold R32; omega)) (by first | omega | (unfold R32; omega)) dX6_empty_79 ?_
          refine PP.iinc (L' := [_, _]) dX6_empty_80 rfl rfl rfl ?_
          refine PP.goto (tgt := 57) dX6_empty_83 (by decide) ?_
          refine ih _ (fun c h0 h3 h5 => by rw [up_ne h5]; exact f1 c h0 h3 h5) (by rw [up_ne (by decide)]; exact f2) (fun k hk => by rw [up_ne (by decide)]; exact f3 k hk) (fun k hk => ?_)
          by_cases e : k = o
          · subst e
            rw [up_at]
            first
              | rw [if_pos (by omega)]
              | rw [if_neg (by omega)]
          · rw [up_j e]; exact f4 k (by omega)
  have key1 : ∀ o, o ≤ 56 → ∀ σ1 : Sg, (∀ c, c ≠ 3 → σ1 c = σ c) → (∀ k, k < o → σ1 3 k = if k < 32 then 0 else 10) → PP SHm mX6_empty 1 2 [vR 0, vI (o : Int)] [] σ1 (RPn (fun τ => (∀ c, c ≠ 0 → c ≠ 3 → c ≠ 5 → τ c = σ c) ∧ (∀ j, j ≠ 4 → τ 0 j = σ 0 j) ∧ RdM τ RS0)) := by
    refine loop_dn 56 ?_ ?_
    · intro σ1 f1 f2
      refine PP.iload_n dX6_empty_2 rfl ?_
      refine PP.bipush dX6_empty_3 (by decide) ?_
      refine PP.icmp_ge (tgt := 32) (by first | omega | (unfold R32; omega)) (by first | omega | (unfold R32; omega)) dX6_empty_5 (by decide) (fun h5 => ?_) (fun h5 => ?_)
      · refine PP.aload_n dX6_empty_32 rfl ?_
        refine PP.getfR dX6_empty_33 fl_X6_16 sm0 rfl ?_
        refine PP.iconst dX6_empty_36 ?_
        refine PP.bipush dX6_empty_37 (by decide) ?_
        refine PP.iastoreN (n := 0) sm3 (by first | decide | omega) (by first | rfl | omega) (by first | omega | (unfold R32; omega)) (by first | omega | (unfold R32; omega)) dX6_empty_39 ?_
        refine PP.aload_n dX6_empty_40 rfl ?_
        refine PP.getfR dX6_empty_41 fl_X6_16 sm0 rfl ?_
        refine PP.iconst dX6_empty_44 ?_
        refine PP.iconst dX6_empty_45 ?_
        refine PP.iastoreN (n := 1) sm3 (by first | decide | omega) (by first | rfl | omega) (by first | omega | (unfold R32; omega)) (by first | omega | (unfold R32; omega)) dX6_empty_46 ?_
        refine PP.aload_n dX6_empty_47 rfl ?_
        refine PP.getfR dX6_empty_48 fl_X6_16 sm0 rfl ?_
        refine PP.iconst dX6_empty_51 ?_
        refine PP.bipush dX6_empty_52 (by decide) ?_
        refine PP.iastoreN (n := 2) sm3 (by first | decide | omega) (by first | rfl | omega) (by first | omega | (unfold R32; omega)) (by first | omega | (unfold R32; omega)) dX6_empty_54 ?_
        refine PP.iconst dX6_empty_55 ?_
        refine PP.istore_n (L' := [_, _]) dX6_empty_56 (Nat.le_of_ble_eq_true rfl) rfl rfl ?_
        refine key2 0 (by omega) _ (fun c h0 h3 h5 => by rw [up_ne h3, up_ne h3, up_ne h3]; exact f1 c h3) (by rw [up_ne (by decide), up_ne (by decide), up_ne (by decide)]; exact f1 0 (by decide)) (fun k hk => ?_) (fun k hk => by omega)
        unfold T0
        by_cases e2 : k = 2
        · subst e2; rw [up_at]; rfl
        · rw [up_j e2]
          by_cases e1 : k = 1
          · subst e1; rw [up_at]; rfl
          · rw [up_j e1]
            by_cases e0 : k = 0
            · subst e0; rw [up_at]; rfl
            · rw [up_j e0, if_neg e0, if_neg e1, if_neg e2]; exact f2 k hk
      · omega
    · intro o ho ih σ1 f1 f2
      refine PP.iload_n dX6_empty_2 rfl ?_
      refine PP.bipush dX6_empty_3 (by decide) ?_
      refine PP.icmp_ge (tgt := 32) (by first | omega | (unfold R32; omega)) (by first | omega | (unfold R32; omega)) dX6_empty_5 (by decide) (fun h5 => ?_) (fun h5 => ?_)
      · omega
      · refine PP.aload_n dX6_empty_8 rfl ?_
        refine PP.getfR dX6_empty_9 fl_X6_16 sm0 rfl ?_
        refine PP.iload_n dX6_empty_12 rfl ?_
        refine PP.iload_n dX6_empty_13 rfl ?_
        refine PP.bipush dX6_empty_14 (by decide) ?_
        refine PP.icmp_ge (tgt := 23) (by first | omega | (unfold R32; omega)) (by first | omega | (unfold R32; omega)) dX6_empty_16 (by decide) (fun h16 => ?_) (fun h16 => ?_)
        · refine PP.bipush dX6_empty_23 (by decide) ?_
          refine PP.iastoreN (n := o) sm3 (by first | decide | omega) (by first | rfl | omega) (by first | omega | (unfold R32; omega)) (by first | omega | (unfold R32; omega)) dX6_empty_25 ?_
          refine PP.iinc (L' := [_, _]) dX6_empty_26 rfl rfl rfl ?_
          refine PP.goto (tgt := 2) dX6_empty_29 (by decide) ?_
          refine ih _ (fun c h3 => by rw [up_ne h3]; exact f1 c h3) (fun k hk => ?_)
          by_cases e : k = o
          · subst e
            rw [up_at]
            first
              | rw [if_pos (by omega)]
              | rw [if_neg (by omega)]
          · rw [up_j e]; exact f2 k (by omega)
        · refine PP.iconst dX6_empty_19 ?_
          refine PP.goto (tgt := 25) dX6_empty_20 (by decide) ?_
          refine PP.iastoreN (n := o) sm3 (by first | decide | omega) (by first | rfl | omega) (by first | omega | (unfold R32; omega)) (by first | omega | (unfold R32; omega)) dX6_empty_25 ?_
          refine PP.iinc (L' := [_, _]) dX6_empty_26 rfl rfl rfl ?_
          refine PP.goto (tgt := 2) dX6_empty_29 (by decide) ?_
          refine ih _ (fun c h3 => by rw [up_ne h3]; exact f1 c h3) (fun k hk => ?_)
          by_cases e : k = o
          · subst e
            rw [up_at]
            first
              | rw [if_pos (by omega)]
              | rw [if_neg (by omega)]
          · rw [up_j e]; exact f2 k (by omega)
  refine OK.enter (L' := [vR 0, vN]) (by decide +kernel) (by simp [ent0]) rfl ?_
  refine PP.iconst dX6_empty_0 ?_
  refine PP.istore_n (L' := [_, _]) dX6_empty_1 (Nat.le_of_ble_eq_true rfl) rfl rfl ?_
  exact key1 0 (by omega) σ (fun c _ => rfl) (fun k hk => by omega)
theorem IT_n {σ : Sg} {b i : Nat} {R : Option (List Int × Nat)} {x : RS} (hb : σ 0 0 = (b : Int)) (hb2 : b ≤ 200) (hx : ∀ j, j < b → 0 ≤ σ 1 j ∧ σ 1 j ≤ 127) (hib : i < b) (hR : rdN (σ 1) (b - (i + 1)) (i + 1) [] 0 0 = R) (hw : wfS x) (hM : RdM σ x) (hc : σ 1 i = 110) : PP SHm mX6_item 6 25 [vR 0, vI (σ 1 i), vN] [] (up σ 0 12 ((i : Int) + 1)) (RP (fun v τ => (∀ c, c ≠ 0 → c ≠ 3 → c ≠ 5 → c ≠ 9 → τ c = σ c) ∧ (∀ j, j ≠ 4 → j ≠ 12 → τ 0 j = σ 0 j) ∧ ((v = 0 ∧ ∀ ns nx, R = some (ns, nx) → ∀ y, ¬ itS (σ 1 i) ns x y) ∨ (v = 1 ∧ ∃ ns nx y, R = some (ns, nx) ∧ itS (σ 1 i) ns x y ∧ τ 0 12 = ((nx : Nat) : Int) ∧ RdM τ y)))) := by
  obtain ⟨m3, m5, m4⟩ := hM
  have hxi := hx i hib
  have hlt : ltA (σ 1) b i = σ 1 i := by unfold ltA; rw [if_pos hib]
  have hfr : b2i (!x.2.2.2) = 0 ∨ b2i (!x.2.2.2) = 1 := b2i_01 _
  have s1 : up σ 0 12 ((i : Int) + 1) 0 12 = ((i + 1 : Nat) : Int) := by rw [up_at]; rfl
  have s2 : up σ 0 12 ((i : Int) + 1) 0 0 = (b : Int) := by rw [up_j (by decide)]; exact hb
  have s3 : up (up σ 0 12 ((i : Int) + 1)) 0 4 1 0 12 = ((i + 1 : Nat) : Int) := by rw [up_j (by decide)]; exact s1
  have s4 : up (up σ 0 12 ((i : Int) + 1)) 0 4 1 0 0 = (b : Int) := by rw [up_j (by decide)]; exact s2
  have s5 : ∀ j, j < b → 0 ≤ up σ 0 12 ((i : Int) + 1) 1 j ∧ up σ 0 12 ((i : Int) + 1) 1 j ≤ 127 := fun j hj => by rw [up_ne (by decide)]; exact hx j hj
  have s6 : ∀ j, j < b → 0 ≤ up (up σ 0 12 ((i : Int) + 1)) 0 4 1 1 j ∧ up (up σ 0 12 ((i : Int) + 1)) 0 4 1 1 j ≤ 127 := fun j hj => by rw [up_ne (by decide)]; exact s5 j hj
  have s7 : rdN (up σ 0 12 ((i : Int) + 1) 1) (b - (i + 1)) (i + 1) [] 0 0 = R := by rw [up_ne (by decide)]; exact hR
  have s8 : rdN (up (up σ 0 12 ((i : Int) + 1)) 0 4 1 1) (b - (i + 1)) (i + 1) [] 0 0 = R := by rw [up_ne (by decide)]; exact s7
  have s9 : ∀ k, k < 56 → up (up σ 0 12 ((i : Int) + 1)) 0 4 1 3 k = x.1 k := fun k hk => by rw [up_ne (by decide), up_ne (by decide)]; exact m3 k hk
  have s10 : ∀ k, k < 16 → up (up σ 0 12 ((i : Int) + 1)) 0 4 1 5 k = x.2.2.1 k := fun k hk => by rw [up_ne (by decide), up_ne (by decide)]; exact m5 k hk
  have u4 : up (up σ 0 12 ((i : Int) + 1)) 0 4 1 0 4 = 1 := up_at
  have fr1 : ∀ τ : Sg, (∀ c, c ≠ 0 → c ≠ 3 → c ≠ 5 → c ≠ 9 → τ c = up (up σ 0 12 ((i : Int) + 1)) 0 4 1 c) → ∀ c, c ≠ 0 → c ≠ 3 → c ≠ 5 → c ≠ 9 → τ c = σ c := fun τ h c h0 h3 h5 h9 => by rw [h c h0 h3 h5 h9, up_ne h0, up_ne h0]
  have fr2 : ∀ τ : Sg, (∀ j, j ≠ 12 → τ 0 j = up (up σ 0 12 ((i : Int) + 1)) 0 4 1 0 j) → ∀ j, j ≠ 4 → j ≠ 12 → τ 0 j = σ 0 j := fun τ h j h4 h12 => by rw [h j h12, up_j h4, up_j h12]
  have xr : ∀ ns nx, R = some (ns, nx) → ∀ z ∈ ns, 0 ≤ z ∧ z ≤ 99 := fun ns nx h => (rdN_init (hR.trans h)).1
  have t4 : up σ 0 12 ((i : Int) + 1) 0 4 = b2i (!x.2.2.2) := by rw [up_j (by decide)]; exact m4
  have no : (∀ ns nx, R = some (ns, nx) → ∀ a b, ns = [a, b] → ¬ cSl x a b) → ∀ ns nx, R = some (ns, nx) → ∀ y, ¬ itS (σ 1 i) ns x y := fun h ns nx hR' => itS_n (fun _ a b e => h ns nx hR' a b e) (fun e => by omega) (fun e => by omega) (fun e => by omega) (fun e => by omega) (fun e => by omega)
  have fin : ∀ (τ : Sg) (z : Int), (∀ c, c ≠ 0 → c ≠ 9 → τ c = up σ 0 12 ((i : Int) + 1) c) → (∀ j, j ≠ 12 → τ 0 j = up σ 0 12 ((i : Int) + 1) 0 j) → ((z = 0 ∧ ∀ ns nx, R = some (ns, nx) → ∀ a b, ns = [a, b] → ¬ cSl x a b) ∨ (z = 1 ∧ ∃ a b nx, R = some ([a, b], nx) ∧ cSl x a b ∧ τ 0 12 = ((nx : Nat) : Int) ∧ τ 9 0 = a ∧ τ 9 1 = b)) → PP SHm mX6_item 6 79 [vR 0, vI (σ 1 i), vN] [vI z] τ (RP (fun v τ => (∀ c, c ≠ 0 → c ≠ 3 → c ≠ 5 → c ≠ 9 → τ c = σ c) ∧ (∀ j, j ≠ 4 → j ≠ 12 → τ 0 j = σ 0 j) ∧ ((v = 0 ∧ ∀ ns nx, R = some (ns, nx) → ∀ y, ¬ itS (σ 1 i) ns x y) ∨ (v = 1 ∧ ∃ ns nx y, R = some (ns, nx) ∧ itS (σ 1 i) ns x y ∧ τ 0 12 = ((nx : Nat) : Int) ∧ RdM τ y)))) := by
    intro τ z g1 g2 g3
    refine PP.rg (fun hg => ?_)
    have hz : z = 0 ∨ z = 1 := g3.elim (fun q => Or.inl q.1) (fun q => Or.inr q.1)
    have e91 : up τ 3 0 (τ 9 0) 9 1 = τ 9 1 := by rw [up_ne (by decide)]
    refine PP.istore_n (L' := [_, _, _]) dX6_item_79 (Nat.le_of_ble_eq_true rfl) rfl rfl ?_
    refine PP.aload_n dX6_item_80 rfl ?_
    refine PP.getfR dX6_item_81 fl_X6_16 sm0 rfl ?_
    refine PP.iconst dX6_item_84 ?_
    refine PP.aload_n dX6_item_85 rfl ?_
    refine PP.getfR dX6_item_86 fl_X6_34 sm0 rfl ?_
    refine PP.iconst dX6_item_89 ?_
    refine PP.ialoadN (n := 0) sm9 (by first | decide | omega) (by first | rfl | omega) (by first | omega | exact hg _ _ | (unfold R32; omega)) dX6_item_90 ?_
    refine PP.iastoreN (n := 0) sm3 (by first | decide | omega) (by first | rfl | omega) (by first | omega | exact hg _ _ | (unfold R32; omega)) (by first | omega | exact hg _ _ | (unfold R32; omega)) dX6_item_91 ?_
    refine PP.aload_n dX6_item_92 rfl ?_
    refine PP.getfR dX6_item_93 fl_X6_16 sm0 rfl ?_
    refine PP.iconst dX6_item_96 ?_
    refine PP.aload_n dX6_item_97 rfl ?_
    refine PP.getfR dX6_item_98 fl_X6_34 sm0 rfl ?_
    refine PP.iconst dX6_item_101 ?_
    refine PP.ialoadN (n := 1) sm9 (by first | decide | omega) (by first | rfl | omega) (by first | omega | exact hg _ _ | (unfold R32; omega)) dX6_item_102 ?_
    refine PP.eqI e91 ?_
    refine PP.iastoreN (n := 1) sm3 (by first | decide | omega) (by first | rfl | omega) (by first | omega | exact hg _ _ | (unfold R32; omega)) (by first | omega | exact hg _ _ | (unfold R32; omega)) dX6_item_103 ?_
    refine PP.iload_n dX6_item_104 rfl ?_
    refine PP.zret dX6_item_105 rfl (by first | decide | omega | exact b2i_01 _) ?_
    refine ⟨_, rfl, fun c h0 h3 h5 h9 => by rw [up_ne h3, up_ne h3, g1 c h0 h9, up_ne h0], fun j h4 h12 => by rw [up_ne (by decide), up_ne (by decide), g2 j h12, up_j h12], ?_⟩
    rcases g3 with ⟨q, g⟩ | ⟨q, a, b', nx, r1, r2, r3, r4, r5⟩
    · exact Or.inl ⟨q, no g⟩
    · refine Or.inr ⟨q, [a, b'], nx, itSl x a b', r1, Or.inl ⟨hc, a, b', rfl, r2, rfl⟩, by rw [up_ne (by decide), up_ne (by decide)]; exact r3, fun k hk => ?_, fun k hk => ?_, ?_⟩
      · show _ = uf (uf x.1 0 a) 1 b' k
        by_cases e1 : k = 1
        · subst e1; rw [up_at, uf_at]; exact r5
        · rw [up_j e1, uf_ne e1]
          by_cases e0 : k = 0
          · subst e0; rw [up_at, uf_at]; exact r4
          · rw [up_j e0, uf_ne e0, g1 3 (by decide) (by decide), up_ne (by decide)]; exact m3 k hk
      · rw [up_ne (by decide), up_ne (by decide), g1 5 (by decide) (by decide), up_ne (by decide)]; exact m5 k hk
      · rw [up_ne (by decide), up_ne (by decide), g2 4 (by decide), t4, r2.1]; rfl
  refine PP.aload_n dX6_item_25 rfl ?_
  refine PP.iconst dX6_item_26 ?_
  refine PP.callViP (m_numbers (many := 2) s2 hb2 s5 s1 (by omega) (by omega) s7) dX6_item_27 vl_X6_91 sm0 rfl rfl rfl rfl (Nat.le_of_ble_eq_true rfl) (by first | exact Nat.le_of_ble_eq_true rfl | omega) (fun v27 τ27 hq27 => ?_)
  obtain ⟨p1, p2, p3⟩ := hq27
  refine PP.if_eq (tgt := 78) (by first | omega | assumption | exact b2i_R _ | (rcases p3 with ⟨q, -⟩ | ⟨q, -⟩ <;> unfold R32 <;> omega) | (unfold R32; omega)) dX6_item_30 (by decide) (fun h30 => ?_) (fun h30 => ?_)
  · refine PP.iconst dX6_item_78 ?_
    rcases p3 with ⟨q, p4⟩ | ⟨q, -⟩
    · exact fin τ27 0 p1 p2 (Or.inl ⟨rfl, fun ns nx h a b' e => absurd (by rw [e]; rfl) (p4 ns nx h)⟩)
    · omega
  · obtain ⟨q, -⟩ | ⟨-, ns, nx, r1, r2, r3, r4⟩ := p3
    · omega
    obtain ⟨a, b', rfl⟩ := len2 r2
    have z1 := xr _ _ r1
    have k0 := z1 a (by simp)
    have k1 := z1 b' (by simp)
    have y0 := r4 0 a rfl
    have y1 := r4 1 b' rfl
    have t4' : τ27 0 4 = b2i (!x.2.2.2) := by rw [p2 4 (by decide)]; exact t4
    have bad : ¬ cSl x a b' → ∀ ns' nx', R = some (ns', nx') → ∀ a' b'', ns' = [a', b''] → ¬ cSl x a' b'' := fun hb ns' nx' hh a' b'' e => by
      rw [r1] at hh
      cases hh
      cases e
      exact hb
    refine PP.aload_n dX6_item_33 rfl ?_
    refine PP.getfI dX6_item_34 fl_X6_62 sm0 rfl ?_
    refine PP.if_ne (tgt := 78) (by first | omega | assumption | exact b2i_R _ | (rcases p3 with ⟨q, -⟩ | ⟨q, -⟩ <;> unfold R32 <;> omega) | (unfold R32; omega)) dX6_item_37 (by decide) (fun h37 => ?_) (fun h37 => ?_)
    · refine PP.iconst dX6_item_78 ?_
      first
      | exact fin τ27 0 p1 p2 (Or.inl ⟨rfl, bad (fun q => absurd q.2.2.2 (by omega))⟩)
      | exact fin τ27 0 p1 p2 (Or.inl ⟨rfl, bad (fun q => by have := of_decide_eq_false (b2i_0.mp h56); have := q.2.1; have := q.2.2.1; omega)⟩)
      | exact fin τ27 0 p1 p2 (Or.inl ⟨rfl, bad (fun q => by rw [q.1] at t4'; exact h37 t4')⟩)
      | exact fin τ27 1 p1 p2 (Or.inr ⟨rfl, a, b', nx, r1, ⟨by have := b2i_0.mp (t4'.symm.trans h37); simpa using this, by have := of_decide_eq_true (b2i_n.mp h56); omega, by have := of_decide_eq_true (b2i_n.mp h56); omega, by omega⟩, r3, y0, y1⟩)
    · refine PP.aload_n dX6_item_40 rfl ?_
      refine PP.getfR dX6_item_41 fl_X6_34 sm0 rfl ?_
      refine PP.iconst dX6_item_44 ?_
      refine PP.ialoadN (n := 0) sm9 (by first | decide | omega) (by first | rfl | omega) (by first | omega | assumption | exact b2i_R _ | (rcases p3 with ⟨q, -⟩ | ⟨q, -⟩ <;> unfold R32 <;> omega) | (unfold R32; omega)) dX6_item_45 ?_
      refine PP.i2l (by first | omega | assumption | exact b2i_R _ | (rcases p3 with ⟨q, -⟩ | ⟨q, -⟩ <;> unfold R32 <;> omega) | (unfold R32; omega)) dX6_item_46 ?_
      refine PP.ldc2 (z := 3) dX6_item_47 bw867 ?_
      refine PP.ldc2 (z := 14) dX6_item_50 bw868 ?_
      refine PP.callSi (m_in (by unfold R32; omega) (by unfold R32; omega) (by unfold R32; omega)) dX6_item_53 sl_X6_70 rfl rfl (Nat.le_of_ble_eq_true rfl) (by first | exact Nat.le_of_ble_eq_true rfl | omega) ?_
      refine PP.if_eq (tgt := 78) (by first | omega | assumption | exact b2i_R _ | (rcases p3 with ⟨q, -⟩ | ⟨q, -⟩ <;> unfold R32 <;> omega) | (unfold R32; omega)) dX6_item_56 (by decide) (fun h56 => ?_) (fun h56 => ?_)
      · refine PP.iconst dX6_item_78 ?_
        first
        | exact fin τ27 0 p1 p2 (Or.inl ⟨rfl, bad (fun q => absurd q.2.2.2 (by omega))⟩)
        | exact fin τ27 0 p1 p2 (Or.inl ⟨rfl, bad (fun q => by have := of_decide_eq_false (b2i_0.mp h56); have := q.2.1; have := q.2.2.1; omega)⟩)
        | exact fin τ27 0 p1 p2 (Or.inl ⟨rfl, bad (fun q => by rw [q.1] at t4'; exact h37 t4')⟩)
        | exact fin τ27 1 p1 p2 (Or.inr ⟨rfl, a, b', nx, r1, ⟨by have := b2i_0.mp (t4'.symm.trans h37); simpa using this, by have := of_decide_eq_true (b2i_n.mp h56); omega, by have := of_decide_eq_true (b2i_n.mp h56); omega, by omega⟩, r3, y0, y1⟩)
      · refine PP.aload_n dX6_item_59 rfl ?_
        refine PP.getfR dX6_item_60 fl_X6_34 sm0 rfl ?_
        refine PP.iconst dX6_item_63 ?_
        refine PP.ialoadN (n := 1) sm9 (by first | decide | omega) (by first | rfl | omega) (by first | omega | assumption | exact b2i_R _ | (rcases p3 with ⟨q, -⟩ | ⟨q, -⟩ <;> unfold R32 <;> omega) | (unfold R32; omega)) dX6_item_64 ?_
        refine PP.aload_n dX6_item_65 rfl ?_
        refine PP.getfR dX6_item_66 fl_X6_34 sm0 rfl ?_
        refine PP.iconst dX6_item_69 ?_
        refine PP.ialoadN (n := 0) sm9 (by first | decide | omega) (by first | rfl | omega) (by first | omega | assumption | exact b2i_R _ | (rcases p3 with ⟨q, -⟩ | ⟨q, -⟩ <;> unfold R32 <;> omega) | (unfold R32; omega)) dX6_item_70 ?_
        refine PP.icmp_ge (tgt := 78) (by first | omega | assumption | exact b2i_R _ | (rcases p3 with ⟨q, -⟩ | ⟨q, -⟩ <;> unfold R32 <;> omega) | (unfold R32; omega)) (by first | omega | assumption | exact b2i_R _ | (rcases p3 with ⟨q, -⟩ | ⟨q, -⟩ <;> unfold R32 <;> omega) | (unfold R32; omega)) dX6_item_71 (by decide) (fun h71 => ?_) (fun h71 => ?_)
        · refine PP.iconst dX6_item_78 ?_
          first
          | exact fin τ27 0 p1 p2 (Or.inl ⟨rfl, bad (fun q => absurd q.2.2.2 (by omega))⟩)
          | exact fin τ27 0 p1 p2 (Or.inl ⟨rfl, bad (fun q => by have := of_decide_eq_false (b2i_0.mp h56); have := q.2.1; have := q.2.2.1; omega)⟩)
          | exact fin τ27 0 p1 p2 (Or.inl ⟨rfl, bad (fun q => by rw [q.1] at t4'; exact h37 t4')⟩)
          | exact fin τ27 1 p1 p2 (Or.inr ⟨rfl, a, b', nx, r1, ⟨by have := b2i_0.mp (t4'.symm.trans h37); simpa using this, by have := of_decide_eq_true (b2i_n.mp h56); omega, by have := of_decide_eq_true (b2i_n.mp h56); omega, by omega⟩, r3, y0, y1⟩)
        · refine PP.iconst dX6_item_74 ?_
          refine PP.goto (tgt := 79) dX6_item_75 (by decide) ?_
          first
          | exact fin τ27 0 p1 p2 (Or.inl ⟨rfl, bad (fun q => absurd q.2.2.2 (by omega))⟩)
          | exact fin τ27 0 p1 p2 (Or.inl ⟨rfl, bad (fun q => by have := of_decide_eq_false (b2i_0.mp h56); have := q.2.1; have := q.2.2.1; omega)⟩)
          | exact fin τ27 0 p1 p2 (Or.inl ⟨rfl, bad (fun q => by rw [q.1] at t4'; exact h37 t4')⟩)
          | exact fin τ27 1 p1 p2 (Or.inr ⟨rfl, a, b', nx, r1, ⟨by have := b2i_0.mp (t4'.symm.trans h37); simpa using this, by have := of_decide_eq_true (b2i_n.mp h56); omega, by have := of_decide_eq_true (b2i_n.mp h56); omega, by omega⟩, r3, y0, y1⟩)
theorem IT_o {σ : Sg} {b i : Nat} {R : Option (List Int × Nat)} {x : RS} (hb : σ 0 0 = (b : Int)) (hb2 : b ≤ 200) (hx : ∀ j, j < b → 0 ≤ σ 1 j ∧ σ 1 j ≤ 127) (hib : i < b) (hR : rdN (σ 1) (b - (i + 1)) (i + 1) [] 0 0 = R) (hw : wfS x) (hM : RdM σ x) (hc : ¬ σ 1 i = 110) : PP SHm mX6_item 6 111 [vR 0, vI (σ 1 i), vN] [] (up (up σ 0 12 ((i : Int) + 1)) 0 4 1) (RP (fun v τ => (∀ c, c ≠ 0 → c ≠ 3 → c ≠ 5 → c ≠ 9 → τ c = σ c) ∧ (∀ j, j ≠ 4 → j ≠ 12 → τ 0 j = σ 0 j) ∧ ((v = 0 ∧ ∀ ns nx, R = some (ns, nx) → ∀ y, ¬ itS (σ 1 i) ns x y) ∨ (v = 1 ∧ ∃ ns nx y, R = some (ns, nx) ∧ itS (σ 1 i) ns x y ∧ τ 0 12 = ((nx : Nat) : Int) ∧ RdM τ y)))) := by
  obtain ⟨m3, m5, m4⟩ := hM
  have hxi := hx i hib
  have hlt : ltA (σ 1) b i = σ 1 i := by unfold ltA; rw [if_pos hib]
  have hfr : b2i (!x.2.2.2) = 0 ∨ b2i (!x.2.2.2) = 1 := b2i_01 _
  have s1 : up σ 0 12 ((i : Int) + 1) 0 12 = ((i + 1 : Nat) : Int) := by rw [up_at]; rfl
  have s2 : up σ 0 12 ((i : Int) + 1) 0 0 = (b : Int) := by rw [up_j (by decide)]; exact hb
  have s3 : up (up σ 0 12 ((i : Int) + 1)) 0 4 1 0 12 = ((i + 1 : Nat) : Int) := by rw [up_j (by decide)]; exact s1
  have s4 : up (up σ 0 12 ((i : Int) + 1)) 0 4 1 0 0 = (b : Int) := by rw [up_j (by decide)]; exact s2
  have s5 : ∀ j, j < b → 0 ≤ up σ 0 12 ((i : Int) + 1) 1 j ∧ up σ 0 12 ((i : Int) + 1) 1 j ≤ 127 := fun j hj => by rw [up_ne (by decide)]; exact hx j hj
  have s6 : ∀ j, j < b → 0 ≤ up (up σ 0 12 ((i : Int) + 1)) 0 4 1 1 j ∧ up (up σ 0 12 ((i : Int) + 1)) 0 4 1 1 j ≤ 127 := fun j hj => by rw [up_ne (by decide)]; exact s5 j hj
  have s7 : rdN (up σ 0 12 ((i : Int) + 1) 1) (b - (i + 1)) (i + 1) [] 0 0 = R := by rw [up_ne (by decide)]; exact hR
  have s8 : rdN (up (up σ 0 12 ((i : Int) + 1)) 0 4 1 1) (b - (i + 1)) (i + 1) [] 0 0 = R := by rw [up_ne (by decide)]; exact s7
  have s9 : ∀ k, k < 56 → up (up σ 0 12 ((i : Int) + 1)) 0 4 1 3 k = x.1 k := fun k hk => by rw [up_ne (by decide), up_ne (by decide)]; exact m3 k hk
  have s10 : ∀ k, k < 16 → up (up σ 0 12 ((i : Int) + 1)) 0 4 1 5 k = x.2.2.1 k := fun k hk => by rw [up_ne (by decide), up_ne (by decide)]; exact m5 k hk
  have u4 : up (up σ 0 12 ((i : Int) + 1)) 0 4 1 0 4 = 1 := up_at
  have fr1 : ∀ τ : Sg, (∀ c, c ≠ 0 → c ≠ 3 → c ≠ 5 → c ≠ 9 → τ c = up (up σ 0 12 ((i : Int) + 1)) 0 4 1 c) → ∀ c, c ≠ 0 → c ≠ 3 → c ≠ 5 → c ≠ 9 → τ c = σ c := fun τ h c h0 h3 h5 h9 => by rw [h c h0 h3 h5 h9, up_ne h0, up_ne h0]
  have fr2 : ∀ τ : Sg, (∀ j, j ≠ 12 → τ 0 j = up (up σ 0 12 ((i : Int) + 1)) 0 4 1 0 j) → ∀ j, j ≠ 4 → j ≠ 12 → τ 0 j = σ 0 j := fun τ h j h4 h12 => by rw [h j h12, up_j h4, up_j h12]
  have xr : ∀ ns nx, R = some (ns, nx) → ∀ z ∈ ns, 0 ≤ z ∧ z ≤ 99 := fun ns nx h => (rdN_init (hR.trans h)).1
  have bad1 : ∀ {P : Int → Prop} {a : Int} {nx : Nat}, R = some ([a], nx) → ¬ P a → ∀ ns' nx', R = some (ns', nx') → ∀ a', ns' = [a'] → ¬ P a' := fun {P a nx} r1 hb ns' nx' hh a' e => by
    rw [r1] at hh
    cases hh
    cases e
    exact hb
  refine PP.iload_n dX6_item_111 rfl ?_
  by_cases hs112_97 : (σ 1 i) = 97
  · refine PP.look (off := 62) (tgt := 174) (by first | omega | assumption | exact b2i_R _ | (rcases p3 with ⟨q, -⟩ | ⟨q, -⟩ <;> unfold R32 <;> omega) | (unfold R32; omega)) dX6_item_112 (by decide) (by rw [hs112_97]; rfl) (by decide) ?_
    refine PP.aload_n dX6_item_174 rfl ?_
    refine PP.iconst dX6_item_175 ?_
    refine PP.callViP (m_numbers (many := 1) s4 hb2 s6 s3 (by omega) (by omega) s8) dX6_item_176 vl_X6_91 sm0 rfl rfl rfl rfl (Nat.le_of_ble_eq_true rfl) (by first | exact Nat.le_of_ble_eq_true rfl | omega) (fun v176 τ176 hq176 => ?_)
    obtain ⟨p1, p2, p3⟩ := hq176
    refine PP.if_eq (tgt := 199) (by first | omega | assumption | exact b2i_R _ | (rcases p3 with ⟨q, -⟩ | ⟨q, -⟩ <;> unfold R32 <;> omega) | (unfold R32; omega)) dX6_item_179 (by decide) (fun h179 => ?_) (fun h179 => ?_)
    · refine PP.iconst dX6_item_199 ?_
      refine PP.zret dX6_item_200 rfl (by decide) ?_
      rcases p3 with ⟨q, p4⟩ | ⟨q, -⟩
      · exact ⟨_, rfl, fr1 _ (fun c h0 h3 h5 h9 => p1 c h0 h9), fr2 _ p2, Or.inl ⟨rfl, fun ns nx hR' => itS_n (fun e => by omega) (fun e => by omega) (fun e => by omega) (fun _ a e => absurd (by rw [e]; rfl) (p4 ns nx hR')) (fun e => by omega) (fun e => by omega)⟩⟩
      · omega
    · obtain ⟨q, -⟩ | ⟨-, ns, nx, r1, r2, r3, r4⟩ := p3
      · omega
      obtain ⟨a, rfl⟩ := len1 r2
      have k0 := xr _ _ r1 a (by simp)
      have y0 := r4 0 a rfl
      refine PP.aload_n dX6_item_182 rfl ?_
      refine PP.getfR dX6_item_183 fl_X6_34 sm0 rfl ?_
      refine PP.iconst dX6_item_186 ?_
      refine PP.ialoadN (n := 0) sm9 (by first | decide | omega) (by first | rfl | omega) (by first | omega | assumption | exact b2i_R _ | (rcases p3 with ⟨q, -⟩ | ⟨q, -⟩ <;> unfold R32 <;> omega) | (unfold R32; omega)) dX6_item_187 ?_
      refine PP.i2l (by first | omega | assumption | exact b2i_R _ | (rcases p3 with ⟨q, -⟩ | ⟨q, -⟩ <;> unfold R32 <;> omega) | (unfold R32; omega)) dX6_item_188 ?_
      refine PP.lconst (z := 1) dX6_item_189 (by decide) ?_
      refine PP.ldc2 (z := 9) dX6_item_190 bw874 ?_
      refine PP.callSi (m_in (by unfold R32; omega) (by unfold R32; omega) (by unfold R32; omega)) dX6_item_193 sl_X6_70 rfl rfl (Nat.le_of_ble_eq_true rfl) (by first | exact Nat.le_of_ble_eq_true rfl | omega) ?_
      refine PP.if_ne (tgt := 201) (by first | omega | assumption | exact b2i_R _ | (rcases p3 with ⟨q, -⟩ | ⟨q, -⟩ <;> unfold R32 <;> omega) | (unfold R32; omega)) dX6_item_196 (by decide) (fun h196 => ?_) (fun h196 => ?_)
      · refine PP.aload_n dX6_item_201 rfl ?_
        refine PP.getfR dX6_item_202 fl_X6_16 sm0 rfl ?_
        refine PP.iconst dX6_item_205 ?_
        refine PP.aload_n dX6_item_206 rfl ?_
        refine PP.getfR dX6_item_207 fl_X6_34 sm0 rfl ?_
        refine PP.iconst dX6_item_210 ?_
        refine PP.ialoadN (n := 0) sm9 (by first | decide | omega) (by first | rfl | omega) (by first | omega | assumption | exact b2i_R _ | (rcases p3 with ⟨q, -⟩ | ⟨q, -⟩ <;> unfold R32 <;> omega) | (unfold R32; omega)) dX6_item_211 ?_
        refine PP.eqI y0 ?_
        refine PP.iastoreN (n := 2) sm3 (by first | decide | omega) (by first | rfl | omega) (by first | omega | assumption | exact b2i_R _ | (rcases p3 with ⟨q, -⟩ | ⟨q, -⟩ <;> unfold R32 <;> omega) | (unfold R32; omega)) (by first | omega | assumption | exact b2i_R _ | (rcases p3 with ⟨q, -⟩ | ⟨q, -⟩ <;> unfold R32 <;> omega) | (unfold R32; omega)) dX6_item_212 ?_
        refine PP.iconst dX6_item_213 ?_
        refine PP.zret dX6_item_214 rfl (by first | decide | omega | exact b2i_01 _) ?_
        exact ⟨_, rfl, fr1 _ (fun c h0 h3 h5 h9 => by rw [up_ne h3]; exact p1 c h0 h9), fr2 _ (fun j hj => by rw [up_ne (by decide)]; exact p2 j hj), Or.inr ⟨rfl, _, nx, itAr x a, r1, Or.inr (Or.inr (Or.inr (Or.inl ⟨by omega, a, rfl, by have := of_decide_eq_true (b2i_n.mp h196); omega, rfl⟩))), by rw [up_ne (by decide)]; exact r3, fun k hk => by
            show _ = uf x.1 2 a k
            by_cases e : k = 2
            · subst e; rw [up_at, uf_at]
            · rw [up_j e, uf_ne e, p1 3 (by decide) (by decide)]; exact s9 k hk, fun k hk => by rw [up_ne (by decide), p1 5 (by decide) (by decide)]; exact s10 k hk, by rw [up_ne (by decide), p2 4 (by decide), u4]; rfl⟩⟩
      · refine PP.iconst dX6_item_199 ?_
        refine PP.zret dX6_item_200 rfl (by first | decide | omega | exact b2i_01 _) ?_
        exact ⟨_, rfl, fr1 _ (fun c h0 h3 h5 h9 => p1 c h0 h9), fr2 _ p2, Or.inl ⟨rfl, fun ns nx hR' => itS_n (fun e => by omega) (fun e => by omega) (fun e => by omega) (fun _ => bad1 (P := fun a => 1 ≤ a ∧ a ≤ 9) r1 (by have := of_decide_eq_false (b2i_0.mp h196); omega) ns nx hR') (fun e => by omega) (fun e => by omega)⟩⟩
  by_cases hs112_99 : (σ 1 i) = 99
  · refine PP.look (off := 144) (tgt := 256) (by first | omega | assumption | exact b2i_R _ | (rcases p3 with ⟨q, -⟩ | ⟨q, -⟩ <;> unfold R32 <;> omega) | (unfold R32; omega)) dX6_item_112 (by decide) (by rw [hs112_99]; rfl) (by decide) ?_
    refine PP.aload_n dX6_item_256 rfl ?_
    refine PP.iconst dX6_item_257 ?_
    refine PP.callViP (m_numbers (many := 2) s4 hb2 s6 s3 (by omega) (by omega) s8) dX6_item_258 vl_X6_91 sm0 rfl rfl rfl rfl (Nat.le_of_ble_eq_true rfl) (by first | exact Nat.le_of_ble_eq_true rfl | omega) (fun v258 τ258 hq258 => ?_)
    obtain ⟨p1, p2, p3⟩ := hq258
    refine PP.if_eq (tgt := 284) (by first | omega | assumption | exact b2i_R _ | (rcases p3 with ⟨q, -⟩ | ⟨q, -⟩ <;> unfold R32 <;> omega) | (unfold R32; omega)) dX6_item_261 (by decide) (fun h261 => ?_) (fun h261 => ?_)
    · refine PP.iconst dX6_item_284 ?_
      refine PP.zret dX6_item_285 rfl (by decide) ?_
      rcases p3 with ⟨q, p4⟩ | ⟨q, -⟩
      · exact ⟨_, rfl, fr1 _ (fun c h0 h3 h5 h9 => p1 c h0 h9), fr2 _ p2, Or.inl ⟨rfl, fun ns nx hR' => itS_n (fun e => by omega) (fun e => by omega) (fun e => by omega) (fun e => by omega) (fun e => by omega) (fun _ h a e => absurd (by rw [e]; rfl) (p4 ns nx hR'))⟩⟩
      · omega
    · obtain ⟨q, -⟩ | ⟨-, ns, nx, r1, r2, r3, r4⟩ := p3
      · omega
      obtain ⟨h', a, rfl⟩ := len2 r2
      have k0 := xr _ _ r1 h' (by simp)
      obtain ⟨h, rfl⟩ : ∃ h : Nat, h' = (h : Int) := ⟨h'.toNat, by omega⟩
      have k1 := xr _ _ r1 a (by simp)
      have y0 := r4 0 h rfl
      have y1 := r4 1 a rfl
      refine PP.aload_n dX6_item_264 rfl ?_
      refine PP.getfR dX6_item_265 fl_X6_34 sm0 rfl ?_
      refine PP.iconst dX6_item_268 ?_
      refine PP.ialoadN (n := 0) sm9 (by first | decide | omega) (by first | rfl | omega) (by first | omega | assumption | exact b2i_R _ | (rcases p3 with ⟨q, -⟩ | ⟨q, -⟩ <;> unfold R32 <;> omega) | (unfold R32; omega)) dX6_item_269 ?_
      refine PP.bipush dX6_item_270 (by decide) ?_
      refine PP.icmp_gt (tgt := 284) (by first | omega | assumption | exact b2i_R _ | (rcases p3 with ⟨q, -⟩ | ⟨q, -⟩ <;> unfold R32 <;> omega) | (unfold R32; omega)) (by first | omega | assumption | exact b2i_R _ | (rcases p3 with ⟨q, -⟩ | ⟨q, -⟩ <;> unfold R32 <;> omega) | (unfold R32; omega)) dX6_item_272 (by decide) (fun h272 => ?_) (fun h272 => ?_)
      · refine PP.iconst dX6_item_284 ?_
        refine PP.zret dX6_item_285 rfl (by first | decide | omega | exact b2i_01 _) ?_
        refine ⟨_, rfl, fr1 _ (fun c h0 h3 h5 h9 => p1 c h0 h9), fr2 _ p2, Or.inl ⟨rfl, fun ns nx hR' => itS_n (fun e => by omega) (fun e => by omega) (fun e => by omega) (fun e => by omega) (fun e => by omega) (fun _ h2 a2 e q => ?_)⟩⟩
        rw [r1] at hR'
        cases hR'
        cases e
        omega
      · refine PP.aload_n dX6_item_275 rfl ?_
        refine PP.getfR dX6_item_276 fl_X6_34 sm0 rfl ?_
        refine PP.iconst dX6_item_279 ?_
        refine PP.ialoadN (n := 1) sm9 (by first | decide | omega) (by first | rfl | omega) (by first | omega | assumption | exact b2i_R _ | (rcases p3 with ⟨q, -⟩ | ⟨q, -⟩ <;> unfold R32 <;> omega) | (unfold R32; omega)) dX6_item_280 ?_
        refine PP.if_ne (tgt := 286) (by first | omega | assumption | exact b2i_R _ | (rcases p3 with ⟨q, -⟩ | ⟨q, -⟩ <;> unfold R32 <;> omega) | (unfold R32; omega)) dX6_item_281 (by decide) (fun h281 => ?_) (fun h281 => ?_)
        · refine PP.aload_n dX6_item_286 rfl ?_
          refine PP.getfR dX6_item_287 fl_X6_16 sm0 rfl ?_
          refine PP.bipush dX6_item_290 (by decide) ?_
          refine PP.aload_n dX6_item_292 rfl ?_
          refine PP.getfR dX6_item_293 fl_X6_34 sm0 rfl ?_
          refine PP.iconst dX6_item_296 ?_
          refine PP.ialoadN (n := 0) sm9 (by first | decide | omega) (by first | rfl | omega) (by first | omega | assumption | exact b2i_R _ | (rcases p3 with ⟨q, -⟩ | ⟨q, -⟩ <;> unfold R32 <;> omega) | (unfold R32; omega)) dX6_item_297 ?_
          refine PP.eqI y0 ?_
          refine PP.iadd dX6_item_298 ?_
          refine PP.aload_n dX6_item_299 rfl ?_
          refine PP.getfR dX6_item_300 fl_X6_34 sm0 rfl ?_
          refine PP.iconst dX6_item_303 ?_
          refine PP.ialoadN (n := 1) sm9 (by first | decide | omega) (by first | rfl | omega) (by first | omega | assumption | exact b2i_R _ | (rcases p3 with ⟨q, -⟩ | ⟨q, -⟩ <;> unfold R32 <;> omega) | (unfold R32; omega)) dX6_item_304 ?_
          refine PP.eqI y1 ?_
          refine PP.iastoreN (n := (32 + h)) sm3 (by first | decide | omega) (by omega) (by first | omega | assumption | exact b2i_R _ | (rcases p3 with ⟨q, -⟩ | ⟨q, -⟩ <;> unfold R32 <;> omega) | (unfold R32; omega)) (by first | omega | assumption | exact b2i_R _ | (rcases p3 with ⟨q, -⟩ | ⟨q, -⟩ <;> unfold R32 <;> omega) | (unfold R32; omega)) dX6_item_305 ?_
          refine PP.iconst dX6_item_306 ?_
          refine PP.zret dX6_item_307 rfl (by first | decide | omega | exact b2i_01 _) ?_
          exact ⟨_, rfl, fr1 _ (fun c h0 h3 h5 h9 => by rw [up_ne h3]; exact p1 c h0 h9), fr2 _ (fun j hj => by rw [up_ne (by decide)]; exact p2 j hj), Or.inr ⟨rfl, _, nx, itCo x h a, r1, Or.inr (Or.inr (Or.inr (Or.inr (Or.inr ⟨by omega, h, a, rfl, by omega, rfl⟩)))), by rw [up_ne (by decide)]; exact r3, fun k hk => by
              show _ = uf x.1 (32 + (h : Int).toNat) a k
              rw [Int.toNat_natCast]
              by_cases e : k = 32 + h
              · subst e; rw [up_at, uf_at]
              · rw [up_j e, uf_ne e, p1 3 (by decide) (by decide)]; exact s9 k hk, fun k hk => by rw [up_ne (by decide), p1 5 (by decide) (by decide)]; exact s10 k hk, by rw [up_ne (by decide), p2 4 (by decide), u4]; rfl⟩⟩
        · refine PP.iconst dX6_item_284 ?_
          refine PP.zret dX6_item_285 rfl (by first | decide | omega | exact b2i_01 _) ?_
          refine ⟨_, rfl, fr1 _ (fun c h0 h3 h5 h9 => p1 c h0 h9), fr2 _ p2, Or.inl ⟨rfl, fun ns nx hR' => itS_n (fun e => by omega) (fun e => by omega) (fun e => by omega) (fun e => by omega) (fun e => by omega) (fun _ h2 a2 e q => ?_)⟩⟩
          rw [r1] at hR'
          cases hR'
          cases e
          omega
  by_cases hs112_112 : (σ 1 i) = 112
  · refine PP.look (off := 57) (tgt := 169) (by first | omega | assumption | exact b2i_R _ | (rcases p3 with ⟨q, -⟩ | ⟨q, -⟩ <;> unfold R32 <;> omega) | (unfold R32; omega)) dX6_item_112 (by decide) (by rw [hs112_112]; rfl) (by decide) ?_
    refine PP.aload_n dX6_item_169 rfl ?_
    refine PP.callViP (m_placeItem s4 hb2 s6 s3 (by omega) s8 hw s9 s10) dX6_item_170 vl_X6_107 sm0 rfl rfl rfl rfl (Nat.le_of_ble_eq_true rfl) (by first | exact Nat.le_of_ble_eq_true rfl | omega) (fun v170 τ170 hq170 => ?_)
    obtain ⟨p1, p2, p3⟩ := hq170
    have hz01 : v170 = 0 ∨ v170 = 1 := p3.elim (fun q => Or.inl q.1) (fun q => Or.inr q.1)
    refine PP.zret dX6_item_173 rfl (by first | decide | omega | exact b2i_01 _) ?_
    refine ⟨_, rfl, fr1 _ p1, fr2 _ p2, ?_⟩
    rcases p3 with ⟨q, g⟩ | ⟨q, t, s, f, nx, r1, r2, r3, r4, r5⟩
    · exact Or.inl ⟨q, fun ns nx hR' => itS_n (fun e => by omega) (fun e => by omega) (fun _ => g ns nx hR') (fun e => by omega) (fun e => by omega) (fun e => by omega)⟩
    · exact Or.inr ⟨q, _, nx, itPl x t s f, r1, Or.inr (Or.inr (Or.inl ⟨by omega, t, s, f, rfl, r2, rfl⟩)), r3, fun k hk => by rw [r4]; exact s9 k hk, r5, by rw [p2 4 (by decide), u4]; rfl⟩
  by_cases hs112_116 : (σ 1 i) = 116
  · refine PP.look (off := 52) (tgt := 164) (by first | omega | assumption | exact b2i_R _ | (rcases p3 with ⟨q, -⟩ | ⟨q, -⟩ <;> unfold R32 <;> omega) | (unfold R32; omega)) dX6_item_112 (by decide) (by rw [hs112_116]; rfl) (by decide) ?_
    refine PP.aload_n dX6_item_164 rfl ?_
    refine PP.callViP (m_thingItem s4 hb2 s6 s3 (by omega) s8 hw s9) dX6_item_165 vl_X6_103 sm0 rfl rfl rfl rfl (Nat.le_of_ble_eq_true rfl) (by first | exact Nat.le_of_ble_eq_true rfl | omega) (fun v165 τ165 hq165 => ?_)
    obtain ⟨p1, p2, p3⟩ := hq165
    have hz01 : v165 = 0 ∨ v165 = 1 := p3.elim (fun q => Or.inl q.1) (fun q => Or.inr q.1)
    refine PP.zret dX6_item_168 rfl (by first | decide | omega | exact b2i_01 _) ?_
    refine ⟨_, rfl, fr1 _ p1, fr2 _ p2, ?_⟩
    rcases p3 with ⟨q, g⟩ | ⟨q, k, w, h, d, nx, r1, r2, r3, r4, r5⟩
    · exact Or.inl ⟨q, fun ns nx hR' => itS_n (fun e => by omega) (fun _ => g ns nx hR') (fun e => by omega) (fun e => by omega) (fun e => by omega) (fun e => by omega)⟩
    · exact Or.inr ⟨q, _, nx, itTh x k w h d, r1, Or.inr (Or.inl ⟨by omega, k, w, h, d, rfl, r2, rfl⟩), r3, r4, fun k hk => by rw [r5]; exact s10 k hk, by rw [p2 4 (by decide), u4]; rfl⟩
  by_cases hs112_119 : (σ 1 i) = 119
  · refine PP.look (off := 103) (tgt := 215) (by first | omega | assumption | exact b2i_R _ | (rcases p3 with ⟨q, -⟩ | ⟨q, -⟩ <;> unfold R32 <;> omega) | (unfold R32; omega)) dX6_item_112 (by decide) (by rw [hs112_119]; rfl) (by decide) ?_
    refine PP.aload_n dX6_item_215 rfl ?_
    refine PP.iconst dX6_item_216 ?_
    refine PP.callViP (m_numbers (many := 1) s4 hb2 s6 s3 (by omega) (by omega) s8) dX6_item_217 vl_X6_91 sm0 rfl rfl rfl rfl (Nat.le_of_ble_eq_true rfl) (by first | exact Nat.le_of_ble_eq_true rfl | omega) (fun v217 τ217 hq217 => ?_)
    obtain ⟨p1, p2, p3⟩ := hq217
    refine PP.if_eq (tgt := 240) (by first | omega | assumption | exact b2i_R _ | (rcases p3 with ⟨q, -⟩ | ⟨q, -⟩ <;> unfold R32 <;> omega) | (unfold R32; omega)) dX6_item_220 (by decide) (fun h220 => ?_) (fun h220 => ?_)
    · refine PP.iconst dX6_item_240 ?_
      refine PP.zret dX6_item_241 rfl (by decide) ?_
      rcases p3 with ⟨q, p4⟩ | ⟨q, -⟩
      · exact ⟨_, rfl, fr1 _ (fun c h0 h3 h5 h9 => p1 c h0 h9), fr2 _ p2, Or.inl ⟨rfl, fun ns nx hR' => itS_n (fun e => by omega) (fun e => by omega) (fun e => by omega) (fun e => by omega) (fun _ a e => absurd (by rw [e]; rfl) (p4 ns nx hR')) (fun e => by omega)⟩⟩
      · omega
    · obtain ⟨q, -⟩ | ⟨-, ns, nx, r1, r2, r3, r4⟩ := p3
      · omega
      obtain ⟨a, rfl⟩ := len1 r2
      have k0 := xr _ _ r1 a (by simp)
      have y0 := r4 0 a rfl
      refine PP.aload_n dX6_item_223 rfl ?_
      refine PP.getfR dX6_item_224 fl_X6_34 sm0 rfl ?_
      refine PP.iconst dX6_item_227 ?_
      refine PP.ialoadN (n := 0) sm9 (by first | decide | omega) (by first | rfl | omega) (by first | omega | assumption | exact b2i_R _ | (rcases p3 with ⟨q, -⟩ | ⟨q, -⟩ <;> unfold R32 <;> omega) | (unfold R32; omega)) dX6_item_228 ?_
      refine PP.i2l (by first | omega | assumption | exact b2i_R _ | (rcases p3 with ⟨q, -⟩ | ⟨q, -⟩ <;> unfold R32 <;> omega) | (unfold R32; omega)) dX6_item_229 ?_
      refine PP.lconst (z := 1) dX6_item_230 (by decide) ?_
      refine PP.ldc2 (z := 9) dX6_item_231 bw874 ?_
      refine PP.callSi (m_in (by unfold R32; omega) (by unfold R32; omega) (by unfold R32; omega)) dX6_item_234 sl_X6_70 rfl rfl (Nat.le_of_ble_eq_true rfl) (by first | exact Nat.le_of_ble_eq_true rfl | omega) ?_
      refine PP.if_ne (tgt := 242) (by first | omega | assumption | exact b2i_R _ | (rcases p3 with ⟨q, -⟩ | ⟨q, -⟩ <;> unfold R32 <;> omega) | (unfold R32; omega)) dX6_item_237 (by decide) (fun h237 => ?_) (fun h237 => ?_)
      · refine PP.aload_n dX6_item_242 rfl ?_
        refine PP.getfR dX6_item_243 fl_X6_22 sm0 rfl ?_
        refine PP.iconst dX6_item_246 ?_
        refine PP.aload_n dX6_item_247 rfl ?_
        refine PP.getfR dX6_item_248 fl_X6_34 sm0 rfl ?_
        refine PP.iconst dX6_item_251 ?_
        refine PP.ialoadN (n := 0) sm9 (by first | decide | omega) (by first | rfl | omega) (by first | omega | assumption | exact b2i_R _ | (rcases p3 with ⟨q, -⟩ | ⟨q, -⟩ <;> unfold R32 <;> omega) | (unfold R32; omega)) dX6_item_252 ?_
        refine PP.eqI y0 ?_
        refine PP.iastoreN (n := 0) sm5 (by first | decide | omega) (by first | rfl | omega) (by first | omega | assumption | exact b2i_R _ | (rcases p3 with ⟨q, -⟩ | ⟨q, -⟩ <;> unfold R32 <;> omega) | (unfold R32; omega)) (by first | omega | assumption | exact b2i_R _ | (rcases p3 with ⟨q, -⟩ | ⟨q, -⟩ <;> unfold R32 <;> omega) | (unfold R32; omega)) dX6_item_253 ?_
        refine PP.iconst dX6_item_254 ?_
        refine PP.zret dX6_item_255 rfl (by first | decide | omega | exact b2i_01 _) ?_
        exact ⟨_, rfl, fr1 _ (fun c h0 h3 h5 h9 => by rw [up_ne h5]; exact p1 c h0 h9), fr2 _ (fun j hj => by rw [up_ne (by decide)]; exact p2 j hj), Or.inr ⟨rfl, _, nx, itWa x a, r1, Or.inr (Or.inr (Or.inr (Or.inr (Or.inl ⟨by omega, a, rfl, by have := of_decide_eq_true (b2i_n.mp h237); omega, rfl⟩)))), by rw [up_ne (by decide)]; exact r3, fun k hk => by rw [up_ne (by decide), p1 3 (by decide) (by decide)]; exact s9 k hk, fun k hk => by
            show _ = uf x.2.2.1 0 a k
            by_cases e : k = 0
            · subst e; rw [up_at, uf_at]
            · rw [up_j e, uf_ne e, p1 5 (by decide) (by decide)]; exact s10 k hk, by rw [up_ne (by decide), p2 4 (by decide), u4]; rfl⟩⟩
      · refine PP.iconst dX6_item_240 ?_
        refine PP.zret dX6_item_241 rfl (by first | decide | omega | exact b2i_01 _) ?_
        exact ⟨_, rfl, fr1 _ (fun c h0 h3 h5 h9 => p1 c h0 h9), fr2 _ p2, Or.inl ⟨rfl, fun ns nx hR' => itS_n (fun e => by omega) (fun e => by omega) (fun e => by omega) (fun e => by omega) (fun _ => bad1 (P := fun a => 1 ≤ a ∧ a ≤ 9) r1 (by have := of_decide_eq_false (b2i_0.mp h237); omega) ns nx hR') (fun e => by omega)⟩⟩
  refine PP.look (off := 196) (tgt := 308) (by first | omega | assumption | exact b2i_R _ | (rcases p3 with ⟨q, -⟩ | ⟨q, -⟩ <;> unfold R32 <;> omega) | (unfold R32; omega)) dX6_item_112 (by decide) (by simp [Op.lookupswitch.offset_cons, Op.lookupswitch.offset_nil]; repeat rw [if_neg (by omega)]) (by decide) ?_
  refine PP.iconst dX6_item_308 ?_
  refine PP.zret dX6_item_309 rfl (by first | decide | omega | exact b2i_01 _) ?_
  exact ⟨_, rfl, fr1 _ (fun c _ _ _ _ => rfl), fr2 _ (fun j _ => rfl), Or.inl ⟨rfl, fun ns nx hR' => itS_n (fun e => by omega) (fun e => by omega) (fun e => by omega) (fun e => by omega) (fun e => by omega) (fun e => by omega)⟩⟩
theorem m_item {σ : Sg} {b i : Nat} {R : Option (List Int × Nat)} {x : RS} (hb : σ 0 0 = (b : Int)) (hb2 : b ≤ 200) (hx : ∀ j, j < b → 0 ≤ σ 1 j ∧ σ 1 j ≤ 127) (hi : σ 0 12 = (i : Int)) (hib : i < b) (hR : rdN (σ 1) (b - (i + 1)) (i + 1) [] 0 0 = R) (hw : wfS x) (hM : RdM σ x) : OK SHm mX6_item 6 [vR 0] σ (RP (fun v τ => (∀ c, c ≠ 0 → c ≠ 3 → c ≠ 5 → c ≠ 9 → τ c = σ c) ∧ (∀ j, j ≠ 4 → j ≠ 12 → τ 0 j = σ 0 j) ∧ ((v = 0 ∧ ∀ ns nx, R = some (ns, nx) → ∀ y, ¬ itS (σ 1 i) ns x y) ∨ (v = 1 ∧ ∃ ns nx y, R = some (ns, nx) ∧ itS (σ 1 i) ns x y ∧ τ 0 12 = ((nx : Nat) : Int) ∧ RdM τ y)))) := by
  have hxi := hx i hib
  have hlt : ltA (σ 1) b i = σ 1 i := by unfold ltA; rw [if_pos hib]
  refine OK.enter (L' := [vR 0, vN, vN]) (by decide +kernel) (by simp [ent0]) rfl ?_
  refine PP.aload_n dX6_item_0 rfl ?_
  refine PP.aload_n dX6_item_1 rfl ?_
  refine PP.getfI dX6_item_2 fl_X6_78 sm0 rfl ?_
  refine PP.eqI hi ?_
  refine PP.callVi (m_letterAt hb hb2 (by omega)) dX6_item_5 vl_X6_81 sm0 rfl rfl rfl rfl (Nat.le_of_ble_eq_true rfl) (by first | exact Nat.le_of_ble_eq_true rfl | omega) ?_
  refine PP.eqI hlt ?_
  refine PP.istore_n (L' := [_, _, _]) dX6_item_8 (Nat.le_of_ble_eq_true rfl) rfl rfl ?_
  refine PP.aload_n dX6_item_9 rfl ?_
  refine PP.dup rfl dX6_item_10 ?_
  refine PP.getfI dX6_item_11 fl_X6_78 sm0 rfl ?_
  refine PP.eqI hi ?_
  refine PP.iconst dX6_item_14 ?_
  refine PP.iadd dX6_item_15 ?_
  refine PP.putI dX6_item_16 fp_X6_78 sm0 rfl (by first | omega | assumption | exact b2i_R _ | (unfold R32; omega)) ?_
  refine PP.iload_n dX6_item_19 rfl ?_
  refine PP.bipush dX6_item_20 (by decide) ?_
  refine PP.icmp_ne (tgt := 106) (by first | omega | assumption | exact b2i_R _ | (unfold R32; omega)) (by first | omega | assumption | exact b2i_R _ | (unfold R32; omega)) dX6_item_22 (by decide) (fun h22 => ?_) (fun h22 => ?_)
  · refine PP.aload_n dX6_item_106 rfl ?_
    refine PP.iconst dX6_item_107 ?_
    refine PP.putZ dX6_item_108 fp_X6_62 sm0 rfl (by first | omega | assumption | exact b2i_R _ | (unfold R32; omega)) ?_
    exact IT_o hb hb2 hx hib hR hw hM (by omega)
  · exact IT_n hb hb2 hx hib hR hw hM (by omega)
theorem m_readAll {σ : Sg} {b : Nat} (hb : σ 0 0 = (b : Int)) (hb2 : b ≤ 200) (hx : ∀ j, j < b → 0 ≤ σ 1 j ∧ σ 1 j ≤ 127) : OK SHm mX6_readAll 8 [vR 0] σ (RP (fun v τ => (∀ c, c ≠ 0 → c ≠ 3 → c ≠ 5 → c ≠ 9 → τ c = σ c) ∧ (∀ j, j ≠ 4 → j ≠ 12 → τ 0 j = σ 0 j) ∧ ∃ y, rdA (σ 1) b 200 0 RS0 v y ∧ (v = -4 → RdM τ y ∧ wfS y))) := by
  have key : ∀ (k i : Nat) (st : RS) (σ1 : Sg), b ≤ i + k → i ≤ b → wfS st → RdM σ1 st → σ1 0 12 = (i : Int) → (∀ c, c ≠ 0 → c ≠ 3 → c ≠ 5 → c ≠ 9 → σ1 c = σ c) → (∀ j, j ≠ 4 → j ≠ 12 → σ1 0 j = σ 0 j) → (∀ v y, rdA (σ 1) b k i st v y → rdA (σ 1) b 200 0 RS0 v y) → PP SHm mX6_readAll 8 9 [vR 0, vN] [] σ1 (RP (fun v τ => (∀ c, c ≠ 0 → c ≠ 3 → c ≠ 5 → c ≠ 9 → τ c = σ c) ∧ (∀ j, j ≠ 4 → j ≠ 12 → τ 0 j = σ 0 j) ∧ ∃ y, rdA (σ 1) b 200 0 RS0 v y ∧ (v = -4 → RdM τ y ∧ wfS y))) := by
    intro k
    induction k with
    | zero =>
      intro i st σ1 h1 h2 hw hM h12 f1 f2 hL
      have hb' : σ1 0 0 = (b : Int) := by rw [f2 0 (by decide) (by decide)]; exact hb
      refine PP.aload_n dX6_readAll_9 rfl ?_
      refine PP.getfI dX6_readAll_10 fl_X6_78 sm0 rfl ?_
      refine PP.aload_n dX6_readAll_13 rfl ?_
      refine PP.getfI dX6_readAll_14 fl_X6_74 sm0 rfl ?_
      refine PP.icmp_ge (tgt := 37) (by first | omega | (unfold R32; omega)) (by first | omega | (unfold R32; omega)) dX6_readAll_17 (by decide) (fun h17 => ?_) (fun h17 => ?_)
      · refine PP.bipush dX6_readAll_37 (by decide) ?_
        refine PP.iret dX6_readAll_39 rfl ?_
        exact ⟨_, rfl, f1, f2, st, hL _ _ ⟨rfl, rfl⟩, fun _ => ⟨hM, hw⟩⟩
      · omega
    | succ k ih =>
      intro i st σ1 h1 h2 hw hM h12 f1 f2 hL
      have hb' : σ1 0 0 = (b : Int) := by rw [f2 0 (by decide) (by decide)]; exact hb
      have e1 : σ1 1 = σ 1 := f1 1 (by decide) (by decide) (by decide) (by decide)
      refine PP.aload_n dX6_readAll_9 rfl ?_
      refine PP.getfI dX6_readAll_10 fl_X6_78 sm0 rfl ?_
      refine PP.aload_n dX6_readAll_13 rfl ?_
      refine PP.getfI dX6_readAll_14 fl_X6_74 sm0 rfl ?_
      refine PP.icmp_ge (tgt := 37) (by first | omega | (rcases p3 with ⟨q, -⟩ | ⟨q, -⟩ <;> unfold R32 <;> omega) | (unfold R32; omega)) (by first | omega | (rcases p3 with ⟨q, -⟩ | ⟨q, -⟩ <;> unfold R32 <;> omega) | (unfold R32; omega)) dX6_readAll_17 (by decide) (fun h17 => ?_) (fun h17 => ?_)
      · refine PP.bipush dX6_readAll_37 (by decide) ?_
        refine PP.iret dX6_readAll_39 rfl ?_
        exact ⟨_, rfl, f1, f2, st, hL _ _ (Or.inl ⟨by omega, rfl, rfl⟩), fun _ => ⟨hM, hw⟩⟩
      · refine PP.aload_n dX6_readAll_20 rfl ?_
        refine PP.getfI dX6_readAll_21 fl_X6_78 sm0 rfl ?_
        refine PP.istore_n (L' := [_, _]) dX6_readAll_24 (Nat.le_of_ble_eq_true rfl) rfl rfl ?_
        refine PP.aload_n dX6_readAll_25 rfl ?_
        refine PP.callViP (m_item (i := i) (x := st) hb' hb2 (fun j hj => by rw [e1]; exact hx j hj) h12 (by omega) rfl hw hM) dX6_readAll_26 vl_X6_110 sm0 rfl rfl rfl rfl (Nat.le_of_ble_eq_true rfl) (by first | exact Nat.le_of_ble_eq_true rfl | omega) (fun v26 τ26 hq26 => ?_)
        obtain ⟨p1, p2, p3⟩ := hq26
        rw [e1] at p3
        refine PP.if_ne (tgt := 34) (by first | omega | (rcases p3 with ⟨q, -⟩ | ⟨q, -⟩ <;> unfold R32 <;> omega) | (unfold R32; omega)) dX6_readAll_29 (by decide) (fun h29 => ?_) (fun h29 => ?_)
        · refine PP.goto (tgt := 9) dX6_readAll_34 (by decide) ?_
          rcases p3 with ⟨q, -⟩ | ⟨q, ns, nx, y, r1, r2, r3, r4⟩
          · omega
          · have z := rdN_init r1
            refine PP.frg 1 (L' := [_, _]) rfl ?_
            exact ih nx y τ26 (by omega) (by omega) (wfS_it r2 hw z.1) r4 r3 (fun c h0 h3 h5 h9 => by rw [p1 c h0 h3 h5 h9]; exact f1 c h0 h3 h5 h9) (fun j h4 h12 => by rw [p2 j h4 h12]; exact f2 j h4 h12) (fun v y' g => hL _ _ (Or.inr ⟨by omega, Or.inr ⟨ns, nx, r1, Or.inr ⟨y, r2, g⟩⟩⟩))
        · refine PP.iload_n dX6_readAll_32 rfl ?_
          refine PP.iret dX6_readAll_33 rfl ?_
          rw [h12]
          refine ⟨_, rfl, fun c h0 h3 h5 h9 => by rw [p1 c h0 h3 h5 h9]; exact f1 c h0 h3 h5 h9, fun j h4 h12 => by rw [p2 j h4 h12]; exact f2 j h4 h12, ?_⟩
          rcases p3 with ⟨q, g⟩ | ⟨q, -⟩
          · refine ⟨st, hL _ _ (Or.inr ⟨by omega, ?_⟩), fun e => by omega⟩
            cases hr : rdN (σ 1) (b - (i + 1)) (i + 1) [] 0 0 with
            | none => exact Or.inl ⟨rfl, rfl⟩
            | some r => exact Or.inr ⟨r.1, r.2, rfl, Or.inl ⟨rfl, g r.1 r.2 hr⟩⟩
          · omega
  refine OK.enter (L' := [vR 0, vN]) (by decide +kernel) (by simp [ent0]) rfl ?_
  refine PP.aload_n dX6_readAll_0 rfl ?_
  refine PP.callVnP (m_empty) dX6_readAll_1 vl_X6_52 sm0 rfl rfl rfl rfl (Nat.le_of_ble_eq_true rfl) (by first | exact Nat.le_of_ble_eq_true rfl | omega) (fun τ1 hq1 => ?_)
  obtain ⟨p1, p2, p3⟩ := hq1
  refine PP.aload_n dX6_readAll_4 rfl ?_
  refine PP.iconst dX6_readAll_5 ?_
  refine PP.putI dX6_readAll_6 fp_X6_78 sm0 rfl (by first | omega | (unfold R32; omega)) ?_
  exact key 200 0 RS0 _ (by omega) (by omega) wfS_0 ⟨fun k hk => by rw [up_ne (by decide)]; exact p3.1 k hk, fun k hk => by rw [up_ne (by decide)]; exact p3.2.1 k hk, by rw [up_j (by decide)]; exact p3.2.2⟩ (by rw [up_at]; rfl) (fun c h0 h3 h5 _ => by rw [up_ne h0]; exact p1 c h0 h3 h5) (fun j h4 h12 => by rw [up_j h12]; exact p2 j h4) (fun _ _ h => h)
theorem m_begin {σ : Sg} : OK SHm mX6_begin 1 [vR 0] σ (RPn (fun τ => (∀ c, c ≠ 0 → c ≠ 2 → c ≠ 4 → c ≠ 8 → τ c = σ c) ∧ (∀ j, j ≠ 8 → j ≠ 10 → τ 0 j = σ 0 j) ∧ (∀ k, k < 56 → τ 2 k = σ 3 k) ∧ (∀ k, k < 16 → τ 4 k = σ 5 k) ∧ (∀ t, t < 7 → τ 8 t = -4) ∧ τ 0 8 = 0 ∧ τ 0 10 = 0)) := by
  have key3 : ∀ o, o ≤ 7 → ∀ σ1 : Sg, (∀ c, c ≠ 2 → c ≠ 4 → c ≠ 8 → σ1 c = σ c) → (∀ k, k < 56 → σ1 2 k = σ 3 k) → (∀ k, k < 16 → σ1 4 k = σ 5 k) → (∀ t, t < o → σ1 8 t = -4) → PP SHm mX6_begin 1 54 [vR 0, vI (o : Int)] [] σ1 (RPn (fun τ => (∀ c, c ≠ 0 → c ≠ 2 → c ≠ 4 → c ≠ 8 → τ c = σ c) ∧ (∀ j, j ≠ 8 → j ≠ 10 → τ 0 j = σ 0 j) ∧ (∀ k, k < 56 → τ 2 k = σ 3 k) ∧ (∀ k, k < 16 → τ 4 k = σ 5 k) ∧ (∀ t, t < 7 → τ 8 t = -4) ∧ τ 0 8 = 0 ∧ τ 0 10 = 0)) := by
    refine loop_dn 7 ?_ ?_
    · intro σ1 f1 f2 f3 f4
      refine PP.iload_n dX6_begin_54 rfl ?_
      refine PP.bipush dX6_begin_55 (by decide) ?_
      refine PP.icmp_ge (tgt := 74) (by first | omega | (unfold R32; omega)) (by first | omega | (unfold R32; omega)) dX6_begin_57 (by decide) (fun h57 => ?_) (fun h57 => ?_)
      · refine PP.aload_n dX6_begin_74 rfl ?_
        refine PP.iconst dX6_begin_75 ?_
        refine PP.putI dX6_begin_76 fp_X6_117 sm0 rfl (by first | omega | (unfold R32; omega)) ?_
        refine PP.aload_n dX6_begin_79 rfl ?_
        refine PP.iconst dX6_begin_80 ?_
        refine PP.putI dX6_begin_81 fp_X6_120 sm0 rfl (by first | omega | (unfold R32; omega)) ?_
        refine PP.vret dX6_begin_84 rfl ?_
        exact ⟨rfl, fun c h0 h2 h4 h8 => by rw [up_ne h0, up_ne h0]; exact f1 c h2 h4 h8, fun j h8 h10 => by rw [up_j h10, up_j h8, f1 0 (by decide) (by decide) (by decide)], fun k hk => by rw [up_ne (by decide), up_ne (by decide)]; exact f2 k hk, fun k hk => by rw [up_ne (by decide), up_ne (by decide)]; exact f3 k hk, fun k hk => by rw [up_ne (by decide), up_ne (by decide)]; exact f4 k hk, by rw [up_j (by decide), up_at], by rw [up_at]⟩
      · omega
    · intro o ho ih σ1 f1 f2 f3 f4
      refine PP.iload_n dX6_begin_54 rfl ?_
      refine PP.bipush dX6_begin_55 (by decide) ?_
      refine PP.icmp_ge (tgt := 74) (by first | omega | (unfold R32; omega)) (by first | omega | (unfold R32; omega)) dX6_begin_57 (by decide) (fun h57 => ?_) (fun h57 => ?_)
      · omega
      · refine PP.aload_n dX6_begin_60 rfl ?_
        refine PP.getfR dX6_begin_61 fl_X6_31 sm0 rfl ?_
        refine PP.iload_n dX6_begin_64 rfl ?_
        refine PP.bipush dX6_begin_65 (by decide) ?_
        refine PP.iastoreN (n := o) sm8 (by first | decide | omega) (by first | rfl | omega) (by first | omega | (unfold R32; omega)) (by first | omega | (unfold R32; omega)) dX6_begin_67 ?_
        refine PP.iinc (L' := [_, _]) dX6_begin_68 rfl rfl rfl ?_
        refine PP.goto (tgt := 54) dX6_begin_71 (by decide) ?_
        refine ih _ (fun c h2 h4 h8 => by rw [up_ne h8]; exact f1 c h2 h4 h8) (fun k hk => by rw [up_ne (by decide)]; exact f2 k hk) (fun k hk => by rw [up_ne (by decide)]; exact f3 k hk) (fun k hk => ?_)
        by_cases e : k = o
        · subst e; rw [up_at]
        · rw [up_j e]; exact f4 k (by omega)
  have key2 : ∀ o, o ≤ 16 → ∀ σ1 : Sg, (∀ c, c ≠ 2 → c ≠ 4 → σ1 c = σ c) → (∀ k, k < 56 → σ1 2 k = σ 3 k) → (∀ k, k < o → σ1 4 k = σ 5 k) → PP SHm mX6_begin 1 28 [vR 0, vI (o : Int)] [] σ1 (RPn (fun τ => (∀ c, c ≠ 0 → c ≠ 2 → c ≠ 4 → c ≠ 8 → τ c = σ c) ∧ (∀ j, j ≠ 8 → j ≠ 10 → τ 0 j = σ 0 j) ∧ (∀ k, k < 56 → τ 2 k = σ 3 k) ∧ (∀ k, k < 16 → τ 4 k = σ 5 k) ∧ (∀ t, t < 7 → τ 8 t = -4) ∧ τ 0 8 = 0 ∧ τ 0 10 = 0)) := by
    refine loop_dn 16 ?_ ?_
    · intro σ1 f1 f2 f3
      refine PP.iload_n dX6_begin_28 rfl ?_
      refine PP.bipush dX6_begin_29 (by decide) ?_
      refine PP.icmp_ge (tgt := 52) (by first | omega | (unfold R32; omega)) (by first | omega | (unfold R32; omega)) dX6_begin_31 (by decide) (fun h31 => ?_) (fun h31 => ?_)
      · refine PP.iconst dX6_begin_52 ?_
        refine PP.istore_n (L' := [_, _]) dX6_begin_53 (Nat.le_of_ble_eq_true rfl) rfl rfl ?_
        exact key3 0 (by omega) σ1 (fun c h2 h4 _ => f1 c h2 h4) f2 f3 (fun t ht => by omega)
      · omega
    · intro o ho ih σ1 f1 f2 f3
      refine PP.rg (fun hg => ?_)
      refine PP.iload_n dX6_begin_28 rfl ?_
      refine PP.bipush dX6_begin_29 (by decide) ?_
      refine PP.icmp_ge (tgt := 52) (by first | omega | exact hg _ _ | (unfold R32; omega)) (by first | omega | exact hg _ _ | (unfold R32; omega)) dX6_begin_31 (by decide) (fun h31 => ?_) (fun h31 => ?_)
      · omega
      · refine PP.aload_n dX6_begin_34 rfl ?_
        refine PP.getfR dX6_begin_35 fl_X6_19 sm0 rfl ?_
        refine PP.iload_n dX6_begin_38 rfl ?_
        refine PP.aload_n dX6_begin_39 rfl ?_
        refine PP.getfR dX6_begin_40 fl_X6_22 sm0 rfl ?_
        refine PP.iload_n dX6_begin_43 rfl ?_
        refine PP.ialoadN (n := o) sm5 (by first | decide | omega) (by first | rfl | omega) (by first | omega | exact hg _ _ | (unfold R32; omega)) dX6_begin_44 ?_
        refine PP.iastoreN (n := o) sm4 (by first | decide | omega) (by first | rfl | omega) (by first | omega | exact hg _ _ | (unfold R32; omega)) (by first | omega | exact hg _ _ | (unfold R32; omega)) dX6_begin_45 ?_
        refine PP.iinc (L' := [_, _]) dX6_begin_46 rfl rfl rfl ?_
        refine PP.goto (tgt := 28) dX6_begin_49 (by decide) ?_
        refine ih _ (fun c h2 h4 => by rw [up_ne h4]; exact f1 c h2 h4) (fun k hk => by rw [up_ne (by decide)]; exact f2 k hk) (fun k hk => ?_)
        by_cases e : k = o
        · subst e; rw [up_at, f1 5 (by decide) (by decide)]
        · rw [up_j e]; exact f3 k (by omega)
  have key1 : ∀ o, o ≤ 56 → ∀ σ1 : Sg, (∀ c, c ≠ 2 → σ1 c = σ c) → (∀ k, k < o → σ1 2 k = σ 3 k) → PP SHm mX6_begin 1 2 [vR 0, vI (o : Int)] [] σ1 (RPn (fun τ => (∀ c, c ≠ 0 → c ≠ 2 → c ≠ 4 → c ≠ 8 → τ c = σ c) ∧ (∀ j, j ≠ 8 → j ≠ 10 → τ 0 j = σ 0 j) ∧ (∀ k, k < 56 → τ 2 k = σ 3 k) ∧ (∀ k, k < 16 → τ 4 k = σ 5 k) ∧ (∀ t, t < 7 → τ 8 t = -4) ∧ τ 0 8 = 0 ∧ τ 0 10 = 0)) := by
    refine loop_dn 56 ?_ ?_
    · intro σ1 f1 f2
      refine PP.iload_n dX6_begin_2 rfl ?_
      refine PP.bipush dX6_begin_3 (by decide) ?_
      refine PP.icmp_ge (tgt := 26) (by first | omega | (unfold R32; omega)) (by first | omega | (unfold R32; omega)) dX6_begin_5 (by decide) (fun h5 => ?_) (fun h5 => ?_)
      · refine PP.iconst dX6_begin_26 ?_
        refine PP.istore_n (L' := [_, _]) dX6_begin_27 (Nat.le_of_ble_eq_true rfl) rfl rfl ?_
        exact key2 0 (by omega) σ1 (fun c h2 _ => f1 c h2) f2 (fun t ht => by omega)
      · omega
    · intro o ho ih σ1 f1 f2
      refine PP.rg (fun hg => ?_)
      refine PP.iload_n dX6_begin_2 rfl ?_
      refine PP.bipush dX6_begin_3 (by decide) ?_
      refine PP.icmp_ge (tgt := 26) (by first | omega | exact hg _ _ | (unfold R32; omega)) (by first | omega | exact hg _ _ | (unfold R32; omega)) dX6_begin_5 (by decide) (fun h5 => ?_) (fun h5 => ?_)
      · omega
      · refine PP.aload_n dX6_begin_8 rfl ?_
        refine PP.getfR dX6_begin_9 fl_X6_13 sm0 rfl ?_
        refine PP.iload_n dX6_begin_12 rfl ?_
        refine PP.aload_n dX6_begin_13 rfl ?_
        refine PP.getfR dX6_begin_14 fl_X6_16 sm0 rfl ?_
        refine PP.iload_n dX6_begin_17 rfl ?_
        refine PP.ialoadN (n := o) sm3 (by first | decide | omega) (by first | rfl | omega) (by first | omega | exact hg _ _ | (unfold R32; omega)) dX6_begin_18 ?_
        refine PP.iastoreN (n := o) sm2 (by first | decide | omega) (by first | rfl | omega) (by first | omega | exact hg _ _ | (unfold R32; omega)) (by first | omega | exact hg _ _ | (unfold R32; omega)) dX6_begin_19 ?_
        refine PP.iinc (L' := [_, _]) dX6_begin_20 rfl rfl rfl ?_
        refine PP.goto (tgt := 2) dX6_begin_23 (by decide) ?_
        refine ih _ (fun c h2 => by rw [up_ne h2]; exact f1 c h2) (fun k hk => ?_)
        by_cases e : k = o
        · subst e; rw [up_at, f1 3 (by decide)]
        · rw [up_j e]; exact f2 k (by omega)
  refine OK.enter (L' := [vR 0, vN]) (by decide +kernel) (by simp [ent0]) rfl ?_
  refine PP.iconst dX6_begin_0 ?_
  refine PP.istore_n (L' := [_, _]) dX6_begin_1 (Nat.le_of_ble_eq_true rfl) rfl rfl ?_
  exact key1 0 (by omega) σ (fun c _ => rfl) (fun k hk => by omega)
theorem x_fault {σ : Sg} {A : ST} (hA : RepM σ A) (hW : WF A) : OK SHm mX6_fault 20 [vR 0] σ (RP (fun v τ => (∃ y, rdA A.2.1 A.1 200 0 RS0 v y) ∧ RepM τ A)) := by
  obtain ⟨len, txt, T, n, row, und, kep, sn⟩ := A
  obtain ⟨b1, b2, b3, b4, b5, b6, b7⟩ := RepM_e.mp hA
  obtain ⟨w1, w2, w3, w4, w5, w6, w7, w8, w9⟩ := WF_e.mp hW
  have hn7 := w3.2.1
  have hsl := w3.2.2.1
  have hws := wsh_m w5
  have hst := w5.2.1
  have t3 : σ 2 3 = (n : Int) := (b3 3 (by decide)).trans w3.1
  have t0 := b3 0 (by decide)
  have r0 := b4 0 (by decide)
  have r1 : σ 4 1 = ((msk (wsh row) n : Nat) : Int) := (b4 1 (by decide)).trans hws
  refine OK.enter (L' := [vR 0]) (by decide +kernel) (by simp [ent0]) rfl ?_
  refine PP.aload_n dX6_fault_0 rfl ?_
  refine PP.callViP (m_readAll b1 w1 (fun j hj => by rw [b2 j hj]; have := w2 j hj; omega)) dX6_fault_1 vl_X6_113 sm0 rfl rfl rfl rfl (Nat.le_of_ble_eq_true rfl) (by first | exact Nat.le_of_ble_eq_true rfl | omega) (fun v1 τ1 hq1 => ?_)
  obtain ⟨p1, p2, y, p3, p4⟩ := hq1
  refine PP.iret dX6_fault_4 rfl ?_
  exact ⟨_, rfl, ⟨y, rdA_txt b2 _ _ _ _ _ p3⟩, RepM_cong hA (fun c hc => p1 c (by omega) (by omega) (by omega) (by omega)) (fun j hj => p2 j (by omega) (by omega))⟩
theorem x_lay {σ : Sg} {A : ST} (hA : RepM σ A) (hW : WF A) : OK SHm mX6_lay 20 [vR 0] σ (RP (fun v τ => ∃ f y, rdA A.2.1 A.1 200 0 RS0 f y ∧ (f = -4 → wfS y) ∧ (((f ≠ -4 ∨ y.2.1 = 0) ∧ v = -2 ∧ RepM τ A) ∨ (f = -4 ∧ ¬ y.2.1 = 0 ∧ v = (y.2.1 : Int) ∧ RepM τ (A.1, A.2.1, y.1, y.2.1, y.2.2.1, [], [], fun _ => -4))))) := by
  obtain ⟨len, txt, T, n, row, und, kep, sn⟩ := A
  obtain ⟨b1, b2, b3, b4, b5, b6, b7⟩ := RepM_e.mp hA
  obtain ⟨w1, w2, w3, w4, w5, w6, w7, w8, w9⟩ := WF_e.mp hW
  have hn7 := w3.2.1
  have hsl := w3.2.2.1
  have hws := wsh_m w5
  have hst := w5.2.1
  have t3 : σ 2 3 = (n : Int) := (b3 3 (by decide)).trans w3.1
  have t0 := b3 0 (by decide)
  have r0 := b4 0 (by decide)
  have r1 : σ 4 1 = ((msk (wsh row) n : Nat) : Int) := (b4 1 (by decide)).trans hws
  refine OK.enter (L' := [vR 0]) (by decide +kernel) (by simp [ent0]) rfl ?_
  refine PP.aload_n dX6_lay_0 rfl ?_
  refine PP.callViP (m_readAll b1 w1 (fun j hj => by rw [b2 j hj]; have := w2 j hj; omega)) dX6_lay_1 vl_X6_113 sm0 rfl rfl rfl rfl (Nat.le_of_ble_eq_true rfl) (by first | exact Nat.le_of_ble_eq_true rfl | omega) (fun v1 τ1 hq1 => ?_)
  obtain ⟨p1, p2, y, p3, p4⟩ := hq1
  have p5 := rdA_txt b2 _ _ _ _ _ p3
  have hvr := rdA_rng p5 w1
  have hA' : RepM τ1 (len, txt, T, n, row, und, kep, sn) := RepM_cong hA (fun c hc => p1 c (by omega) (by omega) (by omega) (by omega)) (fun j hj => p2 j (by omega) (by omega))
  refine PP.bipush dX6_lay_4 (by decide) ?_
  refine PP.icmp_ne (tgt := 18) (by first | omega | (unfold R32; omega)) (by first | omega | (unfold R32; omega)) dX6_lay_6 (by decide) (fun h6 => ?_) (fun h6 => ?_)
  · refine PP.bipush dX6_lay_18 (by decide) ?_
    refine PP.iret dX6_lay_20 rfl ?_
    exact ⟨_, rfl, v1, y, p5, fun q => absurd q h6, Or.inl ⟨Or.inl h6, rfl, hA'⟩⟩
  · have e4 : v1 = -4 := by omega
    obtain ⟨hM, hy⟩ := p4 e4
    have e33 : τ1 3 3 = (y.2.1 : Int) := (hM.1 3 (by decide)).trans hy.1.1
    have hy7 := hy.1.2.1
    refine PP.aload_n dX6_lay_9 rfl ?_
    refine PP.getfR dX6_lay_10 fl_X6_16 sm0 rfl ?_
    refine PP.iconst dX6_lay_13 ?_
    refine PP.ialoadN (n := 3) sm3 (by first | decide | omega) (by first | rfl | omega) (by first | omega | (unfold R32; omega)) dX6_lay_14 ?_
    refine PP.if_ne (tgt := 21) (by first | omega | (unfold R32; omega)) dX6_lay_15 (by decide) (fun h15 => ?_) (fun h15 => ?_)
    · refine PP.aload_n dX6_lay_21 rfl ?_
      refine PP.callVnP (m_begin) dX6_lay_22 vl_X6_59 sm0 rfl rfl rfl rfl (Nat.le_of_ble_eq_true rfl) (by first | exact Nat.le_of_ble_eq_true rfl | omega) (fun τ22 hq22 => ?_)
      obtain ⟨q1, q2, q3, q4, q5, q6, q7⟩ := hq22
      refine PP.aload_n dX6_lay_25 rfl ?_
      refine PP.getfR dX6_lay_26 fl_X6_13 sm0 rfl ?_
      refine PP.iconst dX6_lay_29 ?_
      refine PP.ialoadN (n := 3) sm2 (by first | decide | omega) (by first | rfl | omega) (by first | omega | (unfold R32; omega)) dX6_lay_30 ?_
      refine PP.iret dX6_lay_31 rfl ?_
      obtain ⟨a1, a2, a3, a4, a5, a6, a7⟩ := RepM_e.mp hA'
      refine ⟨_, rfl, v1, y, p5, fun _ => hy, Or.inr ⟨e4, by omega, by rw [q3 3 (by decide)]; exact e33, ?_⟩⟩
      exact RepM_e.mpr ⟨by rw [q2 0 (by decide) (by decide)]; exact a1, fun j hj => by rw [q1 1 (by decide) (by decide) (by decide) (by decide)]; exact a2 j hj, fun k hk => by rw [q3 k hk]; exact hM.1 k hk, fun k hk => by rw [q4 k hk]; exact hM.2.1 k hk, ⟨by rw [q6]; rfl, by simp, fun k row j hk => by simp at hk⟩, ⟨by rw [q7]; rfl, by simp, fun k row j hk => by simp at hk⟩, q5⟩
    · refine PP.bipush dX6_lay_18 (by decide) ?_
      refine PP.iret dX6_lay_20 rfl ?_
      exact ⟨_, rfl, v1, y, p5, fun _ => hy, Or.inl ⟨Or.inr (by omega), rfl, hA'⟩⟩
