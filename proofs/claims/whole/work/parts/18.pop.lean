/-! a shelf gives back its latest rack -/
def wfR (T : Nat → Int) (n : Nat) (row : Nat → Int) : Prop := wfP T n (fun t => row (2 + t)) (fun t => row (9 + t)) ∧ (1 ≤ row 0 ∧ row 0 ≤ 9) ∧ ∃ p : Nat → Bool, row 1 = (msk p n : Nat)
def ppU (σ : Sg) (g : Nat) (T row : Nat → Int) : Nat → Sg
  | 0 => σ
  | t + 1 => if row (2 + t) < 0 then stdU (ppU σ g T row t) g t (-1) 0 0 else stdU (ppU σ g T row t) g t (row (2 + t)) (row (9 + t)) (sidV T t (row (2 + t)))
theorem ppU_ne {σ : Sg} {g c : Nat} {T row : Nat → Int} (h1 : c ≠ g + 1) (h2 : c ≠ g + 2) (h3 : c ≠ g + 3) : ∀ k, ppU σ g T row k c = σ c
  | 0 => rfl
  | k + 1 => by
    rw [ppU]
    split
    · rw [stdU_ne h1 h2 h3, ppU_ne h1 h2 h3 k]
    · rw [stdU_ne h1 h2 h3, ppU_ne h1 h2 h3 k]
theorem ppU_in {σ : Sg} {g : Nat} {T row : Nat → Int} : ∀ k t, t < k → ppU σ g T row k (g + 1) t = bC (row (2 + t)) ∧ ppU σ g T row k (g + 2) t = fC (row (2 + t)) (row (9 + t)) ∧ ppU σ g T row k (g + 3) t = sdC T (fun t => row (2 + t)) t
  | 0, t, h => by omega
  | k + 1, t, h => by
    rw [ppU]
    by_cases hp : row (2 + k) < 0
    · rw [if_pos hp, stdU_1, stdU_2, stdU_3]
      by_cases e : t = k
      · subst e; simp [bC, fC, sdC, hp]
      · rw [if_neg e, if_neg e, if_neg e]; exact ppU_in k t (by omega)
    · rw [if_neg hp, stdU_1, stdU_2, stdU_3]
      by_cases e : t = k
      · subst e; simp [bC, fC, sdC, sidV, hp]
      · rw [if_neg e, if_neg e, if_neg e]; exact ppU_in k t (by omega)
theorem ok_pop {σ : Sg} {s m g q n : Nat} {Rs : List (Nat → Int)} {T row : Nat → Int} (hk : SK s m) (hk2 : RK g q) (hdk : DK q) (hne : g + 3 < s) (hw : wfT T n) (hD : DR σ q T n) (hS : SHR σ s m (Rs ++ [row])) (hwr : wfR T n row) : OK SHc mX4_pop 3 [vR s, vR g] σ (RPn (fun τ => (∀ c, c ≠ s → c ≠ g → c ≠ g + 1 → c ≠ g + 2 → c ≠ g + 3 → τ c = σ c) ∧ SHR τ s m Rs ∧ RW τ g T row)) := by
  have hlt := RK_lt hk2
  obtain ⟨hs0, hs1, hm⟩ := hk
  obtain ⟨hg0, hg1, hg2, hg3⟩ := id hk2
  obtain ⟨a1, a2, a3, a4⟩ := id hS
  have hl : Rs.length < m := by simp at a3; omega
  have a2' : σ s 2 = (Rs.length : Int) + 1 := by rw [a2]; simp
  obtain ⟨r1, r2, r3⟩ := a4 Rs.length row (by simp)
  have hn7 := hw.2.1
  have hsl := hw.2.2.1
  obtain ⟨⟨hP1, hP2⟩, hwat, pw, hpw⟩ := hwr
  have hrg : R32 (row 1) ∧ R32 (row 0) := ⟨by rw [hpw]; have := msk_128 pw hn7; unfold R32; omega, by unfold R32; omega⟩
  refine OK.enter (L' := [vR s, vR g, vN, vN]) (by decide +kernel) (by simp [ent0]) rfl ?_
  refine PP.rg (fun hg => ?_)
  have e0 : ∀ k, ppU (up σ s 2 (Rs.length : Int)) g T row k (s + 1) = σ (s + 1) := fun k => by rw [ppU_ne (by omega) (by omega) (by omega), up_ne (by omega)]
  have es : ∀ k, ppU (up σ s 2 (Rs.length : Int)) g T row k s = up σ s 2 (Rs.length : Int) s := fun k => by rw [ppU_ne (by omega) (by omega) (by omega)]
  have hDk : ∀ k, DR (ppU (up σ s 2 (Rs.length : Int)) g T row k) q T n := fun k => DR_cong hD (fun c h7 h8 => by rw [ppU_ne (by omega) (by omega) (by omega), up_ne (by omega)])
  have key : ∀ o : Nat, o ≤ 7 → PP SHc mX4_pop 3 28 [vR s, vR g, vI ((Rs.length * 16 : Nat) : Int), vI (o : Int)] [] (ppU (up σ s 2 (Rs.length : Int)) g T row o) (RPn (fun τ => (∀ c, c ≠ s → c ≠ g → c ≠ g + 1 → c ≠ g + 2 → c ≠ g + 3 → τ c = σ c) ∧ SHR τ s m Rs ∧ RW τ g T row)) := by
    refine loop_dn 7 ?_ ?_
    · refine PP.iload_n dX4_pop_28 rfl ?_
      refine PP.bipush dX4_pop_29 (by decide) ?_
      refine PP.icmp_ge (tgt := 84) (by first | omega | exact hrg.1 | exact hrg.2 | (unfold R32; omega)) (by first | omega | exact hrg.1 | exact hrg.2 | (unfold R32; omega)) dX4_pop_31 (by decide) (fun h31 => ?_) (fun h31 => ?_)
      · refine PP.aload_n dX4_pop_84 rfl ?_
        refine PP.aload_n dX4_pop_85 rfl ?_
        refine PP.getfR dX4_pop_86 fl_X4_21 hs0 rfl ?_
        refine PP.iload_n dX4_pop_89 rfl ?_
        refine PP.bipush dX4_pop_90 (by decide) ?_
        refine PP.iadd dX4_pop_92 ?_
        refine PP.ialoadN (n := ((Rs.length * 16) + 14)) hs1 (by first | decide | omega) (by first | rfl | omega) (by first | omega | exact hrg.1 | exact hrg.2 | (unfold R32; omega)) dX4_pop_93 ?_
        refine PP.eqI (y := row 1) (by rw [e0, show Rs.length * 16 + 14 = 16 * Rs.length + 14 by omega]; exact r2) ?_
        refine PP.putI dX4_pop_94 fp_X4_42 hg0 rfl (by first | omega | exact hrg.1 | exact hrg.2 | (unfold R32; omega)) ?_
        refine PP.aload_n dX4_pop_97 rfl ?_
        refine PP.aload_n dX4_pop_98 rfl ?_
        refine PP.getfR dX4_pop_99 fl_X4_21 hs0 rfl ?_
        refine PP.iload_n dX4_pop_102 rfl ?_
        refine PP.bipush dX4_pop_103 (by decide) ?_
        refine PP.iadd dX4_pop_105 ?_
        refine PP.iconst dX4_pop_106 ?_
        refine PP.iadd dX4_pop_107 ?_
        refine PP.ialoadN (n := (((Rs.length * 16) + 14) + 1)) hs1 (by first | decide | omega) (by first | rfl | omega) (by first | omega | exact hrg.1 | exact hrg.2 | (unfold R32; omega)) dX4_pop_108 ?_
        refine PP.eqI (y := row 0) (by rw [up_ne (by omega), e0, show Rs.length * 16 + 14 + 1 = 16 * Rs.length + 15 by omega]; exact r3) ?_
        refine PP.putI dX4_pop_109 fp_X4_45 hg0 rfl (by first | omega | exact hrg.1 | exact hrg.2 | (unfold R32; omega)) ?_
        refine PP.vret dX4_pop_112 rfl ?_
        refine ⟨rfl, fun c h0 h1 h2 h3 h4 => ?_, ⟨?_, ?_, by omega, fun k row' hk' => ?_⟩, ⟨fun t ht => ?_, ?_, ?_⟩⟩
        · rw [up_ne h1, up_ne h1, ppU_ne h2 h3 h4, up_ne h0]
        · rw [up_ne (by omega), up_ne (by omega), es, up_j (by decide)]; exact a1
        · rw [up_ne (by omega), up_ne (by omega), es, up_at]
        · refine rwA_cong (a4 k row' (by rw [List.getElem?_append_left (List.getElem?_eq_some_iff.mp hk').1]; exact hk')) (fun j _ _ => ?_)
          rw [up_ne (by omega), up_ne (by omega), e0]
        · rw [up_ne (by omega), up_ne (by omega), up_ne (by omega), up_ne (by omega), up_ne (by omega), up_ne (by omega)]
          exact ppU_in 7 t ht
        · rw [up_j (by decide), up_at]
        · rw [up_at]
      · omega
    · intro o ho ih
      have hro := r1 o ho
      have hPo : (row (2 + o) = -4 ∧ row (9 + o) = -4) ∨ (o < n ∧ 0 ≤ row (2 + o) ∧ row (2 + o) + T (11 + o) ≤ T 0 ∧ (row (9 + o) = 0 ∨ row (9 + o) = 1)) := by
        rcases Nat.lt_or_ge o n with h | h
        · rcases hP1 o h with h' | h'
          · exact Or.inl h'
          · exact Or.inr ⟨h, h'⟩
        · exact Or.inl (hP2 o h ho)
      have hb : bC (row (2 + o)) = if row (2 + o) < 0 then -1 else row (2 + o) := rfl
      have hW : o < n → 1 ≤ T (11 + o) := fun h => (hw.2.2.2.2.2.1 o h).2.1.1
      rw [show ppU (up σ s 2 (Rs.length : Int)) g T row (o + 1) = (if row (2 + o) < 0 then stdU (ppU (up σ s 2 (Rs.length : Int)) g T row o) g o (-1) 0 0 else stdU (ppU (up σ s 2 (Rs.length : Int)) g T row o) g o (row (2 + o)) (row (9 + o)) (sidV T o (row (2 + o)))) from rfl] at ih
      by_cases hneg : row (2 + o) < 0
      · rw [if_pos hneg] at ih hb
        refine PP.iload_n dX4_pop_28 rfl ?_
        refine PP.bipush dX4_pop_29 (by decide) ?_
        refine PP.icmp_ge (tgt := 84) (by first | omega | (unfold R32; omega)) (by first | omega | (unfold R32; omega)) dX4_pop_31 (by decide) (fun h31 => ?_) (fun h31 => ?_)
        · omega
        · refine PP.aload_n dX4_pop_34 rfl ?_
          refine PP.getfR dX4_pop_35 fl_X4_21 hs0 rfl ?_
          refine PP.iload_n dX4_pop_38 rfl ?_
          refine PP.iload_n dX4_pop_39 rfl ?_
          refine PP.iadd dX4_pop_40 ?_
          refine PP.ialoadN (n := ((Rs.length * 16) + o)) hs1 (by first | decide | omega) (by first | rfl | omega) (by first | omega | (unfold R32; omega)) dX4_pop_41 ?_
          refine PP.eqI (y := (-1 : Int)) (by rw [e0, show Rs.length * 16 + o = 16 * Rs.length + o by omega, hro.1, hb]) ?_
          refine PP.iconst dX4_pop_42 ?_
          refine PP.icmp_ne (tgt := 54) (by first | omega | (unfold R32; omega)) (by first | omega | (unfold R32; omega)) dX4_pop_43 (by decide) (fun h43 => ?_) (fun h43 => ?_)
          · omega
          · refine PP.aload_n dX4_pop_46 rfl ?_
            refine PP.iload_n dX4_pop_47 rfl ?_
            refine PP.callVn (ok_leave hk2 (t := o) (by omega)) dX4_pop_48 vl_X4_48 hg0 rfl rfl rfl rfl (Nat.le_of_ble_eq_true rfl) (Nat.le_of_ble_eq_true rfl) ?_
            refine PP.goto (tgt := 78) dX4_pop_51 (by decide) ?_
            refine PP.iinc (L' := [_, _, _, _]) dX4_pop_78 rfl rfl rfl ?_
            refine PP.goto (tgt := 28) dX4_pop_81 (by decide) ?_
            exact ih
      · rw [if_neg hneg] at ih hb
        have hon : o < n := by omega
        have hf : fC (row (2 + o)) (row (9 + o)) = row (9 + o) := by unfold fC; rw [if_neg hneg]
        have hWo := hW hon
        refine PP.iload_n dX4_pop_28 rfl ?_
        refine PP.bipush dX4_pop_29 (by decide) ?_
        refine PP.icmp_ge (tgt := 84) (by first | omega | (unfold R32; omega)) (by first | omega | (unfold R32; omega)) dX4_pop_31 (by decide) (fun h31 => ?_) (fun h31 => ?_)
        · omega
        · refine PP.aload_n dX4_pop_34 rfl ?_
          refine PP.getfR dX4_pop_35 fl_X4_21 hs0 rfl ?_
          refine PP.iload_n dX4_pop_38 rfl ?_
          refine PP.iload_n dX4_pop_39 rfl ?_
          refine PP.iadd dX4_pop_40 ?_
          refine PP.ialoadN (n := ((Rs.length * 16) + o)) hs1 (by first | decide | omega) (by first | rfl | omega) (by first | omega | (unfold R32; omega)) dX4_pop_41 ?_
          refine PP.eqI (y := row (2 + o)) (by rw [e0, show Rs.length * 16 + o = 16 * Rs.length + o by omega, hro.1, hb]) ?_
          refine PP.iconst dX4_pop_42 ?_
          refine PP.icmp_ne (tgt := 54) (by first | omega | (unfold R32; omega)) (by first | omega | (unfold R32; omega)) dX4_pop_43 (by decide) (fun h43 => ?_) (fun h43 => ?_)
          · refine PP.aload_n dX4_pop_54 rfl ?_
            refine PP.iload_n dX4_pop_55 rfl ?_
            refine PP.aload_n dX4_pop_56 rfl ?_
            refine PP.getfR dX4_pop_57 fl_X4_21 hs0 rfl ?_
            refine PP.iload_n dX4_pop_60 rfl ?_
            refine PP.iload_n dX4_pop_61 rfl ?_
            refine PP.iadd dX4_pop_62 ?_
            refine PP.ialoadN (n := ((Rs.length * 16) + o)) hs1 (by first | decide | omega) (by first | rfl | omega) (by first | omega | (unfold R32; omega)) dX4_pop_63 ?_
            refine PP.eqI (y := row (2 + o)) (by rw [e0, show Rs.length * 16 + o = 16 * Rs.length + o by omega, hro.1, hb]) ?_
            refine PP.aload_n dX4_pop_64 rfl ?_
            refine PP.getfR dX4_pop_65 fl_X4_21 hs0 rfl ?_
            refine PP.iload_n dX4_pop_68 rfl ?_
            refine PP.bipush dX4_pop_69 (by decide) ?_
            refine PP.iadd dX4_pop_71 ?_
            refine PP.iload_n dX4_pop_72 rfl ?_
            refine PP.iadd dX4_pop_73 ?_
            refine PP.ialoadN (n := (((Rs.length * 16) + 7) + o)) hs1 (by first | decide | omega) (by first | rfl | omega) (by first | omega | (unfold R32; omega)) dX4_pop_74 ?_
            refine PP.eqI (y := row (9 + o)) (by rw [e0, show Rs.length * 16 + 7 + o = 16 * Rs.length + 7 + o by omega, hro.2, hf]) ?_
            refine PP.callVn (ok_stand hk2 hdk hw (hDk o) hon (by omega) (by omega)) dX4_pop_75 vl_X4_52 hg0 rfl rfl rfl rfl (Nat.le_of_ble_eq_true rfl) (Nat.le_of_ble_eq_true rfl) ?_
            refine PP.iinc (L' := [_, _, _, _]) dX4_pop_78 rfl rfl rfl ?_
            refine PP.goto (tgt := 28) dX4_pop_81 (by decide) ?_
            exact ih
          · omega
  refine PP.aload_n dX4_pop_0 rfl ?_
  refine PP.getfI dX4_pop_1 fl_X4_25 hs0 rfl ?_
  refine PP.if_gt (tgt := 8) (by first | omega | exact hg _ _ | (unfold R32; omega)) dX4_pop_4 (by decide) (fun h4 => ?_) (fun h4 => ?_)
  · refine PP.aload_n dX4_pop_8 rfl ?_
    refine PP.dup rfl dX4_pop_9 ?_
    refine PP.getfI dX4_pop_10 fl_X4_25 hs0 rfl ?_
    refine PP.eqI (y := (Rs.length : Int) + 1) a2' ?_
    refine PP.iconst dX4_pop_13 ?_
    refine PP.isub dX4_pop_14 ?_
    refine PP.eqI (y := (Rs.length : Int)) (by omega) ?_
    refine PP.putI dX4_pop_15 fp_X4_25 hs0 rfl (by first | omega | exact hg _ _ | (unfold R32; omega)) ?_
    refine PP.aload_n dX4_pop_18 rfl ?_
    refine PP.getfI dX4_pop_19 fl_X4_25 hs0 rfl ?_
    refine PP.eqI (y := ((Rs.length : Nat) : Int)) up_at ?_
    refine PP.bipush dX4_pop_22 (by decide) ?_
    refine PP.imul dX4_pop_24 ?_
    refine PP.istore_n (L' := [_, _, _, _]) dX4_pop_25 (Nat.le_of_ble_eq_true rfl) rfl rfl ?_
    refine PP.iconst dX4_pop_26 ?_
    refine PP.istore_n (L' := [_, _, _, _]) dX4_pop_27 (Nat.le_of_ble_eq_true rfl) rfl rfl ?_
    exact key 0 (by omega)
  · omega
