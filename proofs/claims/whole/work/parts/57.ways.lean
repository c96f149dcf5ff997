/-! the model: ways -/
theorem hl_mem {T : Nat → Int} {n : Nat} {wa : Nat → Bool} (hw : wfT T n) {x : Nat} : x ∈ hlT T n wa 9 ↔ x < n ∧ wa x = false := by
  unfold hlT
  simp only [List.mem_flatMap, List.mem_range, List.mem_filter, Bool.and_eq_true, decide_eq_true_eq, Bool.not_eq_true']
  constructor
  · rintro ⟨i, hi, h1, h2, h3⟩
    exact ⟨h1, h3⟩
  · rintro ⟨h1, h2⟩
    have := (hw.2.2.2.2.2.1 x h1).2.2.1
    exact ⟨(9 - T (18 + x)).toNat, by omega, h1, by omega, h2⟩
theorem hl_srt {T : Nat → Int} {n : Nat} {wa : Nat → Bool} (hw : wfT T n) : srK T (hlT T n wa 9) := by
  have hn7 := hw.2.1
  unfold srK hlT
  rw [List.pairwise_flatMap]
  constructor
  · intro i hi
    have h1 : ((List.range n).filter (fun t => decide (T (18 + t) = 9 - (i : Int)) && !wa t)).Pairwise (· < ·) := List.Pairwise.filter _ List.pairwise_lt_range
    refine h1.imp_of_mem (fun {a b} ha hb hab => ?_)
    simp only [List.mem_filter, List.mem_range, Bool.and_eq_true, decide_eq_true_eq] at ha hb
    exact ky_lt (by omega) (by omega) (Or.inr ⟨by omega, hab⟩)
  · refine List.pairwise_lt_range.imp (fun {a b} hab x hx y hy => ?_)
    simp only [List.mem_filter, List.mem_range, Bool.and_eq_true, decide_eq_true_eq] at hx hy
    exact ky_lt (by omega) (by omega) (Or.inl (by omega))
theorem hl_it {T : Nat → Int} {n : Nat} {wa : Nat → Bool} (hw : wfT T n) : itB T 7 ((List.range n).filter (fun t => !wa t)) = hlT T n wa 9 := by
  have hn7 := hw.2.1
  have hm : ∀ x, x ∈ (List.range n).filter (fun t => !wa t) ↔ x < n ∧ wa x = false := fun x => by simp
  refine srK_eq _ _ ?_ (hl_srt hw) (fun x => by rw [itB_mem, hm, hl_mem hw])
  have h1 : ((List.range n).filter (fun t => !wa t)).Pairwise (· < ·) := List.Pairwise.filter _ List.pairwise_lt_range
  have hE : srE T ((List.range n).filter (fun t => !wa t)) := by
    unfold srE
    refine List.Pairwise.imp (S := fun a b => T (18 + a) = T (18 + b) → a < b) ?_ h1
    intro a b hab _
    exact hab
  have := itB_srt (T := T) 7 ((List.range n).filter (fun t => !wa t)) [] (fun x hx => by rw [List.append_nil, hm] at hx; omega) hE List.Pairwise.nil (fun x _ s hs => by simp at hs) (by have := flt_le (fun t => !wa t) n; omega)
  rw [List.append_nil] at this
  exact this
theorem BL_two {σ : Sg} {D r : List Nat} {a b x y : Nat} (h : BL σ 13 (D ++ a :: b :: r)) : BL (up (up σ 13 D.length (x : Int)) 13 (D.length + 1) (y : Int)) 13 (D ++ x :: y :: r) := by
  intro i u hu
  rcases Nat.lt_trichotomy i D.length with q | q | q
  · rw [List.getElem?_append_left q] at hu
    rw [up_j (by omega), up_j (by omega)]
    exact h i u (by rw [List.getElem?_append_left q]; exact hu)
  · subst q
    rw [List.getElem?_append_right (Nat.le_refl _), Nat.sub_self] at hu
    cases hu
    rw [up_j (by omega), up_at]
  · obtain ⟨e, rfl⟩ : ∃ e, i = D.length + (e + 1) := ⟨i - D.length - 1, by omega⟩
    rw [List.getElem?_append_right (by omega), show D.length + (e + 1) - D.length = e + 1 by omega] at hu
    cases e with
    | zero => cases hu; rw [up_at]
    | succ e =>
      rw [up_j (by omega), up_j (by omega)]
      exact h _ u (by rw [List.getElem?_append_right (by omega), show D.length + (e + 1 + 1) - D.length = e + 1 + 1 by omega]; exact hu)
theorem x_wz {σ : Sg} {who : Int} {Q : Option pv → Sg → Prop} (h : ¬ who = 1) (hx : R32 who) (k : PP SHm mX6_ways 20 139 [vR 0, vI who, vI 0, vN, vN, vN, vN] [] σ Q) : PP SHm mX6_ways 20 18 [vR 0, vI who, vI 0, vN, vN, vN, vN] [] σ Q := by
  refine PP.iload_n dX6_ways_18 rfl ?_
  refine PP.bipush dX6_ways_19 (by decide) ?_
  refine PP.icmp_ge (tgt := 139) (by first | omega | assumption | (unfold R32; omega)) (by first | omega | assumption | (unfold R32; omega)) dX6_ways_21 (by decide) (fun h21 => ?_) (fun h21 => ?_)
  · omega
  · refine PP.iload_n dX6_ways_24 rfl ?_
    refine PP.iconst dX6_ways_25 ?_
    refine PP.icmp_ne (tgt := 139) (by first | omega | assumption | (unfold R32; omega)) (by first | omega | assumption | (unfold R32; omega)) dX6_ways_26 (by decide) (fun h26 => ?_) (fun h26 => ?_)
    · exact k
    · omega
theorem x_ways {σ : Sg} {A : ST} {who : Int} (hA : RepM σ A) (hW : WF A) (hx : R32 who) : OK SHm mX6_ways 20 [vR 0, vI who] σ (RP (fun v τ => v = qWays A who ∧ RepM τ A)) := by
  obtain ⟨len, txt, T, n, row, und, kep, sn⟩ := A
  obtain ⟨b1, b2, b3, b4, b5, b6, b7⟩ := RepM_e.mp hA
  obtain ⟨w1, w2, w3, w4, w5, w6, w7, w8, w9⟩ := WF_e.mp hW
  have hn7 := w3.2.1
  have hsl := w3.2.2.1
  have hws := wsh_m w5
  have hst := w5.2.1
  have t3 : σ 2 3 = (n : Int) := (b3 3 (by decide)).trans w3.1
  have t0 := b3 0 (by decide)
  have r0 := b4 0 (by decide)
  have r1 : σ 4 1 = ((msk (wsh row) n : Nat) : Int) := (b4 1 (by decide)).trans hws
  simp only [qWays, isZ]
  have hm : ∀ x, x ∈ (List.range n).filter (fun t => !wsh row t) ↔ x < n ∧ wsh row x = false := fun x => by simp
  have hfl := flt_le (fun t => !wsh row t) n
  refine OK.enter (L' := [vR 0, vI who, vN, vN, vN, vN, vN]) (by decide +kernel) (by simp [ent0]) rfl ?_
  have last : ∀ (G : List Nat) (σ1 : Sg) (z2 : Int) (L3 : List pv), L3 = [vN, vN, vN, vN] → (∀ c, c ≠ 0 → c ≠ 13 → σ1 c = σ c) → (∀ j, j ≠ 19 → σ1 0 j = σ 0 j) → σ1 0 19 = (G.length : Int) → G.length ≤ 7 → (∀ u ∈ G, u < n) → BL σ1 13 G → PP SHm mX6_ways 20 139 ([vR 0, vI who, vI z2] ++ L3) [] σ1 (RP (fun v τ => v = ((rcl T n (row 0) G : Nat) : Int) ∧ RepM τ (len, txt, T, n, row, und, kep, sn))) := by
    intro G σ1 z2 L3 hL f1 f2 f3 f4 f5 f6
    subst hL
    have hT1 : mT σ1 T := mT_cong b3 (f1 2 (by decide) (by decide))
    have hN1 : ∀ k, k < 16 → σ1 4 k = row k := fun k hk => by rw [f1 4 (by decide) (by decide)]; exact b4 k hk
    show PP SHm mX6_ways 20 139 [vR 0, vI who, vI z2, vN, vN, vN, vN] [] σ1 (RP (fun v τ => v = ((rcl T n (row 0) G : Nat) : Int) ∧ RepM τ (len, txt, T, n, row, und, kep, sn)))
    refine PP.aload_n dX6_ways_139 rfl ?_
    refine PP.callViP (m_cleanByRow (l := G) w3 hT1 w5 hN1 f3 f4 f6 f5) dX6_ways_140 vl_X6_197 sm0 rfl rfl rfl rfl (Nat.le_of_ble_eq_true rfl) (by first | exact Nat.le_of_ble_eq_true rfl | omega) (fun v140 τ140 hq140 => ?_)
    obtain ⟨p1, p2⟩ := hq140
    refine PP.iret dX6_ways_143 rfl ?_
    exact ⟨_, rfl, p1, RepM_cong hA (fun c hc => by rw [p2 c (by omega) (by omega) (by omega)]; exact f1 c (by omega) (by omega)) (fun j hj => by rw [p2 0 (by decide) (by decide) (by decide)]; exact f2 j (by omega))⟩
  have pass : who = 1 → ∀ (G : List Nat) (M : Nat), M ≤ 7 → ∀ (m : Nat) (l : List Nat) (σ1 : Sg), m ≤ 7 → itB T m l = G → l.length = M → (∀ u ∈ l, u < n) → (∀ c, c ≠ 0 → c ≠ 13 → σ1 c = σ c) → (∀ j, j ≠ 19 → σ1 0 j = σ 0 j) → σ1 0 19 = (M : Int) → BL σ1 13 l → PP SHm mX6_ways 20 18 [vR 0, vI who, vI (((7 - m : Nat)) : Int), vN, vN, vN, vN] [] σ1 (RP (fun v τ => v = ((rcl T n (row 0) G : Nat) : Int) ∧ RepM τ (len, txt, T, n, row, und, kep, sn))) := by
    intro hwho G M hM m
    induction m with
    | zero =>
      intro l σ1 hm7 hit hlen hln f1 f2 f3 f4
      have la := last G σ1 ((7 - 0 : Nat) : Int) _ rfl f1 f2 (by rw [f3, ← hit]; show (M : Int) = (l.length : Int); rw [hlen]) (by rw [← hit]; show l.length ≤ 7; omega) (by rw [← hit]; exact hln) (by rw [← hit]; exact f4)
      refine PP.iload_n dX6_ways_18 rfl ?_
      refine PP.bipush dX6_ways_19 (by decide) ?_
      refine PP.icmp_ge (tgt := 139) (by first | omega | (unfold R32; omega)) (by first | omega | (unfold R32; omega)) dX6_ways_21 (by decide) (fun h21 => ?_) (fun h21 => ?_)
      · exact la
      · omega
    | succ m ih =>
      intro l σ1 hm7 hit hlen hln f1 f2 f3 f4
      have inner : ∀ (r D : List Nat) (a : Nat) (σ2 : Sg), (D ++ a :: r).length = M → (∀ u ∈ D ++ a :: r, u < n) → D ++ bq T a r = bp T l → (∀ c, c ≠ 0 → c ≠ 13 → σ2 c = σ c) → (∀ j, j ≠ 19 → σ2 0 j = σ 0 j) → σ2 0 19 = (M : Int) → BL σ2 13 (D ++ a :: r) → PP SHm mX6_ways 20 31 [vR 0, vI who, vI ((7 - (m + 1) : Nat) : Int), vI (D.length : Int), vN, vN, vN] [] σ2 (RP (fun v τ => v = ((rcl T n (row 0) G : Nat) : Int) ∧ RepM τ (len, txt, T, n, row, und, kep, sn))) := by
        intro r
        induction r with
        | nil =>
          intro D a σ2 hl2 hu e g1 g2 g3 g4
          simp only [List.length_append, List.length_cons, List.length_nil] at hl2
          have ih' := ih (bp T l) σ2 (by omega) (by rw [← hit]; rfl) (by rw [← e]; simp [bq]; omega) (fun u hu' => hu u (by rw [← e] at hu'; exact hu')) g1 g2 g3 (by rw [← e]; exact g4)
          refine PP.iload_n dX6_ways_31 rfl ?_
          refine PP.iconst dX6_ways_32 ?_
          refine PP.iadd dX6_ways_33 ?_
          refine PP.aload_n dX6_ways_34 rfl ?_
          refine PP.getfI dX6_ways_35 fl_X6_191 sm0 rfl ?_
          refine PP.icmp_ge (tgt := 133) (by first | omega | (unfold R32; omega)) (by first | omega | (unfold R32; omega)) dX6_ways_38 (by decide) (fun h38 => ?_) (fun h38 => ?_)
          · refine PP.iinc (L' := [_, _, _, _, _, _, _]) dX6_ways_133 rfl rfl rfl ?_
            refine PP.goto (tgt := 18) dX6_ways_136 (by decide) ?_
            refine PP.frg 3 (L' := [_, _, _, _, _, _, _]) rfl ?_
            exact PP.eqL (by rw [show ((7 - (m + 1) : Nat) : Int) + 1 = ((7 - m : Nat) : Int) by omega]) ih'
          · omega
        | cons b r ihr =>
          intro D a σ2 hl2 hu e g1 g2 g3 g4
          simp only [List.length_append, List.length_cons] at hl2
          have ha := hu a (by simp)
          have hb := hu b (by simp)
          have v1 : σ2 13 D.length = (a : Int) := g4 _ a (by rw [List.getElem?_append_right (Nat.le_refl _), Nat.sub_self]; rfl)
          have v2 : σ2 13 (D.length + 1) = (b : Int) := g4 _ b (by rw [List.getElem?_append_right (by omega), show D.length + 1 - D.length = 1 by omega]; rfl)
          have tT : ∀ k, k < 56 → σ2 2 k = T k := fun k hk => by rw [g1 2 (by decide) (by decide)]; exact b3 k hk
          have h1 := tT (18 + a) (by omega)
          have h2 := tT (18 + b) (by omega)
          have xa := (w3.2.2.2.2.2.1 a ha).2.2.1
          have xb := (w3.2.2.2.2.2.1 b hb).2.2.1
          rw [bq] at e
          have nY : T (18 + a) < T (18 + b) → PP SHm mX6_ways 20 31 [vR 0, vI who, vI ((7 - (m + 1) : Nat) : Int), vI ((D.length : Int) + 1), vN, vN, vN] [] (up (up σ2 13 D.length (b : Int)) 13 (D.length + 1) (a : Int)) (RP (fun v τ => v = ((rcl T n (row 0) G : Nat) : Int) ∧ RepM τ (len, txt, T, n, row, und, kep, sn))) := fun q => by
            rw [if_pos q] at e
            have := ihr (D ++ [b]) a (up (up σ2 13 D.length (b : Int)) 13 (D.length + 1) (a : Int)) (by simp; omega) (fun u hu' => hu u (by simp at hu' ⊢; rcases hu' with h | h | h | h <;> simp [h])) (by rw [List.append_assoc]; exact e) (fun c h0 h13 => by rw [up_ne h13, up_ne h13]; exact g1 c h0 h13) (fun j hj => by rw [up_ne (by decide), up_ne (by decide)]; exact g2 j hj) (by rw [up_ne (by decide), up_ne (by decide)]; exact g3) (by rw [List.append_assoc]; exact BL_two g4)
            exact PP.eqL (by simp) this
          have nN : ¬ T (18 + a) < T (18 + b) → PP SHm mX6_ways 20 31 [vR 0, vI who, vI ((7 - (m + 1) : Nat) : Int), vI ((D.length : Int) + 1), vN, vN, vN] [] (up (up σ2 13 D.length (a : Int)) 13 (D.length + 1) (b : Int)) (RP (fun v τ => v = ((rcl T n (row 0) G : Nat) : Int) ∧ RepM τ (len, txt, T, n, row, und, kep, sn))) := fun q => by
            rw [if_neg q] at e
            have := ihr (D ++ [a]) b (up (up σ2 13 D.length (a : Int)) 13 (D.length + 1) (b : Int)) (by simp; omega) (fun u hu' => hu u (by simp at hu' ⊢; rcases hu' with h | h | h | h <;> simp [h])) (by rw [List.append_assoc]; exact e) (fun c h0 h13 => by rw [up_ne h13, up_ne h13]; exact g1 c h0 h13) (fun j hj => by rw [up_ne (by decide), up_ne (by decide)]; exact g2 j hj) (by rw [up_ne (by decide), up_ne (by decide)]; exact g3) (by rw [List.append_assoc]; exact BL_two g4)
            exact PP.eqL (by simp) this
          refine PP.iload_n dX6_ways_31 rfl ?_
          refine PP.iconst dX6_ways_32 ?_
          refine PP.iadd dX6_ways_33 ?_
          refine PP.aload_n dX6_ways_34 rfl ?_
          refine PP.getfI dX6_ways_35 fl_X6_191 sm0 rfl ?_
          refine PP.icmp_ge (tgt := 133) (by first | omega | (unfold R32; omega)) (by first | omega | (unfold R32; omega)) dX6_ways_38 (by decide) (fun h38 => ?_) (fun h38 => ?_)
          · omega
          · refine PP.aload_n dX6_ways_41 rfl ?_
            refine PP.getfR dX6_ways_42 fl_X6_46 sm0 rfl ?_
            refine PP.iload_n dX6_ways_45 rfl ?_
            refine PP.ialoadN (n := D.length) sm13 (by first | decide | omega) (by first | rfl | omega) (by first | omega | (unfold R32; omega)) dX6_ways_46 ?_
            refine PP.eqI v1 ?_
            refine PP.istore (L' := [_, _, _, _, _, _, _]) dX6_ways_47 (Nat.le_of_ble_eq_true rfl) rfl rfl ?_
            refine PP.aload_n dX6_ways_49 rfl ?_
            refine PP.getfR dX6_ways_50 fl_X6_46 sm0 rfl ?_
            refine PP.iload_n dX6_ways_53 rfl ?_
            refine PP.iconst dX6_ways_54 ?_
            refine PP.iadd dX6_ways_55 ?_
            refine PP.ialoadN (n := (D.length + 1)) sm13 (by first | decide | omega) (by first | rfl | omega) (by first | omega | (unfold R32; omega)) dX6_ways_56 ?_
            refine PP.eqI v2 ?_
            refine PP.istore (L' := [_, _, _, _, _, _, _]) dX6_ways_57 (Nat.le_of_ble_eq_true rfl) rfl rfl ?_
            refine PP.aload_n dX6_ways_59 rfl ?_
            refine PP.getfR dX6_ways_60 fl_X6_13 sm0 rfl ?_
            refine PP.bipush dX6_ways_63 (by decide) ?_
            refine PP.iload dX6_ways_65 rfl ?_
            refine PP.iadd dX6_ways_67 ?_
            refine PP.ialoadN (n := (18 + a)) sm2 (by first | decide | omega) (by first | rfl | omega) (by first | omega | (unfold R32; omega)) dX6_ways_68 ?_
            refine PP.eqI h1 ?_
            refine PP.aload_n dX6_ways_69 rfl ?_
            refine PP.getfR dX6_ways_70 fl_X6_13 sm0 rfl ?_
            refine PP.bipush dX6_ways_73 (by decide) ?_
            refine PP.iload dX6_ways_75 rfl ?_
            refine PP.iadd dX6_ways_77 ?_
            refine PP.ialoadN (n := (18 + b)) sm2 (by first | decide | omega) (by first | rfl | omega) (by first | omega | (unfold R32; omega)) dX6_ways_78 ?_
            refine PP.eqI h2 ?_
            refine PP.icmp_ge (tgt := 86) (by first | omega | (unfold R32; omega)) (by first | omega | (unfold R32; omega)) dX6_ways_79 (by decide) (fun h79 => ?_) (fun h79 => ?_)
            · refine PP.iconst dX6_ways_86 ?_
              refine PP.istore (L' := [_, _, _, _, _, _, _]) dX6_ways_87 (Nat.le_of_ble_eq_true rfl) rfl rfl ?_
              refine PP.aload_n dX6_ways_89 rfl ?_
              refine PP.getfR dX6_ways_90 fl_X6_46 sm0 rfl ?_
              refine PP.iload_n dX6_ways_93 rfl ?_
              refine PP.iload dX6_ways_94 rfl ?_
              refine PP.if_eq (tgt := 104) (by first | omega | (unfold R32; omega)) dX6_ways_96 (by decide) (fun h96 => ?_) (fun h96 => ?_)
              · refine PP.iload dX6_ways_104 rfl ?_
                refine PP.iastoreN (n := D.length) sm13 (by first | decide | omega) (by first | rfl | omega) (by first | omega | (unfold R32; omega)) (by first | omega | (unfold R32; omega)) dX6_ways_106 ?_
                refine PP.aload_n dX6_ways_107 rfl ?_
                refine PP.getfR dX6_ways_108 fl_X6_46 sm0 rfl ?_
                refine PP.iload_n dX6_ways_111 rfl ?_
                refine PP.iconst dX6_ways_112 ?_
                refine PP.iadd dX6_ways_113 ?_
                refine PP.iload dX6_ways_114 rfl ?_
                refine PP.if_eq (tgt := 124) (by first | omega | (unfold R32; omega)) dX6_ways_116 (by decide) (fun h116 => ?_) (fun h116 => ?_)
                · refine PP.iload dX6_ways_124 rfl ?_
                  refine PP.iastoreN (n := (D.length + 1)) sm13 (by first | decide | omega) (by first | rfl | omega) (by first | omega | (unfold R32; omega)) (by first | omega | (unfold R32; omega)) dX6_ways_126 ?_
                  refine PP.iinc (L' := [_, _, _, _, _, _, _]) dX6_ways_127 rfl rfl rfl ?_
                  refine PP.goto (tgt := 31) dX6_ways_130 (by decide) ?_
                  refine PP.frg 4 (L' := [_, _, _, _, _, _, _]) rfl ?_
                  refine PP.frg 5 (L' := [_, _, _, _, _, _, _]) rfl ?_
                  refine PP.frg 6 (L' := [_, _, _, _, _, _, _]) rfl ?_
                  first
                    | (exfalso; omega)
                    | (have q : T (18 + a) < T (18 + b) := by omega
                       exact nY q)
                    | (have q : ¬ T (18 + a) < T (18 + b) := by omega
                       exact nN q)
                · refine PP.iload dX6_ways_119 rfl ?_
                  refine PP.goto (tgt := 126) dX6_ways_121 (by decide) ?_
                  refine PP.iastoreN (n := (D.length + 1)) sm13 (by first | decide | omega) (by first | rfl | omega) (by first | omega | (unfold R32; omega)) (by first | omega | (unfold R32; omega)) dX6_ways_126 ?_
                  refine PP.iinc (L' := [_, _, _, _, _, _, _]) dX6_ways_127 rfl rfl rfl ?_
                  refine PP.goto (tgt := 31) dX6_ways_130 (by decide) ?_
                  refine PP.frg 4 (L' := [_, _, _, _, _, _, _]) rfl ?_
                  refine PP.frg 5 (L' := [_, _, _, _, _, _, _]) rfl ?_
                  refine PP.frg 6 (L' := [_, _, _, _, _, _, _]) rfl ?_
                  first
                    | (exfalso; omega)
                    | (have q : T (18 + a) < T (18 + b) := by omega
                       exact nY q)
                    | (have q : ¬ T (18 + a) < T (18 + b) := by omega
                       exact nN q)
              · refine PP.iload dX6_ways_99 rfl ?_
                refine PP.goto (tgt := 106) dX6_ways_101 (by decide) ?_
                refine PP.iastoreN (n := D.length) sm13 (by first | decide | omega) (by first | rfl | omega) (by first | omega | (unfold R32; omega)) (by first | omega | (unfold R32; omega)) dX6_ways_106 ?_
                refine PP.aload_n dX6_ways_107 rfl ?_
                refine PP.getfR dX6_ways_108 fl_X6_46 sm0 rfl ?_
                refine PP.iload_n dX6_ways_111 rfl ?_
                refine PP.iconst dX6_ways_112 ?_
                refine PP.iadd dX6_ways_113 ?_
                refine PP.iload dX6_ways_114 rfl ?_
                refine PP.if_eq (tgt := 124) (by first | omega | (unfold R32; omega)) dX6_ways_116 (by decide) (fun h116 => ?_) (fun h116 => ?_)
                · refine PP.iload dX6_ways_124 rfl ?_
                  refine PP.iastoreN (n := (D.length + 1)) sm13 (by first | decide | omega) (by first | rfl | omega) (by first | omega | (unfold R32; omega)) (by first | omega | (unfold R32; omega)) dX6_ways_126 ?_
                  refine PP.iinc (L' := [_, _, _, _, _, _, _]) dX6_ways_127 rfl rfl rfl ?_
                  refine PP.goto (tgt := 31) dX6_ways_130 (by decide) ?_
                  refine PP.frg 4 (L' := [_, _, _, _, _, _, _]) rfl ?_
                  refine PP.frg 5 (L' := [_, _, _, _, _, _, _]) rfl ?_
                  refine PP.frg 6 (L' := [_, _, _, _, _, _, _]) rfl ?_
                  first
                    | (exfalso; omega)
                    | (have q : T (18 + a) < T (18 + b) := by omega
                       exact nY q)
                    | (have q : ¬ T (18 + a) < T (18 + b) := by omega
                       exact nN q)
                · refine PP.iload dX6_ways_119 rfl ?_
                  refine PP.goto (tgt := 126) dX6_ways_121 (by decide) ?_
                  refine PP.iastoreN (n := (D.length + 1)) sm13 (by first | decide | omega) (by first | rfl | omega) (by first | omega | (unfold R32; omega)) (by first | omega | (unfold R32; omega)) dX6_ways_126 ?_
                  refine PP.iinc (L' := [_, _, _, _, _, _, _]) dX6_ways_127 rfl rfl rfl ?_
                  refine PP.goto (tgt := 31) dX6_ways_130 (by decide) ?_
                  refine PP.frg 4 (L' := [_, _, _, _, _, _, _]) rfl ?_
                  refine PP.frg 5 (L' := [_, _, _, _, _, _, _]) rfl ?_
                  refine PP.frg 6 (L' := [_, _, _, _, _, _, _]) rfl ?_
                  first
                    | (exfalso; omega)
                    | (have q : T (18 + a) < T (18 + b) := by omega
                       exact nY q)
                    | (have q : ¬ T (18 + a) < T (18 + b) := by omega
                       exact nN q)
            · refine PP.iconst dX6_ways_82 ?_
              refine PP.goto (tgt := 87) dX6_ways_83 (by decide) ?_
              refine PP.istore (L' := [_, _, _, _, _, _, _]) dX6_ways_87 (Nat.le_of_ble_eq_true rfl) rfl rfl ?_
              refine PP.aload_n dX6_ways_89 rfl ?_
              refine PP.getfR dX6_ways_90 fl_X6_46 sm0 rfl ?_
              refine PP.iload_n dX6_ways_93 rfl ?_
              refine PP.iload dX6_ways_94 rfl ?_
              refine PP.if_eq (tgt := 104) (by first | omega | (unfold R32; omega)) dX6_ways_96 (by decide) (fun h96 => ?_) (fun h96 => ?_)
              · refine PP.iload dX6_ways_104 rfl ?_
                refine PP.iastoreN (n := D.length) sm13 (by first | decide | omega) (by first | rfl | omega) (by first | omega | (unfold R32; omega)) (by first | omega | (unfold R32; omega)) dX6_ways_106 ?_
                refine PP.aload_n dX6_ways_107 rfl ?_
                refine PP.getfR dX6_ways_108 fl_X6_46 sm0 rfl ?_
                refine PP.iload_n dX6_ways_111 rfl ?_
                refine PP.iconst dX6_ways_112 ?_
                refine PP.iadd dX6_ways_113 ?_
                refine PP.iload dX6_ways_114 rfl ?_
                refine PP.if_eq (tgt := 124) (by first | omega | (unfold R32; omega)) dX6_ways_116 (by decide) (fun h116 => ?_) (fun h116 => ?_)
                · refine PP.iload dX6_ways_124 rfl ?_
                  refine PP.iastoreN (n := (D.length + 1)) sm13 (by first | decide | omega) (by first | rfl | omega) (by first | omega | (unfold R32; omega)) (by first | omega | (unfold R32; omega)) dX6_ways_126 ?_
                  refine PP.iinc (L' := [_, _, _, _, _, _, _]) dX6_ways_127 rfl rfl rfl ?_
                  refine PP.goto (tgt := 31) dX6_ways_130 (by decide) ?_
                  refine PP.frg 4 (L' := [_, _, _, _, _, _, _]) rfl ?_
                  refine PP.frg 5 (L' := [_, _, _, _, _, _, _]) rfl ?_
                  refine PP.frg 6 (L' := [_, _, _, _, _, _, _]) rfl ?_
                  first
                    | (exfalso; omega)
                    | (have q : T (18 + a) < T (18 + b) := by omega
                       exact nY q)
                    | (have q : ¬ T (18 + a) < T (18 + b) := by omega
                       exact nN q)
                · refine PP.iload dX6_ways_119 rfl ?_
                  refine PP.goto (tgt := 126) dX6_ways_121 (by decide) ?_
                  refine PP.iastoreN (n := (D.length + 1)) sm13 (by first | decide | omega) (by first | rfl | omega) (by first | omega | (unfold R32; omega)) (by first | omega | (unfold R32; omega)) dX6_ways_126 ?_
                  refine PP.iinc (L' := [_, _, _, _, _, _, _]) dX6_ways_127 rfl rfl rfl ?_
                  refine PP.goto (tgt := 31) dX6_ways_130 (by decide) ?_
                  refine PP.frg 4 (L' := [_, _, _, _, _, _, _]) rfl ?_
                  refine PP.frg 5 (L' := [_, _, _, _, _, _, _]) rfl ?_
                  refine PP.frg 6 (L' := [_, _, _, _, _, _, _]) rfl ?_
                  first
                    | (exfalso; omega)
                    | (have q : T (18 + a) < T (18 + b) := by omega
                       exact nY q)
                    | (have q : ¬ T (18 + a) < T (18 + b) := by omega
                       exact nN q)
              · refine PP.iload dX6_ways_99 rfl ?_
                refine PP.goto (tgt := 106) dX6_ways_101 (by decide) ?_
                refine PP.iastoreN (n := D.length) sm13 (by first | decide | omega) (by first | rfl | omega) (by first | omega | (unfold R32; omega)) (by first | omega | (unfold R32; omega)) dX6_ways_106 ?_
                refine PP.aload_n dX6_ways_107 rfl ?_
                refine PP.getfR dX6_ways_108 fl_X6_46 sm0 rfl ?_
                refine PP.iload_n dX6_ways_111 rfl ?_
                refine PP.iconst dX6_ways_112 ?_
                refine PP.iadd dX6_ways_113 ?_
                refine PP.iload dX6_ways_114 rfl ?_
                refine PP.if_eq (tgt := 124) (by first | omega | (unfold R32; omega)) dX6_ways_116 (by decide) (fun h116 => ?_) (fun h116 => ?_)
                · refine PP.iload dX6_ways_124 rfl ?_
                  refine PP.iastoreN (n := (D.length + 1)) sm13 (by first | decide | omega) (by first | rfl | omega) (by first | omega | (unfold R32; omega)) (by first | omega | (unfold R32; omega)) dX6_ways_126 ?_
                  refine PP.iinc (L' := [_, _, _, _, _, _, _]) dX6_ways_127 rfl rfl rfl ?_
                  refine PP.goto (tgt := 31) dX6_ways_130 (by decide) ?_
                  refine PP.frg 4 (L' := [_, _, _, _, _, _, _]) rfl ?_
                  refine PP.frg 5 (L' := [_, _, _, _, _, _, _]) rfl ?_
                  refine PP.frg 6 (L' := [_, _, _, _, _, _, _]) rfl ?_
                  first
                    | (exfalso; omega)
                    | (have q : T (18 + a) < T (18 + b) := by omega
                       exact nY q)
                    | (have q : ¬ T (18 + a) < T (18 + b) := by omega
                       exact nN q)
                · refine PP.iload dX6_ways_119 rfl ?_
                  refine PP.goto (tgt := 126) dX6_ways_121 (by decide) ?_
                  refine PP.iastoreN (n := (D.length + 1)) sm13 (by first | decide | omega) (by first | rfl | omega) (by first | omega | (unfold R32; omega)) (by first | omega | (unfold R32; omega)) dX6_ways_126 ?_
                  refine PP.iinc (L' := [_, _, _, _, _, _, _]) dX6_ways_127 rfl rfl rfl ?_
                  refine PP.goto (tgt := 31) dX6_ways_130 (by decide) ?_
                  refine PP.frg 4 (L' := [_, _, _, _, _, _, _]) rfl ?_
                  refine PP.frg 5 (L' := [_, _, _, _, _, _, _]) rfl ?_
                  refine PP.frg 6 (L' := [_, _, _, _, _, _, _]) rfl ?_
                  first
                    | (exfalso; omega)
                    | (have q : T (18 + a) < T (18 + b) := by omega
                       exact nY q)
                    | (have q : ¬ T (18 + a) < T (18 + b) := by omega
                       exact nN q)
      cases l with
      | nil =>
        have ih' := ih [] σ1 (by omega) hit hlen hln f1 f2 f3 f4
        simp only [List.length_nil] at hlen
        refine PP.iload_n dX6_ways_18 rfl ?_
        refine PP.bipush dX6_ways_19 (by decide) ?_
        refine PP.icmp_ge (tgt := 139) (by first | omega | (unfold R32; omega)) (by first | omega | (unfold R32; omega)) dX6_ways_21 (by decide) (fun h21 => ?_) (fun h21 => ?_)
        · omega
        · refine PP.iload_n dX6_ways_24 rfl ?_
          refine PP.iconst dX6_ways_25 ?_
          refine PP.icmp_ne (tgt := 139) (by first | omega | (unfold R32; omega)) (by first | omega | (unfold R32; omega)) dX6_ways_26 (by decide) (fun h26 => ?_) (fun h26 => ?_)
          · omega
          · refine PP.iconst dX6_ways_29 ?_
            refine PP.istore_n (L' := [_, _, _, _, _, _, _]) dX6_ways_30 (Nat.le_of_ble_eq_true rfl) rfl rfl ?_
            refine PP.iload_n dX6_ways_31 rfl ?_
            refine PP.iconst dX6_ways_32 ?_
            refine PP.iadd dX6_ways_33 ?_
            refine PP.aload_n dX6_ways_34 rfl ?_
            refine PP.getfI dX6_ways_35 fl_X6_191 sm0 rfl ?_
            refine PP.icmp_ge (tgt := 133) (by first | omega | (unfold R32; omega)) (by first | omega | (unfold R32; omega)) dX6_ways_38 (by decide) (fun h38 => ?_) (fun h38 => ?_)
            · refine PP.iinc (L' := [_, _, _, _, _, _, _]) dX6_ways_133 rfl rfl rfl ?_
              refine PP.goto (tgt := 18) dX6_ways_136 (by decide) ?_
              refine PP.frg 3 (L' := [_, _, _, _, _, _, _]) rfl ?_
              exact PP.eqL (by rw [show ((7 - (m + 1) : Nat) : Int) + 1 = ((7 - m : Nat) : Int) by omega]) ih'
            · omega
      | cons a r =>
        have i0 := inner r [] a σ1 hlen hln rfl f1 f2 f3 f4
        refine PP.iload_n dX6_ways_18 rfl ?_
        refine PP.bipush dX6_ways_19 (by decide) ?_
        refine PP.icmp_ge (tgt := 139) (by first | omega | (unfold R32; omega)) (by first | omega | (unfold R32; omega)) dX6_ways_21 (by decide) (fun h21 => ?_) (fun h21 => ?_)
        · omega
        · refine PP.iload_n dX6_ways_24 rfl ?_
          refine PP.iconst dX6_ways_25 ?_
          refine PP.icmp_ne (tgt := 139) (by first | omega | (unfold R32; omega)) (by first | omega | (unfold R32; omega)) dX6_ways_26 (by decide) (fun h26 => ?_) (fun h26 => ?_)
          · omega
          · refine PP.iconst dX6_ways_29 ?_
            refine PP.istore_n (L' := [_, _, _, _, _, _, _]) dX6_ways_30 (Nat.le_of_ble_eq_true rfl) rfl rfl ?_
            exact i0
  refine PP.iload_n dX6_ways_0 rfl ?_
  refine PP.i2l (by first | omega | assumption | exact b2i_R _ | (unfold R32; omega)) dX6_ways_1 ?_
  refine PP.lconst (z := 0) dX6_ways_2 (by decide) ?_
  refine PP.lconst (z := 1) dX6_ways_3 (by decide) ?_
  refine PP.callSi (m_in hx (by unfold R32; omega) (by unfold R32; omega)) dX6_ways_4 sl_X6_70 rfl rfl (Nat.le_of_ble_eq_true rfl) (by first | exact Nat.le_of_ble_eq_true rfl | omega) ?_
  refine PP.if_ne (tgt := 12) (by first | omega | assumption | exact b2i_R _ | (unfold R32; omega)) dX6_ways_7 (by decide) (fun h7 => ?_) (fun h7 => ?_)
  · have hz := of_decide_eq_true (b2i_n.mp h7)
    rw [if_neg (by omega)]
    refine PP.aload_n dX6_ways_12 rfl ?_
    refine PP.callVnP (m_takeAll w3 b3 w5 b4) dX6_ways_13 vl_X6_194 sm0 rfl rfl rfl rfl (Nat.le_of_ble_eq_true rfl) (by first | exact Nat.le_of_ble_eq_true rfl | omega) (fun τ13 hq13 => ?_)
    obtain ⟨p1, p2, p3, p4⟩ := hq13
    refine PP.iconst dX6_ways_16 ?_
    refine PP.istore_n (L' := [_, _, _, _, _, _, _]) dX6_ways_17 (Nat.le_of_ble_eq_true rfl) rfl rfl ?_
    by_cases hw1 : who = 1
    · rw [if_neg (by omega), ← hl_it w3]
      exact pass hw1 _ _ (by omega) 7 _ _ (by omega) rfl rfl (fun u hu => ((hm u).mp hu).1) p1 p2 p3 p4
    · rw [if_pos (by omega)]
      have la := last _ τ13 0 _ rfl p1 p2 p3 (by omega) (fun u hu => ((hm u).mp hu).1) p4
      exact x_wz (by omega) hx la
  · refine PP.iconst dX6_ways_10 ?_
    refine PP.iret dX6_ways_11 rfl ?_
    rw [if_pos (by have := of_decide_eq_false (b2i_0.mp h7); omega)]
    exact ⟨_, rfl, rfl, hA⟩
