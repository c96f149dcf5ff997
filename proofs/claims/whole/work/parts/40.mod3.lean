/-! the model: the shadow -/
theorem sh_J3 {σ : Sg} {n t o : Nat} {T P : Nat → Int} {z4 z5 z6 b : Int} (hb : b = b2i (btS T P t o && hiS T t o)) (ih : PP SHm mX6_shadowOf 1 4 [vR 0, vI (t : Int), vI (cnt (fun u => btS T P t u && hiS T t u) (o + 1) : Nat), vI ((o + 1 : Nat) : Int), vN, vN, vN] [] σ (RV (shS T n P t : Nat) σ)) : PP SHm mX6_shadowOf 1 176 [vR 0, vI (t : Int), vI (cnt (fun u => btS T P t u && hiS T t u) o : Nat), vI (o : Int), vI z4, vI z5, vI z6] [vI b, vI (cnt (fun u => btS T P t u && hiS T t u) o : Nat)] σ (RV (shS T n P t : Nat) σ) := by
  refine PP.iadd dX6_shadowOf_176 ?_
  refine PP.istore_n (L' := [_, _, _, _, _, _, _]) dX6_shadowOf_177 (Nat.le_of_ble_eq_true rfl) rfl rfl ?_
  refine PP.iinc (L' := [_, _, _, _, _, _, _]) dX6_shadowOf_178 rfl rfl rfl ?_
  refine PP.goto (tgt := 4) dX6_shadowOf_181 (by decide) ?_
  refine PP.frg 4 (L' := [_, _, _, _, _, _, _]) rfl ?_
  refine PP.frg 5 (L' := [_, _, _, _, _, _, _]) rfl ?_
  refine PP.frg 6 (L' := [_, _, _, _, _, _, _]) rfl ?_
  refine PP.eqL ?_ ih
  have e : ((cnt (fun u => btS T P t u && hiS T t u) (o + 1) : Nat) : Int) = (cnt (fun u => btS T P t u && hiS T t u) o : Nat) + b := by
    rw [hb]
    cases h : (btS T P t o && hiS T t o) with
    | true => rw [cnt_s1 (p := fun u => btS T P t u && hiS T t u) h]; rfl
    | false => rw [cnt_s0 (p := fun u => btS T P t u && hiS T t u) h]; simp [b2i]
  rw [e]
  rfl
theorem sh_J2 {σ : Sg} {n t o : Nat} {T P : Nat → Int} {z4 b : Int} (hn7 : n ≤ 7) (ht : t < n) (ho : o < n) (g1 : σ 2 (4 + t) = T (4 + t)) (g3 : σ 2 (18 + t) = T (18 + t)) (k3 : σ 2 (18 + o) = T (18 + o)) (w1 : 0 ≤ T (4 + t) ∧ T (4 + t) ≤ 3) (w3 : 1 ≤ T (18 + t) ∧ T (18 + t) ≤ 9) (v3 : 1 ≤ T (18 + o) ∧ T (18 + o) ≤ 9) (hb : b = b2i (btS T P t o)) (ih : PP SHm mX6_shadowOf 1 4 [vR 0, vI (t : Int), vI (cnt (fun u => btS T P t u && hiS T t u) (o + 1) : Nat), vI ((o + 1 : Nat) : Int), vN, vN, vN] [] σ (RV (shS T n P t : Nat) σ)) : PP SHm mX6_shadowOf 1 120 [vR 0, vI (t : Int), vI (cnt (fun u => btS T P t u && hiS T t u) o : Nat), vI (o : Int), vI z4, vN, vN] [vI b] σ (RV (shS T n P t : Nat) σ) := by
  have hbR : R32 b := by rw [hb]; exact b2i_R _
  have b0 : b = 0 → btS T P t o = false := fun q => b2i_0.mp (by rw [← hb]; exact q)
  have b1 : ¬ b = 0 → btS T P t o = true := fun q => b2i_n.mp (by rw [← hb]; exact q)
  have hhi := hiS_t (T := T) (t := t) (u := o)
  clear hb
  refine PP.istore (L' := [_, _, _, _, _, _, _]) dX6_shadowOf_120 (Nat.le_of_ble_eq_true rfl) rfl rfl ?_
  refine PP.aload_n dX6_shadowOf_122 rfl ?_
  refine PP.getfR dX6_shadowOf_123 fl_X6_13 sm0 rfl ?_
  refine PP.bipush dX6_shadowOf_126 (by decide) ?_
  refine PP.iload_n dX6_shadowOf_128 rfl ?_
  refine PP.iadd dX6_shadowOf_129 ?_
  refine PP.ialoadN (n := (18 + o)) sm2 (by first | decide | omega) (by first | rfl | omega) (by first | omega | assumption | (unfold R32; omega)) dX6_shadowOf_130 ?_
  refine PP.aload_n dX6_shadowOf_131 rfl ?_
  refine PP.getfR dX6_shadowOf_132 fl_X6_13 sm0 rfl ?_
  refine PP.bipush dX6_shadowOf_135 (by decide) ?_
  refine PP.iload_n dX6_shadowOf_137 rfl ?_
  refine PP.iadd dX6_shadowOf_138 ?_
  refine PP.ialoadN (n := (18 + t)) sm2 (by first | decide | omega) (by first | rfl | omega) (by first | omega | assumption | (unfold R32; omega)) dX6_shadowOf_139 ?_
  refine PP.isub dX6_shadowOf_140 ?_
  refine PP.istore (L' := [_, _, _, _, _, _, _]) dX6_shadowOf_141 (Nat.le_of_ble_eq_true rfl) rfl rfl ?_
  refine PP.iload_n dX6_shadowOf_143 rfl ?_
  refine PP.iload dX6_shadowOf_144 rfl ?_
  refine PP.if_eq (tgt := 175) (by first | omega | assumption | (unfold R32; omega)) dX6_shadowOf_146 (by decide) (fun h146 => ?_) (fun h146 => ?_)
  · refine PP.iconst dX6_shadowOf_175 ?_
    first
    | exact sh_J3 (by rw [b0 h146, Bool.false_and]; rfl) ih
    | exact sh_J3 (by rw [b1 h146, bt hhi (Or.inl (by omega))]; rfl) ih
    | exact sh_J3 (by rw [b1 h146, bt hhi (Or.inr ⟨by omega, by omega⟩)]; rfl) ih
    | exact sh_J3 (by rw [bf hhi (fun q => q.elim (fun q => by omega) (fun q => by omega)), Bool.and_false]; rfl) ih
  · refine PP.iload dX6_shadowOf_149 rfl ?_
    refine PP.if_gt (tgt := 171) (by first | omega | assumption | (unfold R32; omega)) dX6_shadowOf_151 (by decide) (fun h151 => ?_) (fun h151 => ?_)
    · refine PP.iconst dX6_shadowOf_171 ?_
      refine PP.goto (tgt := 176) dX6_shadowOf_172 (by decide) ?_
      first
      | exact sh_J3 (by rw [b0 h146, Bool.false_and]; rfl) ih
      | exact sh_J3 (by rw [b1 h146, bt hhi (Or.inl (by omega))]; rfl) ih
      | exact sh_J3 (by rw [b1 h146, bt hhi (Or.inr ⟨by omega, by omega⟩)]; rfl) ih
      | exact sh_J3 (by rw [bf hhi (fun q => q.elim (fun q => by omega) (fun q => by omega)), Bool.and_false]; rfl) ih
    · refine PP.iload dX6_shadowOf_154 rfl ?_
      refine PP.if_ne (tgt := 175) (by first | omega | assumption | (unfold R32; omega)) dX6_shadowOf_156 (by decide) (fun h156 => ?_) (fun h156 => ?_)
      · refine PP.iconst dX6_shadowOf_175 ?_
        first
        | exact sh_J3 (by rw [b0 h146, Bool.false_and]; rfl) ih
        | exact sh_J3 (by rw [b1 h146, bt hhi (Or.inl (by omega))]; rfl) ih
        | exact sh_J3 (by rw [b1 h146, bt hhi (Or.inr ⟨by omega, by omega⟩)]; rfl) ih
        | exact sh_J3 (by rw [bf hhi (fun q => q.elim (fun q => by omega) (fun q => by omega)), Bool.and_false]; rfl) ih
      · refine PP.aload_n dX6_shadowOf_159 rfl ?_
        refine PP.getfR dX6_shadowOf_160 fl_X6_13 sm0 rfl ?_
        refine PP.iconst dX6_shadowOf_163 ?_
        refine PP.iload_n dX6_shadowOf_164 rfl ?_
        refine PP.iadd dX6_shadowOf_165 ?_
        refine PP.ialoadN (n := (4 + t)) sm2 (by first | decide | omega) (by first | rfl | omega) (by first | omega | assumption | (unfold R32; omega)) dX6_shadowOf_166 ?_
        refine PP.iconst dX6_shadowOf_167 ?_
        refine PP.icmp_ne (tgt := 175) (by first | omega | assumption | (unfold R32; omega)) (by first | omega | assumption | (unfold R32; omega)) dX6_shadowOf_168 (by decide) (fun h168 => ?_) (fun h168 => ?_)
        · refine PP.iconst dX6_shadowOf_175 ?_
          first
          | exact sh_J3 (by rw [b0 h146, Bool.false_and]; rfl) ih
          | exact sh_J3 (by rw [b1 h146, bt hhi (Or.inl (by omega))]; rfl) ih
          | exact sh_J3 (by rw [b1 h146, bt hhi (Or.inr ⟨by omega, by omega⟩)]; rfl) ih
          | exact sh_J3 (by rw [bf hhi (fun q => q.elim (fun q => by omega) (fun q => by omega)), Bool.and_false]; rfl) ih
        · refine PP.iconst dX6_shadowOf_171 ?_
          refine PP.goto (tgt := 176) dX6_shadowOf_172 (by decide) ?_
          first
          | exact sh_J3 (by rw [b0 h146, Bool.false_and]; rfl) ih
          | exact sh_J3 (by rw [b1 h146, bt hhi (Or.inl (by omega))]; rfl) ih
          | exact sh_J3 (by rw [b1 h146, bt hhi (Or.inr ⟨by omega, by omega⟩)]; rfl) ih
          | exact sh_J3 (by rw [bf hhi (fun q => q.elim (fun q => by omega) (fun q => by omega)), Bool.and_false]; rfl) ih
theorem sh_J1 {σ : Sg} {n t o : Nat} {T P F : Nat → Int} {b : Int} (hc : MC σ T n P F) (ht : t < n) (ho : o < n) (hp : 0 ≤ P t) (hbR : R32 b) (hb1 : ¬ b = 0 → (sdS T P o = sdS T P t ∧ ((sdS T P t < 0 ∧ P t < P o) ∨ (¬ sdS T P t < 0 ∧ P o < P t)))) (hb0 : b = 0 → ¬ (sdS T P o = sdS T P t ∧ ((sdS T P t < 0 ∧ P t < P o) ∨ (¬ sdS T P t < 0 ∧ P o < P t)))) (ih : PP SHm mX6_shadowOf 1 4 [vR 0, vI (t : Int), vI (cnt (fun u => btS T P t u && hiS T t u) (o + 1) : Nat), vI ((o + 1 : Nat) : Int), vN, vN, vN] [] σ (RV (shS T n P t : Nat) σ)) : PP SHm mX6_shadowOf 1 76 [vR 0, vI (t : Int), vI (cnt (fun u => btS T P t u && hiS T t u) o : Nat), vI (o : Int), vN, vN, vN] [vI b] σ (RV (shS T n P t : Nat) σ) := by
  obtain ⟨hw, hP, hT, hS⟩ := id hc
  have hn7 := hw.2.1
  have hsl := hw.2.2.1
  obtain ⟨w1, w2, w3, w4⟩ := hw.2.2.2.2.2.1 t ht
  obtain ⟨v1, v2, v3, v4⟩ := hw.2.2.2.2.2.1 o ho
  have g1 := hT (4 + t) (by omega)
  have g3 := hT (18 + t) (by omega)
  have k3 := hT (18 + o) (by omega)
  obtain ⟨e1, e2, e3⟩ := hS t (by omega)
  obtain ⟨f1, f2, f3⟩ := hS o (by omega)
  have r1 : -4 ≤ P o ∧ P o ≤ 14 := by have := hP.1 o ho; omega
  have r2 : -4 ≤ sdS T P t ∧ sdS T P t ≤ 1 := by have := sdS_4 T P t; omega
  have r3 : -4 ≤ sdS T P o ∧ sdS T P o ≤ 1 := by have := sdS_4 T P o; omega
  have hbt := btS_t (T := T) (P := P) (t := t) (u := o)
  have hsf : o = t → btS T P t o = false := fun e => by
    subst e
    refine bf hbt (fun q => ?_)
    rcases q.2.2 with h | ⟨h1, h | h⟩
    · exact q.1 h
    · exact absurd h.2 (by omega)
    · exact absurd h.2 (by omega)
  have J : ∀ (z4 b : Int), b = b2i (btS T P t o) → PP SHm mX6_shadowOf 1 120 [vR 0, vI (t : Int), vI (cnt (fun u => btS T P t u && hiS T t u) o : Nat), vI (o : Int), vI z4, vN, vN] [vI b] σ (RV (shS T n P t : Nat) σ) := fun z4 b hb => sh_J2 hn7 ht ho g1 g3 k3 w1 w3 v3 hb ih
  clear w1 w2 w3 w4 v1 v2 v3 v4 g1 g3 k3 hsl ih
  refine PP.istore (L' := [_, _, _, _, _, _, _]) dX6_shadowOf_76 (Nat.le_of_ble_eq_true rfl) rfl rfl ?_
  refine PP.iload_n dX6_shadowOf_78 rfl ?_
  refine PP.iload_n dX6_shadowOf_79 rfl ?_
  refine PP.icmp_eq (tgt := 119) (by first | omega | assumption | (unfold R32; omega)) (by first | omega | assumption | (unfold R32; omega)) dX6_shadowOf_80 (by decide) (fun h80 => ?_) (fun h80 => ?_)
  · refine PP.iconst dX6_shadowOf_119 ?_
    first
    | exact J _ _ (by rw [hsf (by omega)]; rfl)
    | exact J _ _ (by rw [bf hbt (fun q => absurd q.1 (by omega))]; rfl)
    | exact J _ _ (by rw [bf hbt (fun q => absurd q.2.1 (by omega))]; rfl)
    | exact J _ _ (by rw [bt hbt ⟨by omega, by omega, Or.inl (by omega)⟩]; rfl)
    | exact J _ _ (by rw [bf hbt (fun q => q.2.2.elim (fun e => absurd e (by omega)) (hb0 h112))]; rfl)
    | exact J _ _ (by rw [bt hbt ⟨by omega, by omega, Or.inr (hb1 h112)⟩]; rfl)
  · refine PP.aload_n dX6_shadowOf_83 rfl ?_
    refine PP.getfR dX6_shadowOf_84 fl_X6_43 sm0 rfl ?_
    refine PP.iload_n dX6_shadowOf_87 rfl ?_
    refine PP.ialoadN (n := t) sm12 (by first | decide | omega) (by first | rfl | omega) (by first | omega | assumption | (unfold R32; omega)) dX6_shadowOf_88 ?_
    refine PP.if_eq (tgt := 119) (by first | omega | assumption | (unfold R32; omega)) dX6_shadowOf_89 (by decide) (fun h89 => ?_) (fun h89 => ?_)
    · refine PP.iconst dX6_shadowOf_119 ?_
      first
      | exact J _ _ (by rw [hsf (by omega)]; rfl)
      | exact J _ _ (by rw [bf hbt (fun q => absurd q.1 (by omega))]; rfl)
      | exact J _ _ (by rw [bf hbt (fun q => absurd q.2.1 (by omega))]; rfl)
      | exact J _ _ (by rw [bt hbt ⟨by omega, by omega, Or.inl (by omega)⟩]; rfl)
      | exact J _ _ (by rw [bf hbt (fun q => q.2.2.elim (fun e => absurd e (by omega)) (hb0 h112))]; rfl)
      | exact J _ _ (by rw [bt hbt ⟨by omega, by omega, Or.inr (hb1 h112)⟩]; rfl)
    · refine PP.aload_n dX6_shadowOf_92 rfl ?_
      refine PP.getfR dX6_shadowOf_93 fl_X6_37 sm0 rfl ?_
      refine PP.iload_n dX6_shadowOf_96 rfl ?_
      refine PP.ialoadN (n := o) sm10 (by first | decide | omega) (by first | rfl | omega) (by first | omega | assumption | (unfold R32; omega)) dX6_shadowOf_97 ?_
      refine PP.if_lt (tgt := 119) (by first | omega | assumption | (unfold R32; omega)) dX6_shadowOf_98 (by decide) (fun h98 => ?_) (fun h98 => ?_)
      · refine PP.iconst dX6_shadowOf_119 ?_
        first
        | exact J _ _ (by rw [hsf (by omega)]; rfl)
        | exact J _ _ (by rw [bf hbt (fun q => absurd q.1 (by omega))]; rfl)
        | exact J _ _ (by rw [bf hbt (fun q => absurd q.2.1 (by omega))]; rfl)
        | exact J _ _ (by rw [bt hbt ⟨by omega, by omega, Or.inl (by omega)⟩]; rfl)
        | exact J _ _ (by rw [bf hbt (fun q => q.2.2.elim (fun e => absurd e (by omega)) (hb0 h112))]; rfl)
        | exact J _ _ (by rw [bt hbt ⟨by omega, by omega, Or.inr (hb1 h112)⟩]; rfl)
      · refine PP.aload_n dX6_shadowOf_101 rfl ?_
        refine PP.getfR dX6_shadowOf_102 fl_X6_43 sm0 rfl ?_
        refine PP.iload_n dX6_shadowOf_105 rfl ?_
        refine PP.ialoadN (n := o) sm12 (by first | decide | omega) (by first | rfl | omega) (by first | omega | assumption | (unfold R32; omega)) dX6_shadowOf_106 ?_
        refine PP.if_eq (tgt := 115) (by first | omega | assumption | (unfold R32; omega)) dX6_shadowOf_107 (by decide) (fun h107 => ?_) (fun h107 => ?_)
        · refine PP.iconst dX6_shadowOf_115 ?_
          refine PP.goto (tgt := 120) dX6_shadowOf_116 (by decide) ?_
          first
          | exact J _ _ (by rw [hsf (by omega)]; rfl)
          | exact J _ _ (by rw [bf hbt (fun q => absurd q.1 (by omega))]; rfl)
          | exact J _ _ (by rw [bf hbt (fun q => absurd q.2.1 (by omega))]; rfl)
          | exact J _ _ (by rw [bt hbt ⟨by omega, by omega, Or.inl (by omega)⟩]; rfl)
          | exact J _ _ (by rw [bf hbt (fun q => q.2.2.elim (fun e => absurd e (by omega)) (hb0 h112))]; rfl)
          | exact J _ _ (by rw [bt hbt ⟨by omega, by omega, Or.inr (hb1 h112)⟩]; rfl)
        · refine PP.iload dX6_shadowOf_110 rfl ?_
          refine PP.if_eq (tgt := 119) (by first | omega | assumption | (unfold R32; omega)) dX6_shadowOf_112 (by decide) (fun h112 => ?_) (fun h112 => ?_)
          · refine PP.iconst dX6_shadowOf_119 ?_
            first
            | exact J _ _ (by rw [hsf (by omega)]; rfl)
            | exact J _ _ (by rw [bf hbt (fun q => absurd q.1 (by omega))]; rfl)
            | exact J _ _ (by rw [bf hbt (fun q => absurd q.2.1 (by omega))]; rfl)
            | exact J _ _ (by rw [bt hbt ⟨by omega, by omega, Or.inl (by omega)⟩]; rfl)
            | exact J _ _ (by rw [bf hbt (fun q => q.2.2.elim (fun e => absurd e (by omega)) (hb0 h112))]; rfl)
            | exact J _ _ (by rw [bt hbt ⟨by omega, by omega, Or.inr (hb1 h112)⟩]; rfl)
          · refine PP.iconst dX6_shadowOf_115 ?_
            refine PP.goto (tgt := 120) dX6_shadowOf_116 (by decide) ?_
            first
            | exact J _ _ (by rw [hsf (by omega)]; rfl)
            | exact J _ _ (by rw [bf hbt (fun q => absurd q.1 (by omega))]; rfl)
            | exact J _ _ (by rw [bf hbt (fun q => absurd q.2.1 (by omega))]; rfl)
            | exact J _ _ (by rw [bt hbt ⟨by omega, by omega, Or.inl (by omega)⟩]; rfl)
            | exact J _ _ (by rw [bf hbt (fun q => q.2.2.elim (fun e => absurd e (by omega)) (hb0 h112))]; rfl)
            | exact J _ _ (by rw [bt hbt ⟨by omega, by omega, Or.inr (hb1 h112)⟩]; rfl)
theorem m_shadowOf {σ : Sg} {n t : Nat} {T P F : Nat → Int} (hc : MC σ T n P F) (ht : t < n) (hp : 0 ≤ P t) : OK SHm mX6_shadowOf 1 [vR 0, vI (t : Int)] σ (RV (shS T n P t : Nat) σ) := by
  obtain ⟨hw, hP, hT, hS⟩ := id hc
  have hn7 := hw.2.1
  have hsl := hw.2.2.1
  have hmi := hw.2.2.2.1
  have har := hw.2.2.2.2.1
  have t0 := hT 0 (by decide)
  have t1 := hT 1 (by decide)
  have t2 := hT 2 (by decide)
  have t3 : σ 2 3 = (n : Int) := (hT 3 (by decide)).trans hw.1
  have g1 := hT (4 + t) (by omega)
  obtain ⟨e1, e2, e3⟩ := hS t (by omega)
  obtain ⟨w1, -⟩ := hw.2.2.2.2.2.1 t ht
  have r0 : P t ≤ 14 := by have := hP.1 t ht; have := (hw.2.2.2.2.2.1 t ht).2.1; omega
  have r2 : -4 ≤ sdS T P t ∧ sdS T P t ≤ 1 := by have := sdS_4 T P t; omega
  clear hmi har hsl t0 t1 t2
  refine OK.enter (L' := [vR 0, vI (t : Int), vN, vN, vN, vN, vN]) (by decide +kernel) (by simp [ent0]) rfl ?_
  have key : ∀ o, o ≤ n → PP SHm mX6_shadowOf 1 4 [vR 0, vI (t : Int), vI (cnt (fun u => btS T P t u && hiS T t u) o : Nat), vI (o : Int), vN, vN, vN] [] σ (RV (shS T n P t : Nat) σ) := by
    refine loop_dn n ?_ ?_
    · have hcl := cnt_le (fun u => btS T P t u && hiS T t u) n
      refine PP.iload_n dX6_shadowOf_4 rfl ?_
      refine PP.aload_n dX6_shadowOf_5 rfl ?_
      refine PP.getfR dX6_shadowOf_6 fl_X6_13 sm0 rfl ?_
      refine PP.iconst dX6_shadowOf_9 ?_
      refine PP.ialoadN (n := 3) sm2 (by first | decide | omega) (by first | rfl | omega) (by first | omega | (unfold R32; omega)) dX6_shadowOf_10 ?_
      refine PP.icmp_ge (tgt := 184) (by first | omega | (unfold R32; omega)) (by first | omega | (unfold R32; omega)) dX6_shadowOf_11 (by decide) (fun h11 => ?_) (fun h11 => ?_)
      · refine PP.aload_n dX6_shadowOf_184 rfl ?_
        refine PP.getfR dX6_shadowOf_185 fl_X6_13 sm0 rfl ?_
        refine PP.iconst dX6_shadowOf_188 ?_
        refine PP.iload_n dX6_shadowOf_189 rfl ?_
        refine PP.iadd dX6_shadowOf_190 ?_
        refine PP.ialoadN (n := (4 + t)) sm2 (by first | decide | omega) (by first | rfl | omega) (by first | omega | (unfold R32; omega)) dX6_shadowOf_191 ?_
        refine PP.iconst dX6_shadowOf_192 ?_
        refine PP.icmp_ne (tgt := 202) (by first | omega | (unfold R32; omega)) (by first | omega | (unfold R32; omega)) dX6_shadowOf_193 (by decide) (fun h193 => ?_) (fun h193 => ?_)
        · refine PP.iload_n dX6_shadowOf_202 rfl ?_
          refine PP.iret dX6_shadowOf_203 rfl ?_
          refine RVe ?_
          unfold shS scS
          first
            | (rw [if_pos (by omega)]; rfl)
            | (rw [if_neg (by omega)])
        · refine PP.iload_n dX6_shadowOf_196 rfl ?_
          refine PP.iconst dX6_shadowOf_197 ?_
          refine PP.idiv (by first | omega | (unfold R32; omega)) (by first | omega | (unfold R32; omega)) (by first | omega | (unfold R32; omega)) (by first | omega | (unfold R32; omega)) dX6_shadowOf_198 ?_
          refine PP.goto (tgt := 203) dX6_shadowOf_199 (by decide) ?_
          refine PP.iret dX6_shadowOf_203 rfl ?_
          refine RVe ?_
          unfold shS scS
          first
            | (rw [if_pos (by omega)]; rfl)
            | (rw [if_neg (by omega)])
      · omega
    · intro o ho ih
      obtain ⟨f1, f2, f3⟩ := hS o (by omega)
      have r1 : -4 ≤ P o ∧ P o ≤ 14 := by have := hP.1 o ho; have := (hw.2.2.2.2.2.1 o ho).2.1; have := hw.2.2.1; omega
      have r3 : -4 ≤ sdS T P o ∧ sdS T P o ≤ 1 := by have := sdS_4 T P o; omega
      refine PP.iload_n dX6_shadowOf_4 rfl ?_
      refine PP.aload_n dX6_shadowOf_5 rfl ?_
      refine PP.getfR dX6_shadowOf_6 fl_X6_13 sm0 rfl ?_
      refine PP.iconst dX6_shadowOf_9 ?_
      refine PP.ialoadN (n := 3) sm2 (by first | decide | omega) (by first | rfl | omega) (by first | omega | (unfold R32; omega)) dX6_shadowOf_10 ?_
      refine PP.icmp_ge (tgt := 184) (by first | omega | (unfold R32; omega)) (by first | omega | (unfold R32; omega)) dX6_shadowOf_11 (by decide) (fun h11 => ?_) (fun h11 => ?_)
      · omega
      · refine PP.aload_n dX6_shadowOf_14 rfl ?_
        refine PP.getfR dX6_shadowOf_15 fl_X6_43 sm0 rfl ?_
        refine PP.iload_n dX6_shadowOf_18 rfl ?_
        refine PP.ialoadN (n := o) sm12 (by first | decide | omega) (by first | rfl | omega) (by first | omega | (unfold R32; omega)) dX6_shadowOf_19 ?_
        refine PP.aload_n dX6_shadowOf_20 rfl ?_
        refine PP.getfR dX6_shadowOf_21 fl_X6_43 sm0 rfl ?_
        refine PP.iload_n dX6_shadowOf_24 rfl ?_
        refine PP.ialoadN (n := t) sm12 (by first | decide | omega) (by first | rfl | omega) (by first | omega | (unfold R32; omega)) dX6_shadowOf_25 ?_
        refine PP.icmp_ne (tgt := 75) (by first | omega | (unfold R32; omega)) (by first | omega | (unfold R32; omega)) dX6_shadowOf_26 (by decide) (fun h26 => ?_) (fun h26 => ?_)
        · refine PP.iconst dX6_shadowOf_75 ?_
          first
          | exact sh_J1 hc ht ho hp (by unfold R32; omega) (fun q => absurd rfl q) (fun _ q => absurd q.1 (by omega)) ih
          | exact sh_J1 hc ht ho hp (by unfold R32; omega) (fun _ => ⟨by omega, Or.inl ⟨by omega, by omega⟩⟩) (fun q => absurd q (by decide)) ih
          | exact sh_J1 hc ht ho hp (by unfold R32; omega) (fun _ => ⟨by omega, Or.inr ⟨by omega, by omega⟩⟩) (fun q => absurd q (by decide)) ih
          | exact sh_J1 hc ht ho hp (by unfold R32; omega) (fun q => absurd rfl q) (fun _ q => q.2.elim (fun q => by omega) (fun q => by omega)) ih
        · refine PP.aload_n dX6_shadowOf_29 rfl ?_
          refine PP.getfR dX6_shadowOf_30 fl_X6_43 sm0 rfl ?_
          refine PP.iload_n dX6_shadowOf_33 rfl ?_
          refine PP.ialoadN (n := t) sm12 (by first | decide | omega) (by first | rfl | omega) (by first | omega | (unfold R32; omega)) dX6_shadowOf_34 ?_
          refine PP.if_ge (tgt := 56) (by first | omega | (unfold R32; omega)) dX6_shadowOf_35 (by decide) (fun h35 => ?_) (fun h35 => ?_)
          · refine PP.aload_n dX6_shadowOf_56 rfl ?_
            refine PP.getfR dX6_shadowOf_57 fl_X6_37 sm0 rfl ?_
            refine PP.iload_n dX6_shadowOf_60 rfl ?_
            refine PP.ialoadN (n := o) sm10 (by first | decide | omega) (by first | rfl | omega) (by first | omega | (unfold R32; omega)) dX6_shadowOf_61 ?_
            refine PP.aload_n dX6_shadowOf_62 rfl ?_
            refine PP.getfR dX6_shadowOf_63 fl_X6_37 sm0 rfl ?_
            refine PP.iload_n dX6_shadowOf_66 rfl ?_
            refine PP.ialoadN (n := t) sm10 (by first | decide | omega) (by first | rfl | omega) (by first | omega | (unfold R32; omega)) dX6_shadowOf_67 ?_
            refine PP.icmp_ge (tgt := 75) (by first | omega | (unfold R32; omega)) (by first | omega | (unfold R32; omega)) dX6_shadowOf_68 (by decide) (fun h68 => ?_) (fun h68 => ?_)
            · refine PP.iconst dX6_shadowOf_75 ?_
              first
              | exact sh_J1 hc ht ho hp (by unfold R32; omega) (fun q => absurd rfl q) (fun _ q => absurd q.1 (by omega)) ih
              | exact sh_J1 hc ht ho hp (by unfold R32; omega) (fun _ => ⟨by omega, Or.inl ⟨by omega, by omega⟩⟩) (fun q => absurd q (by decide)) ih
              | exact sh_J1 hc ht ho hp (by unfold R32; omega) (fun _ => ⟨by omega, Or.inr ⟨by omega, by omega⟩⟩) (fun q => absurd q (by decide)) ih
              | exact sh_J1 hc ht ho hp (by unfold R32; omega) (fun q => absurd rfl q) (fun _ q => q.2.elim (fun q => by omega) (fun q => by omega)) ih
            · refine PP.iconst dX6_shadowOf_71 ?_
              refine PP.goto (tgt := 76) dX6_shadowOf_72 (by decide) ?_
              first
              | exact sh_J1 hc ht ho hp (by unfold R32; omega) (fun q => absurd rfl q) (fun _ q => absurd q.1 (by omega)) ih
              | exact sh_J1 hc ht ho hp (by unfold R32; omega) (fun _ => ⟨by omega, Or.inl ⟨by omega, by omega⟩⟩) (fun q => absurd q (by decide)) ih
              | exact sh_J1 hc ht ho hp (by unfold R32; omega) (fun _ => ⟨by omega, Or.inr ⟨by omega, by omega⟩⟩) (fun q => absurd q (by decide)) ih
              | exact sh_J1 hc ht ho hp (by unfold R32; omega) (fun q => absurd rfl q) (fun _ q => q.2.elim (fun q => by omega) (fun q => by omega)) ih
          · refine PP.aload_n dX6_shadowOf_38 rfl ?_
            refine PP.getfR dX6_shadowOf_39 fl_X6_37 sm0 rfl ?_
            refine PP.iload_n dX6_shadowOf_42 rfl ?_
            refine PP.ialoadN (n := o) sm10 (by first | decide | omega) (by first | rfl | omega) (by first | omega | (unfold R32; omega)) dX6_shadowOf_43 ?_
            refine PP.aload_n dX6_shadowOf_44 rfl ?_
            refine PP.getfR dX6_shadowOf_45 fl_X6_37 sm0 rfl ?_
            refine PP.iload_n dX6_shadowOf_48 rfl ?_
            refine PP.ialoadN (n := t) sm10 (by first | decide | omega) (by first | rfl | omega) (by first | omega | (unfold R32; omega)) dX6_shadowOf_49 ?_
            refine PP.icmp_le (tgt := 75) (by first | omega | (unfold R32; omega)) (by first | omega | (unfold R32; omega)) dX6_shadowOf_50 (by decide) (fun h50 => ?_) (fun h50 => ?_)
            · refine PP.iconst dX6_shadowOf_75 ?_
              first
              | exact sh_J1 hc ht ho hp (by unfold R32; omega) (fun q => absurd rfl q) (fun _ q => absurd q.1 (by omega)) ih
              | exact sh_J1 hc ht ho hp (by unfold R32; omega) (fun _ => ⟨by omega, Or.inl ⟨by omega, by omega⟩⟩) (fun q => absurd q (by decide)) ih
              | exact sh_J1 hc ht ho hp (by unfold R32; omega) (fun _ => ⟨by omega, Or.inr ⟨by omega, by omega⟩⟩) (fun q => absurd q (by decide)) ih
              | exact sh_J1 hc ht ho hp (by unfold R32; omega) (fun q => absurd rfl q) (fun _ q => q.2.elim (fun q => by omega) (fun q => by omega)) ih
            · refine PP.goto (tgt := 71) dX6_shadowOf_53 (by decide) ?_
              refine PP.iconst dX6_shadowOf_71 ?_
              refine PP.goto (tgt := 76) dX6_shadowOf_72 (by decide) ?_
              first
              | exact sh_J1 hc ht ho hp (by unfold R32; omega) (fun q => absurd rfl q) (fun _ q => absurd q.1 (by omega)) ih
              | exact sh_J1 hc ht ho hp (by unfold R32; omega) (fun _ => ⟨by omega, Or.inl ⟨by omega, by omega⟩⟩) (fun q => absurd q (by decide)) ih
              | exact sh_J1 hc ht ho hp (by unfold R32; omega) (fun _ => ⟨by omega, Or.inr ⟨by omega, by omega⟩⟩) (fun q => absurd q (by decide)) ih
              | exact sh_J1 hc ht ho hp (by unfold R32; omega) (fun q => absurd rfl q) (fun _ q => q.2.elim (fun q => by omega) (fun q => by omega)) ih
  refine PP.iconst dX6_shadowOf_0 ?_
  refine PP.istore_n (L' := [_, _, _, _, _, _, _]) dX6_shadowOf_1 (Nat.le_of_ble_eq_true rfl) rfl rfl ?_
  refine PP.iconst dX6_shadowOf_2 ?_
  refine PP.istore_n (L' := [_, _, _, _, _, _, _]) dX6_shadowOf_3 (Nat.le_of_ble_eq_true rfl) rfl rfl ?_
  exact key 0 (by omega)
