/-! the component's calls: things, acts, what is kept -/
theorem wfR_rng {T : Nat → Int} {n : Nat} {row : Nat → Int} (hw : wfT T n) (hr : wfR T n row) {t : Nat} (ht : t < n) : (row (2 + t) = -4 ∧ row (9 + t) = -4) ∨ (0 ≤ row (2 + t) ∧ row (2 + t) + T (11 + t) ≤ T 0 ∧ (row (9 + t) = 0 ∨ row (9 + t) = 1)) := hr.1.1 t ht
theorem RW20 {σ : Sg} {T row : Nat → Int} (h : RW σ 20 T row) : ∀ t, t < 7 → σ 21 t = (if row (2 + t) < 0 then -1 else row (2 + t)) ∧ σ 22 t = (if row (2 + t) < 0 then 0 else row (9 + t)) ∧ σ 23 t = sdC T (rP row) t := h.1
theorem c_thing {σ : Sg} {A : ST} {t what : Int} (hA : RepC σ A) (hW : WF A) (hx : R32 t) (hx2 : R32 what) : OK SHc mX5_thing 20 [vR 0, vI t, vI what] σ (RP (fun v τ => v = qThing A t what ∧ RepC τ A)) := by
  obtain ⟨len, txt, T, n, row, und, kep, sn⟩ := A
  obtain ⟨a1, a2, a3, a4, a5, a6, a7, a8, a9⟩ := RepC_e.mp hA
  obtain ⟨w1, w2, w3, w4, w5, -⟩ := WF_e.mp hW
  have hn7 := w3.2.1
  have hC := RC_of w3 w5 a3 a4
  simp only [qThing, isT]
  refine OK.enter (L' := [vR 0, vI t, vI what]) (by decide +kernel) (by simp [ent0]) rfl ?_
  refine PP.rg (fun hg => ?_)
  by_cases ht : 0 ≤ t ∧ t < (n : Int)
  · obtain ⟨j, rfl⟩ : ∃ j : Nat, t = (j : Int) := ⟨t.toNat, by omega⟩
    have hj : j < n := by omega
    obtain ⟨g1, g2, g3, g4⟩ := DR14 a3 j hj
    obtain ⟨r1, r2, r3⟩ := RW20 a4 j (by omega)
    have hin : inS (rP row) j = true ↔ 0 ≤ row (2 + j) := inS_t
    have hin0 : inS (rP row) j = false ↔ row (2 + j) < 0 := by rw [← Bool.not_eq_true, hin]; omega
    have hws := wsh_m w5
    rw [if_neg (fun h => h ht), Int.toNat_natCast]
    refine PP.aload_n dX5_thing_0 rfl ?_
    refine PP.getfR dX5_thing_1 fl_X5_23 sc0 rfl ?_
    refine PP.iload_n dX5_thing_4 rfl ?_
    refine PP.callVi (ok_has DK14 w3 a3 hx) dX5_thing_5 vl_X5_110 sc14 rfl rfl rfl rfl (Nat.le_of_ble_eq_true rfl) (by first | exact Nat.le_of_ble_eq_true rfl | omega) ?_
    refine PP.if_ne (tgt := 13) (by first | omega | assumption | exact hg _ _ | exact b2i_R _ | (unfold R32; omega)) dX5_thing_8 (by decide) (fun h8 => ?_) (fun h8 => ?_)
    · refine PP.iload_n dX5_thing_13 rfl ?_
      by_cases hs14_0 : what = 0
      · refine PP.tabI (i := 0) (off := 42) (tgt := 56) (by omega) (by omega) (by decide) (by first | omega | assumption | exact hg _ _ | exact b2i_R _ | (unfold R32; omega)) dX5_thing_14 rfl (by decide) ?_
        refine PP.aload_n dX5_thing_56 rfl ?_
        refine PP.getfR dX5_thing_57 fl_X5_23 sc0 rfl ?_
        refine PP.getfR dX5_thing_60 fl_X5_114 sc14 rfl ?_
        refine PP.iload_n dX5_thing_63 rfl ?_
        refine PP.ialoadN (n := j) sc15 (by first | decide | omega) (by first | rfl | omega) (by first | omega | assumption | exact hg _ _ | exact b2i_R _ | (unfold R32; omega)) dX5_thing_64 ?_
        refine PP.iret dX5_thing_65 rfl ?_
        rw [if_pos (by omega)]
        exact ⟨_, rfl, g1, hA⟩
      by_cases hs14_1 : what = 1
      · refine PP.tabI (i := 1) (off := 52) (tgt := 66) (by omega) (by omega) (by decide) (by first | omega | assumption | exact hg _ _ | exact b2i_R _ | (unfold R32; omega)) dX5_thing_14 rfl (by decide) ?_
        refine PP.aload_n dX5_thing_66 rfl ?_
        refine PP.getfR dX5_thing_67 fl_X5_23 sc0 rfl ?_
        refine PP.getfR dX5_thing_70 fl_X5_117 sc14 rfl ?_
        refine PP.iload_n dX5_thing_73 rfl ?_
        refine PP.ialoadN (n := j) sc16 (by first | decide | omega) (by first | rfl | omega) (by first | omega | assumption | exact hg _ _ | exact b2i_R _ | (unfold R32; omega)) dX5_thing_74 ?_
        refine PP.iret dX5_thing_75 rfl ?_
        rw [if_neg (by omega), if_pos (by omega)]
        exact ⟨_, rfl, g2, hA⟩
      by_cases hs14_2 : what = 2
      · refine PP.tabI (i := 2) (off := 62) (tgt := 76) (by omega) (by omega) (by decide) (by first | omega | assumption | exact hg _ _ | exact b2i_R _ | (unfold R32; omega)) dX5_thing_14 rfl (by decide) ?_
        refine PP.aload_n dX5_thing_76 rfl ?_
        refine PP.getfR dX5_thing_77 fl_X5_23 sc0 rfl ?_
        refine PP.getfR dX5_thing_80 fl_X5_120 sc14 rfl ?_
        refine PP.iload_n dX5_thing_83 rfl ?_
        refine PP.ialoadN (n := j) sc17 (by first | decide | omega) (by first | rfl | omega) (by first | omega | assumption | exact hg _ _ | exact b2i_R _ | (unfold R32; omega)) dX5_thing_84 ?_
        refine PP.iret dX5_thing_85 rfl ?_
        rw [if_neg (by omega), if_neg (by omega), if_pos (by omega)]
        exact ⟨_, rfl, g3, hA⟩
      by_cases hs14_3 : what = 3
      · refine PP.tabI (i := 3) (off := 72) (tgt := 86) (by omega) (by omega) (by decide) (by first | omega | assumption | exact hg _ _ | exact b2i_R _ | (unfold R32; omega)) dX5_thing_14 rfl (by decide) ?_
        refine PP.aload_n dX5_thing_86 rfl ?_
        refine PP.getfR dX5_thing_87 fl_X5_23 sc0 rfl ?_
        refine PP.getfR dX5_thing_90 fl_X5_123 sc14 rfl ?_
        refine PP.iload_n dX5_thing_93 rfl ?_
        refine PP.ialoadN (n := j) sc18 (by first | decide | omega) (by first | rfl | omega) (by first | omega | assumption | exact hg _ _ | exact b2i_R _ | (unfold R32; omega)) dX5_thing_94 ?_
        refine PP.iret dX5_thing_95 rfl ?_
        rw [if_neg (by omega), if_neg (by omega), if_neg (by omega), if_pos (by omega)]
        exact ⟨_, rfl, g4, hA⟩
      by_cases hs14_4 : what = 4
      · refine PP.tabI (i := 4) (off := 82) (tgt := 96) (by omega) (by omega) (by decide) (by first | omega | assumption | exact hg _ _ | exact b2i_R _ | (unfold R32; omega)) dX5_thing_14 rfl (by decide) ?_
        refine PP.aload_n dX5_thing_96 rfl ?_
        refine PP.getfR dX5_thing_97 fl_X5_32 sc0 rfl ?_
        refine PP.iload_n dX5_thing_100 rfl ?_
        refine PP.callVi (ok_in hC (t := j) (by omega)) dX5_thing_101 vl_X5_126 sc20 rfl rfl rfl rfl (Nat.le_of_ble_eq_true rfl) (by first | exact Nat.le_of_ble_eq_true rfl | omega) ?_
        refine PP.if_eq (tgt := 119) (by first | omega | assumption | exact hg _ _ | exact b2i_R _ | (unfold R32; omega)) dX5_thing_104 (by decide) (fun h104 => ?_) (fun h104 => ?_)
        · refine PP.bipush dX5_thing_119 (by decide) ?_
          refine PP.iret dX5_thing_121 rfl ?_
          rw [if_neg (by omega), if_neg (by omega), if_neg (by omega), if_neg (by omega), if_pos (by omega)]
          refine ⟨_, rfl, ?_, hA⟩
          first
            | (have q := hin.mp (b2i_n.mp h104); rw [r1, if_neg (by omega)])
            | (have q := hin0.mp (b2i_0.mp h104); have := wfR_rng w3 w5 hj; omega)
        · refine PP.aload_n dX5_thing_107 rfl ?_
          refine PP.getfR dX5_thing_108 fl_X5_32 sc0 rfl ?_
          refine PP.getfR dX5_thing_111 fl_X5_129 sc20 rfl ?_
          refine PP.iload_n dX5_thing_114 rfl ?_
          refine PP.ialoadN (n := j) sc21 (by first | decide | omega) (by first | rfl | omega) (by first | omega | assumption | exact hg _ _ | exact b2i_R _ | (unfold R32; omega)) dX5_thing_115 ?_
          refine PP.goto (tgt := 121) dX5_thing_116 (by decide) ?_
          refine PP.iret dX5_thing_121 rfl ?_
          rw [if_neg (by omega), if_neg (by omega), if_neg (by omega), if_neg (by omega), if_pos (by omega)]
          refine ⟨_, rfl, ?_, hA⟩
          first
            | (have q := hin.mp (b2i_n.mp h104); rw [r1, if_neg (by omega)])
            | (have q := hin0.mp (b2i_0.mp h104); have := wfR_rng w3 w5 hj; omega)
      by_cases hs14_5 : what = 5
      · refine PP.tabI (i := 5) (off := 108) (tgt := 122) (by omega) (by omega) (by decide) (by first | omega | assumption | exact hg _ _ | exact b2i_R _ | (unfold R32; omega)) dX5_thing_14 rfl (by decide) ?_
        refine PP.aload_n dX5_thing_122 rfl ?_
        refine PP.getfR dX5_thing_123 fl_X5_32 sc0 rfl ?_
        refine PP.iload_n dX5_thing_126 rfl ?_
        refine PP.callVi (ok_in hC (t := j) (by omega)) dX5_thing_127 vl_X5_126 sc20 rfl rfl rfl rfl (Nat.le_of_ble_eq_true rfl) (by first | exact Nat.le_of_ble_eq_true rfl | omega) ?_
        refine PP.if_eq (tgt := 145) (by first | omega | assumption | exact hg _ _ | exact b2i_R _ | (unfold R32; omega)) dX5_thing_130 (by decide) (fun h130 => ?_) (fun h130 => ?_)
        · refine PP.bipush dX5_thing_145 (by decide) ?_
          refine PP.iret dX5_thing_147 rfl ?_
          rw [if_neg (by omega), if_neg (by omega), if_neg (by omega), if_neg (by omega), if_neg (by omega), if_pos (by omega)]
          refine ⟨_, rfl, ?_, hA⟩
          first
            | (have q := hin.mp (b2i_n.mp h130); rw [r2, if_neg (by omega)])
            | (have q := hin0.mp (b2i_0.mp h130); have := wfR_rng w3 w5 hj; omega)
        · refine PP.aload_n dX5_thing_133 rfl ?_
          refine PP.getfR dX5_thing_134 fl_X5_32 sc0 rfl ?_
          refine PP.getfR dX5_thing_137 fl_X5_132 sc20 rfl ?_
          refine PP.iload_n dX5_thing_140 rfl ?_
          refine PP.ialoadN (n := j) sc22 (by first | decide | omega) (by first | rfl | omega) (by first | omega | assumption | exact hg _ _ | exact b2i_R _ | (unfold R32; omega)) dX5_thing_141 ?_
          refine PP.goto (tgt := 147) dX5_thing_142 (by decide) ?_
          refine PP.iret dX5_thing_147 rfl ?_
          rw [if_neg (by omega), if_neg (by omega), if_neg (by omega), if_neg (by omega), if_neg (by omega), if_pos (by omega)]
          refine ⟨_, rfl, ?_, hA⟩
          first
            | (have q := hin.mp (b2i_n.mp h130); rw [r2, if_neg (by omega)])
            | (have q := hin0.mp (b2i_0.mp h130); have := wfR_rng w3 w5 hj; omega)
      by_cases hs14_6 : what = 6
      · refine PP.tabI (i := 6) (off := 134) (tgt := 148) (by omega) (by omega) (by decide) (by first | omega | assumption | exact hg _ _ | exact b2i_R _ | (unfold R32; omega)) dX5_thing_14 rfl (by decide) ?_
        refine PP.aload_n dX5_thing_148 rfl ?_
        refine PP.getfR dX5_thing_149 fl_X5_32 sc0 rfl ?_
        refine PP.iload_n dX5_thing_152 rfl ?_
        refine PP.callVi (ok_isWashed (p := wsh row) (n := n) RK20 (by rw [a4.2.1, hws]) hn7 hj) dX5_thing_153 vl_X5_135 sc20 rfl rfl rfl rfl (Nat.le_of_ble_eq_true rfl) (by first | exact Nat.le_of_ble_eq_true rfl | omega) ?_
        refine PP.if_eq (tgt := 163) (by first | omega | assumption | exact hg _ _ | exact b2i_R _ | (unfold R32; omega)) dX5_thing_156 (by decide) (fun h156 => ?_) (fun h156 => ?_)
        · refine PP.iconst dX5_thing_163 ?_
          refine PP.iret dX5_thing_164 rfl ?_
          rw [if_neg (by omega), if_neg (by omega), if_neg (by omega), if_neg (by omega), if_neg (by omega), if_neg (by omega), if_pos (by omega)]
          refine ⟨_, rfl, ?_, hA⟩
          have := b2i_01 (wsh row j)
          omega
        · refine PP.iconst dX5_thing_159 ?_
          refine PP.goto (tgt := 164) dX5_thing_160 (by decide) ?_
          refine PP.iret dX5_thing_164 rfl ?_
          rw [if_neg (by omega), if_neg (by omega), if_neg (by omega), if_neg (by omega), if_neg (by omega), if_neg (by omega), if_pos (by omega)]
          refine ⟨_, rfl, ?_, hA⟩
          have := b2i_01 (wsh row j)
          omega
      refine PP.tabO (tgt := 165) (by omega) (by first | omega | assumption | exact hg _ _ | exact b2i_R _ | (unfold R32; omega)) dX5_thing_14 (by decide) ?_
      refine PP.iconst dX5_thing_165 ?_
      refine PP.iret dX5_thing_166 rfl ?_
      rw [if_neg (by omega), if_neg (by omega), if_neg (by omega), if_neg (by omega), if_neg (by omega), if_neg (by omega), if_neg (by omega)]
      exact ⟨_, rfl, rfl, hA⟩
    · rw [decide_eq_true ht] at h8; cases h8
  · rw [if_pos ht]
    refine PP.aload_n dX5_thing_0 rfl ?_
    refine PP.getfR dX5_thing_1 fl_X5_23 sc0 rfl ?_
    refine PP.iload_n dX5_thing_4 rfl ?_
    refine PP.callVi (ok_has DK14 w3 a3 hx) dX5_thing_5 vl_X5_110 sc14 rfl rfl rfl rfl (Nat.le_of_ble_eq_true rfl) (by first | exact Nat.le_of_ble_eq_true rfl | omega) ?_
    refine PP.if_ne (tgt := 13) (by first | omega | exact b2i_R _) dX5_thing_8 (by decide) (fun h8 => ?_) (fun h8 => ?_)
    · rw [decide_eq_false ht] at h8; exact absurd rfl h8
    · refine PP.iconst dX5_thing_11 ?_
      refine PP.iret dX5_thing_12 rfl ?_
      exact ⟨_, rfl, rfl, hA⟩
theorem c_slot {σ : Sg} {A : ST} {s : Int} (hA : RepC σ A) (hW : WF A) (hx : R32 s) : OK SHc mX5_slot 20 [vR 0, vI s] σ (RP (fun v τ => v = qSlot A s ∧ RepC τ A)) := by
  obtain ⟨len, txt, T, n, row, und, kep, sn⟩ := A
  obtain ⟨a1, a2, a3, a4, a5, a6, a7, a8, a9⟩ := RepC_e.mp hA
  obtain ⟨w1, w2, w3, w4, w5, -⟩ := WF_e.mp hW
  have hC := RC_of w3 w5 a3 a4
  have hsl := w3.2.2.1
  simp only [qSlot]
  refine OK.enter (L' := [vR 0, vI s]) (by decide +kernel) (by simp [ent0]) rfl ?_
  by_cases hs : 0 ≤ s ∧ s < T 0
  · rw [if_neg (fun h => h hs)]
    refine PP.aload_n dX5_slot_0 rfl ?_
    refine PP.getfR dX5_slot_1 fl_X5_23 sc0 rfl ?_
    refine PP.iload_n dX5_slot_4 rfl ?_
    refine PP.callVi (ok_hasSlot DK14 w3 a3 hx) dX5_slot_5 vl_X5_138 sc14 rfl rfl rfl rfl (Nat.le_of_ble_eq_true rfl) (by first | exact Nat.le_of_ble_eq_true rfl | omega) ?_
    refine PP.if_ne (tgt := 13) (by first | omega | exact b2i_R _) dX5_slot_8 (by decide) (fun h8 => ?_) (fun h8 => ?_)
    · refine PP.aload_n dX5_slot_13 rfl ?_
      refine PP.getfR dX5_slot_14 fl_X5_32 sc0 rfl ?_
      refine PP.iload_n dX5_slot_17 rfl ?_
      refine PP.callVi (ok_ownerOf hC (by omega)) dX5_slot_18 vl_X5_141 sc20 rfl rfl rfl rfl (Nat.le_of_ble_eq_true rfl) (by first | exact Nat.le_of_ble_eq_true rfl | omega) ?_
      refine PP.iret dX5_slot_21 rfl ?_
      exact ⟨_, rfl, rfl, hA⟩
    · rw [decide_eq_true hs] at h8; cases h8
  · rw [if_pos hs]
    refine PP.aload_n dX5_slot_0 rfl ?_
    refine PP.getfR dX5_slot_1 fl_X5_23 sc0 rfl ?_
    refine PP.iload_n dX5_slot_4 rfl ?_
    refine PP.callVi (ok_hasSlot DK14 w3 a3 hx) dX5_slot_5 vl_X5_138 sc14 rfl rfl rfl rfl (Nat.le_of_ble_eq_true rfl) (by first | exact Nat.le_of_ble_eq_true rfl | omega) ?_
    refine PP.if_ne (tgt := 13) (by first | omega | exact b2i_R _) dX5_slot_8 (by decide) (fun h8 => ?_) (fun h8 => ?_)
    · rw [decide_eq_false hs] at h8; exact absurd rfl h8
    · refine PP.iconst dX5_slot_11 ?_
      refine PP.iret dX5_slot_12 rfl ?_
      exact ⟨_, rfl, rfl, hA⟩
theorem RW_out {σ : Sg} {r t : Nat} {T row : Nat → Int} (h : RW σ r T row) (ht : t < 7) : RW (stdU σ r t (-1) 0 0) r T (outR row t) := by
  have hr := RR_lv (t := t) h.1
  refine ⟨fun u hu => ?_, ?_, ?_⟩
  · have := hr u hu
    have e1 : outR row t (2 + u) = uf (fun t => row (2 + t)) t (-4) u := by
      unfold outR
      rw [uf_ne (by omega)]
      by_cases e : u = t
      · subst e; rw [uf_at, uf_at]
      · rw [uf_ne (by omega), uf_ne e]
    have e2 : outR row t (9 + u) = uf (fun t => row (9 + t)) t (-4) u := by
      unfold outR
      by_cases e : u = t
      · subst e; rw [uf_at, uf_at]
      · rw [uf_ne (by omega), uf_ne (by omega), uf_ne e]
    have e3 : sdC T (fun t' => outR row t (2 + t')) u = sdC T (uf (fun t => row (2 + t)) t (-4)) u := by simp only [sdC, e1]
    rw [e3]
    simp only [e1, e2]
    exact this
  · rw [stdU_ne (by omega) (by omega) (by omega)]; unfold outR; rw [uf_ne (by omega), uf_ne (by omega)]; exact h.2.1
  · rw [stdU_ne (by omega) (by omega) (by omega)]; unfold outR; rw [uf_ne (by omega), uf_ne (by omega)]; exact h.2.2
theorem wfR_put {T : Nat → Int} {n t : Nat} {row : Nat → Int} {s f : Int} (hw : wfT T n) (h : wfR T n row) (ht : t < n) (hs : 0 ≤ s) (hs2 : s + T (11 + t) ≤ T 0) (hf : f = 0 ∨ f = 1) : wfR T n (uf (uf row (2 + t) s) (9 + t) f) := by
  have hn7 := hw.2.1
  obtain ⟨⟨h1, h2⟩, h3, p, hp⟩ := h
  refine ⟨⟨fun u hu => ?_, fun u hu hu7 => ?_⟩, ?_, p, ?_⟩
  · by_cases e : u = t
    · subst e; simp only []; rw [uf_ne (by omega), uf_at, uf_at]; exact Or.inr ⟨hs, hs2, hf⟩
    · simp only []; rw [uf_ne (by omega), uf_ne (by omega), uf_ne (by omega), uf_ne (by omega)]; exact h1 u hu
  · simp only []; rw [uf_ne (by omega), uf_ne (by omega), uf_ne (by omega), uf_ne (by omega)]; exact h2 u hu hu7
  · rw [uf_ne (by omega), uf_ne (by omega)]; exact h3
  · rw [uf_ne (by omega), uf_ne (by omega)]; exact hp
theorem wfR_out {T : Nat → Int} {n t : Nat} {row : Nat → Int} (hw : wfT T n) (h : wfR T n row) (ht : t < n) : wfR T n (outR row t) := by
  have hn7 := hw.2.1
  obtain ⟨⟨h1, h2⟩, h3, p, hp⟩ := h
  unfold outR
  refine ⟨⟨fun u hu => ?_, fun u hu hu7 => ?_⟩, ?_, p, ?_⟩
  · by_cases e : u = t
    · subst e; simp only []; rw [uf_ne (by omega), uf_at, uf_at]; exact Or.inl ⟨rfl, rfl⟩
    · simp only []; rw [uf_ne (by omega), uf_ne (by omega), uf_ne (by omega), uf_ne (by omega)]; exact h1 u hu
  · simp only []; rw [uf_ne (by omega), uf_ne (by omega), uf_ne (by omega), uf_ne (by omega)]; exact h2 u hu hu7
  · rw [uf_ne (by omega), uf_ne (by omega)]; exact h3
  · rw [uf_ne (by omega), uf_ne (by omega)]; exact hp
theorem c_putIn {σ : Sg} {A : ST} {t s f : Int} (hA : RepC σ A) (hW : WF A) (hx : R32 t) (hx2 : R32 s) (hx3 : R32 f) : OK SHc mX5_putIn 20 [vR 0, vI t, vI s, vI f] σ (RP (fun v τ => v = (spPutIn A t s f).1 ∧ RepC τ (spPutIn A t s f).2)) := by
  obtain ⟨len, txt, T, n, row, und, kep, sn⟩ := A
  obtain ⟨a1, a2, a3, a4, a5, a6, a7, a8, a9⟩ := RepC_e.mp hA
  obtain ⟨w1, w2, w3, w4, w5, -⟩ := WF_e.mp hW
  have hn7 := w3.2.1
  have hsl := w3.2.2.1
  have hC := RC_of w3 w5 a3 a4
  simp only [spPutIn, isT, isZ]
  refine OK.enter (L' := [vR 0, vI t, vI s, vI f]) (by decide +kernel) (by simp [ent0]) rfl ?_
  by_cases hb : (0 ≤ t ∧ t < (n : Int)) ∧ (0 ≤ s ∧ s < T 0) ∧ (f = 0 ∨ f = 1)
  · obtain ⟨ht, hs, hf⟩ := id hb
    obtain ⟨j, rfl⟩ : ∃ j : Nat, t = (j : Int) := ⟨t.toNat, by omega⟩
    have hj : j < n := by omega
    have hin : inS (rP row) j = true ↔ 0 ≤ row (2 + j) := inS_t
    have hin0 : inS (rP row) j = false ↔ row (2 + j) < 0 := by rw [← Bool.not_eq_true, hin]; omega
    have hws := wsh_m w5
    have hWj := (w3.2.2.2.2.2.1 j hj).2.1
    rw [if_neg (fun h => h hb), Int.toNat_natCast]
    refine PP.aload_n dX5_putIn_0 rfl ?_
    refine PP.getfR dX5_putIn_1 fl_X5_23 sc0 rfl ?_
    refine PP.iload_n dX5_putIn_4 rfl ?_
    refine PP.callVi (ok_has DK14 w3 a3 hx) dX5_putIn_5 vl_X5_110 sc14 rfl rfl rfl rfl (Nat.le_of_ble_eq_true rfl) (by first | exact Nat.le_of_ble_eq_true rfl | omega) ?_
    refine PP.if_eq (tgt := 29) (by first | omega | exact b2i_R _ | (unfold R32; omega)) dX5_putIn_8 (by decide) (fun h8 => ?_) (fun h8 => ?_)
    · rw [decide_eq_true ht] at h8; cases h8
    · refine PP.aload_n dX5_putIn_11 rfl ?_
      refine PP.getfR dX5_putIn_12 fl_X5_23 sc0 rfl ?_
      refine PP.iload_n dX5_putIn_15 rfl ?_
      refine PP.callVi (ok_hasSlot DK14 w3 a3 hx2) dX5_putIn_16 vl_X5_138 sc14 rfl rfl rfl rfl (Nat.le_of_ble_eq_true rfl) (by first | exact Nat.le_of_ble_eq_true rfl | omega) ?_
      refine PP.if_eq (tgt := 29) (by first | omega | exact b2i_R _ | (unfold R32; omega)) dX5_putIn_19 (by decide) (fun h19 => ?_) (fun h19 => ?_)
      · rw [decide_eq_true hs] at h19; cases h19
      · refine PP.iload_n dX5_putIn_22 rfl ?_
        refine PP.callSi (ok_isBit hx3) dX5_putIn_23 sl_X5_145 rfl rfl (Nat.le_of_ble_eq_true rfl) (by first | exact Nat.le_of_ble_eq_true rfl | omega) ?_
        refine PP.if_ne (tgt := 31) (by first | omega | exact b2i_R _ | (unfold R32; omega)) dX5_putIn_26 (by decide) (fun h26 => ?_) (fun h26 => ?_)
        · refine PP.aload_n dX5_putIn_31 rfl ?_
          refine PP.getfR dX5_putIn_32 fl_X5_32 sc0 rfl ?_
          refine PP.iload_n dX5_putIn_35 rfl ?_
          refine PP.callVi (ok_in hC (t := j) (by omega)) dX5_putIn_36 vl_X5_126 sc20 rfl rfl rfl rfl (Nat.le_of_ble_eq_true rfl) (by first | exact Nat.le_of_ble_eq_true rfl | omega) ?_
          refine PP.if_ne (tgt := 65) (by first | omega | exact b2i_R _ | (unfold R32; omega)) dX5_putIn_39 (by decide) (fun h39 => ?_) (fun h39 => ?_)
          · refine PP.bipush dX5_putIn_65 (by decide) ?_
            refine PP.iret dX5_putIn_67 rfl ?_
            rw [if_pos]
            · exact ⟨_, rfl, rfl, hA⟩
            · first
                | exact Or.inl (hin.mp (b2i_n.mp h39))
                | exact Or.inr (Or.inl (b2i_n.mp h50))
                | exact Or.inr (Or.inr (b2i_0.mp h62))
          · refine PP.aload_n dX5_putIn_42 rfl ?_
            refine PP.getfR dX5_putIn_43 fl_X5_32 sc0 rfl ?_
            refine PP.iload_n dX5_putIn_46 rfl ?_
            refine PP.callVi (ok_isWashed (p := wsh row) (n := n) RK20 (by rw [a4.2.1, hws]) hn7 hj) dX5_putIn_47 vl_X5_135 sc20 rfl rfl rfl rfl (Nat.le_of_ble_eq_true rfl) (by first | exact Nat.le_of_ble_eq_true rfl | omega) ?_
            refine PP.if_ne (tgt := 65) (by first | omega | exact b2i_R _ | (unfold R32; omega)) dX5_putIn_50 (by decide) (fun h50 => ?_) (fun h50 => ?_)
            · refine PP.bipush dX5_putIn_65 (by decide) ?_
              refine PP.iret dX5_putIn_67 rfl ?_
              rw [if_pos]
              · exact ⟨_, rfl, rfl, hA⟩
              · first
                  | exact Or.inl (hin.mp (b2i_n.mp h39))
                  | exact Or.inr (Or.inl (b2i_n.mp h50))
                  | exact Or.inr (Or.inr (b2i_0.mp h62))
            · refine PP.aload_n dX5_putIn_53 rfl ?_
              refine PP.getfR dX5_putIn_54 fl_X5_32 sc0 rfl ?_
              refine PP.iload_n dX5_putIn_57 rfl ?_
              refine PP.iload_n dX5_putIn_58 rfl ?_
              refine PP.callVi (ok_fits hC hj (by omega)) dX5_putIn_59 vl_X5_148 sc20 rfl rfl rfl rfl (Nat.le_of_ble_eq_true rfl) (by first | exact Nat.le_of_ble_eq_true rfl | omega) ?_
              refine PP.if_ne (tgt := 68) (by first | omega | exact b2i_R _ | (unfold R32; omega)) dX5_putIn_62 (by decide) (fun h62 => ?_) (fun h62 => ?_)
              · refine PP.aload_n dX5_putIn_68 rfl ?_
                refine PP.getfR dX5_putIn_69 fl_X5_51 sc0 rfl ?_
                refine PP.aload_n dX5_putIn_72 rfl ?_
                refine PP.getfR dX5_putIn_73 fl_X5_32 sc0 rfl ?_
                refine PP.callVnP (ok_push SK35 RK20 (by omega) a5 a4) dX5_putIn_76 vl_X5_152 sc35 rfl rfl rfl rfl (Nat.le_of_ble_eq_true rfl) (by first | exact Nat.le_of_ble_eq_true rfl | omega) (fun τ76 hq76 => ?_)
                obtain ⟨p1, p2⟩ := hq76
                have hfit := b2i_n.mp h62
                have hfit2 := (fitS_t.mp hfit).1
                have hno : ¬ (0 ≤ row (2 + j) ∨ wsh row j = true ∨ fitS T n (rP row) j s = false) := by
                  rintro (q | q | q)
                  · have := b2i_0.mp h39; rw [hin.mpr q] at this; cases this
                  · have := b2i_0.mp h50; rw [q] at this; cases this
                  · rw [hfit] at q; cases q
                rw [if_neg hno]
                have a3' : DR τ76 14 T n := DR_cong a3 (fun c _ _ => p1 c (by omega) (by omega))
                have a4' : RW τ76 20 T row := RW_cong a4 (fun c _ _ => p1 c (by omega) (by omega))
                refine PP.aload_n dX5_putIn_79 rfl ?_
                refine PP.getfR dX5_putIn_80 fl_X5_32 sc0 rfl ?_
                refine PP.iload_n dX5_putIn_83 rfl ?_
                refine PP.iload_n dX5_putIn_84 rfl ?_
                refine PP.iload_n dX5_putIn_85 rfl ?_
                refine PP.callVn (ok_stand RK20 DK14 w3 a3' hj (by omega) hf) dX5_putIn_86 vl_X5_155 sc20 rfl rfl rfl rfl (Nat.le_of_ble_eq_true rfl) (by first | exact Nat.le_of_ble_eq_true rfl | omega) ?_
                have hR2 := RW_std (t := j) (f := f) a4' hs.1 (by omega)
                have hW2 := wfR_put (f := f) w3 w5 hj hs.1 hfit2 hf
                have hC2 := RC_of w3 hW2 (DR_cong a3' (fun c _ _ => stdU_ne (by omega) (by omega) (by omega))) hR2
                refine PP.aload_n dX5_putIn_89 rfl ?_
                refine PP.getfR dX5_putIn_90 fl_X5_32 sc0 rfl ?_
                refine PP.callVi (ok_countIn hC2) dX5_putIn_93 vl_X5_159 sc20 rfl rfl rfl rfl (Nat.le_of_ble_eq_true rfl) (by first | exact Nat.le_of_ble_eq_true rfl | omega) ?_
                refine PP.iret dX5_putIn_96 rfl ?_
                refine ⟨_, rfl, rfl, RepC_act hA (fun c hc => ?_) hR2 (SHR_cong p2 ?_ ?_)⟩
                · rw [stdU_ne (by omega) (by omega) (by omega), p1 c (by omega) (by omega)]
                · rw [stdU_ne (by omega) (by omega) (by omega)]
                · rw [stdU_ne (by omega) (by omega) (by omega)]
              · refine PP.bipush dX5_putIn_65 (by decide) ?_
                refine PP.iret dX5_putIn_67 rfl ?_
                rw [if_pos]
                · exact ⟨_, rfl, rfl, hA⟩
                · first
                    | exact Or.inl (hin.mp (b2i_n.mp h39))
                    | exact Or.inr (Or.inl (b2i_n.mp h50))
                    | exact Or.inr (Or.inr (b2i_0.mp h62))
        · rw [decide_eq_true hf] at h26; cases h26
  · rw [if_pos hb]
    refine PP.aload_n dX5_putIn_0 rfl ?_
    refine PP.getfR dX5_putIn_1 fl_X5_23 sc0 rfl ?_
    refine PP.iload_n dX5_putIn_4 rfl ?_
    refine PP.callVi (ok_has DK14 w3 a3 hx) dX5_putIn_5 vl_X5_110 sc14 rfl rfl rfl rfl (Nat.le_of_ble_eq_true rfl) (by first | exact Nat.le_of_ble_eq_true rfl | omega) ?_
    refine PP.if_eq (tgt := 29) (by first | omega | exact b2i_R _ | (unfold R32; omega)) dX5_putIn_8 (by decide) (fun h8 => ?_) (fun h8 => ?_)
    · refine PP.iconst dX5_putIn_29 ?_
      refine PP.iret dX5_putIn_30 rfl ?_
      exact ⟨_, rfl, rfl, hA⟩
    · refine PP.aload_n dX5_putIn_11 rfl ?_
      refine PP.getfR dX5_putIn_12 fl_X5_23 sc0 rfl ?_
      refine PP.iload_n dX5_putIn_15 rfl ?_
      refine PP.callVi (ok_hasSlot DK14 w3 a3 hx2) dX5_putIn_16 vl_X5_138 sc14 rfl rfl rfl rfl (Nat.le_of_ble_eq_true rfl) (by first | exact Nat.le_of_ble_eq_true rfl | omega) ?_
      refine PP.if_eq (tgt := 29) (by first | omega | exact b2i_R _ | (unfold R32; omega)) dX5_putIn_19 (by decide) (fun h19 => ?_) (fun h19 => ?_)
      · refine PP.iconst dX5_putIn_29 ?_
        refine PP.iret dX5_putIn_30 rfl ?_
        exact ⟨_, rfl, rfl, hA⟩
      · refine PP.iload_n dX5_putIn_22 rfl ?_
        refine PP.callSi (ok_isBit hx3) dX5_putIn_23 sl_X5_145 rfl rfl (Nat.le_of_ble_eq_true rfl) (by first | exact Nat.le_of_ble_eq_true rfl | omega) ?_
        refine PP.if_ne (tgt := 31) (by first | omega | exact b2i_R _ | (unfold R32; omega)) dX5_putIn_26 (by decide) (fun h26 => ?_) (fun h26 => ?_)
        · exact absurd ⟨of_decide_eq_true (b2i_n.mp h8), of_decide_eq_true (b2i_n.mp h19), of_decide_eq_true (b2i_n.mp h26)⟩ hb
        · refine PP.iconst dX5_putIn_29 ?_
          refine PP.iret dX5_putIn_30 rfl ?_
          exact ⟨_, rfl, rfl, hA⟩
