/-! the component's reader: one item, the whole text -/
def EI (C : Prop) (τ1 σ : Sg) : Int → Sg → Prop := fun v τ => (v = 1 ∧ C ∧ τ = τ1) ∨ (v = 0 ∧ ¬ C ∧ τ = σ)
theorem EI_mk {SH : List shp} {M : mth} {d : Nat} {vs : List pv} {σ τ1 : Sg} {C : Prop} (ht : C → OK SH M d vs σ (RV 1 τ1)) (hf : ¬ C → OK SH M d vs σ (RV 0 σ)) : OK SH M d vs σ (RP (EI C τ1 σ)) := by
  rcases Classical.em C with h | h
  · exact (ht h).mono (fun r σ' hq => ⟨1, hq.1, Or.inl ⟨rfl, h, hq.2⟩⟩)
  · exact (hf h).mono (fun r σ' hq => ⟨0, hq.1, Or.inr ⟨rfl, h, hq.2⟩⟩)
theorem EI_R {C : Prop} {τ1 σ τ : Sg} {v : Int} (h : EI C τ1 σ v τ) : R32 v := by
  rcases h with ⟨rfl, -⟩ | ⟨rfl, -⟩ <;> exact ⟨by decide, by decide⟩
def RdC (σ : Sg) (x : RS) : Prop := DR σ 3 x.1 x.2.1 ∧ RW σ 9 x.1 x.2.2.1 ∧ σ 2 4 = b2i x.2.2.2
theorem RW_cong {σ τ : Sg} {g : Nat} {T row : Nat → Int} (h : RW σ g T row) (e : ∀ c, g ≤ c → c ≤ g + 3 → τ c = σ c) : RW τ g T row :=
  ⟨RR_cong h.1 (fun c h1 h2 => e c (by omega) h2), by rw [e g (by omega) (by omega)]; exact h.2.1, by rw [e g (by omega) (by omega)]; exact h.2.2⟩
theorem itS_n {c : Int} {ns : List Int} {x : RS} (h1 : c = 110 → ∀ a b, ns = [a, b] → ¬ cSl x a b) (h2 : c = 116 → ∀ k w h d, ns = [k, w, h, d] → ¬ cTh x k w h d) (h3 : c = 112 → ∀ t s f, ns = [t, s, f] → ¬ cPl x t s f) (h4 : c = 97 → ∀ a, ns = [a] → ¬ (1 ≤ a ∧ a ≤ 9)) (h5 : c = 119 → ∀ a, ns = [a] → ¬ (1 ≤ a ∧ a ≤ 9)) (h6 : c = 99 → ∀ h a, ns = [h, a] → ¬ (h ≤ 23 ∧ 1 ≤ a)) : ∀ y, ¬ itS c ns x y := by
  intro y hy
  rcases hy with ⟨q, a, b, q1, q2, -⟩ | ⟨q, k, w, h, d, q1, q2, -⟩ | ⟨q, t, s, f, q1, q2, -⟩ | ⟨q, a, q1, q2, -⟩ | ⟨q, a, q1, q2, -⟩ | ⟨q, h, a, q1, q2, -⟩
  · exact h1 q a b q1 q2
  · exact h2 q k w h d q1 q2
  · exact h3 q t s f q1 q2
  · exact h4 q a q1 q2
  · exact h5 q a q1 q2
  · exact h6 q h a q1 q2
theorem len1 {ns : List Int} (h : ns.length = 1) : ∃ a, ns = [a] := by
  match ns, h with
  | [a], _ => exact ⟨a, rfl⟩
theorem len2 {ns : List Int} (h : ns.length = 2) : ∃ a b, ns = [a, b] := by
  match ns, h with
  | [a, b], _ => exact ⟨a, b, rfl⟩
theorem len3 {ns : List Int} (h : ns.length = 3) : ∃ a b c, ns = [a, b, c] := by
  match ns, h with
  | [a, b, c], _ => exact ⟨a, b, c, rfl⟩
theorem len4 {ns : List Int} (h : ns.length = 4) : ∃ a b c d, ns = [a, b, c, d] := by
  match ns, h with
  | [a, b, c, d], _ => exact ⟨a, b, c, d, rfl⟩
theorem RdC_Sl {σ : Sg} {x : RS} {a b : Int} (h : RdC σ x) (hw : wfS x) (hc : cSl x a b) : RdC (up (up σ 3 0 a) 3 1 b) (itSl x a b) := by
  obtain ⟨⟨d0, d1, d2, d3, d4, d5⟩, hR, ho⟩ := h
  have n0 := hw.2.2.2.2 hc.1
  refine ⟨⟨?_, ?_, ?_, ?_, fun t ht => ?_, fun t ht => ?_⟩, ⟨fun t ht => ?_, ?_, ?_⟩, ?_⟩
  · simp only [itSl]; rw [up_j (by decide), up_at, uf_ne (by decide), uf_at]
  · simp only [itSl]; rw [up_at, uf_at]
  · simp only [itSl]; rw [up_j (by decide), up_j (by decide), uf_ne (by decide), uf_ne (by decide)]; exact d2
  · simp only [itSl]; rw [up_j (by decide), up_j (by decide)]; exact d3
  · simp only [itSl] at ht; omega
  · simp only [itSl]; rw [up_ne (by decide), up_ne (by decide), uf_ne (by omega), uf_ne (by omega)]; exact d5 t ht
  · simp only [itSl]; rw [up_ne (by decide), up_ne (by decide), up_ne (by decide), up_ne (by decide), up_ne (by decide), up_ne (by decide)]
    have hp := (hw.2.1.2 t (by omega) ht).1
    obtain ⟨a1, a2, a3⟩ := hR.1 t ht
    refine ⟨a1, a2, a3.trans ?_⟩
    simp only [sdC, hp]; simp
  · simp only [itSl]; rw [up_ne (by decide), up_ne (by decide)]; exact hR.2.1
  · simp only [itSl]; rw [up_ne (by decide), up_ne (by decide)]; exact hR.2.2
  · simp only [itSl]; rw [up_ne (by decide), up_ne (by decide), ho, hc.1]
theorem sdC_T {T T' P : Nat → Int} {t : Nat} (h1 : T' 1 = T 1) (h2 : P t < 0 ∨ T' (11 + t) = T (11 + t)) : sdC T' P t = sdC T P t := by
  unfold sdC
  rcases h2 with h | h
  · rw [if_pos h, if_pos h]
  · rw [h, h1]
theorem RdC_Th {σ : Sg} {x : RS} {k w h d : Int} (hr : RdC σ x) (hw : wfS x) (hc : cTh x k w h d) (h24 : σ 2 4 = 0) : RdC (thU σ x.2.1 k w h d) (itTh x k w h d) := by
  obtain ⟨⟨d0, d1, d2, d3, d4, d5⟩, hR, ho⟩ := hr
  have hn := hc.1
  have eT : ∀ j, j ≠ 3 → j ≠ 4 + x.2.1 → j ≠ 11 + x.2.1 → j ≠ 18 + x.2.1 → j ≠ 25 + x.2.1 → thT x.1 x.2.1 k w h d j = x.1 j := fun j a b c d e => by
    unfold thT; rw [uf_ne a, uf_ne e, uf_ne d, uf_ne c, uf_ne b]
  have eS : ∀ c, c ≠ 3 → c ≠ 4 → c ≠ 5 → c ≠ 6 → c ≠ 7 → thU σ x.2.1 k w h d c = σ c := fun c a b c' d' e => by
    unfold thU; rw [up_ne a, up_ne e, up_ne d', up_ne c', up_ne b]
  have e3 : ∀ j, j ≠ 3 → thU σ x.2.1 k w h d 3 j = σ 3 j := fun j hj => by
    unfold thU; rw [up_j hj, up_ne (by decide), up_ne (by decide), up_ne (by decide), up_ne (by decide)]
  refine ⟨⟨?_, ?_, ?_, ?_, fun t ht => ?_, fun t ht => ?_⟩, ⟨fun t ht => ?_, ?_, ?_⟩, ?_⟩
  · simp only [itTh]; rw [e3 _ (by decide), eT _ (by omega) (by omega) (by omega) (by omega) (by omega)]; exact d0
  · simp only [itTh]; rw [e3 _ (by decide), eT _ (by omega) (by omega) (by omega) (by omega) (by omega)]; exact d1
  · simp only [itTh]; rw [e3 _ (by decide), eT _ (by omega) (by omega) (by omega) (by omega) (by omega)]; exact d2
  · simp only [itTh, thU]; rw [up_at]; omega
  · simp only [itTh] at ht ⊢
    have q4 : thU σ x.2.1 k w h d 4 t = up σ 4 x.2.1 k 4 t := by unfold thU; rw [up_ne (by decide), up_ne (by decide), up_ne (by decide), up_ne (by decide)]
    have q5 : thU σ x.2.1 k w h d 5 t = if t = x.2.1 then w else σ 5 t := by
      unfold thU; rw [up_ne (by decide), up_ne (by decide), up_ne (by decide)]
      by_cases e : t = x.2.1
      · rw [e, up_at, if_pos rfl]
      · rw [up_j e, up_ne (by decide), if_neg e]
    have q6 : thU σ x.2.1 k w h d 6 t = if t = x.2.1 then h else σ 6 t := by
      unfold thU; rw [up_ne (by decide), up_ne (by decide)]
      by_cases e : t = x.2.1
      · rw [e, up_at, if_pos rfl]
      · rw [up_j e, up_ne (by decide), up_ne (by decide), if_neg e]
    have q7 : thU σ x.2.1 k w h d 7 t = if t = x.2.1 then d else σ 7 t := by
      unfold thU; rw [up_ne (by decide)]
      by_cases e : t = x.2.1
      · rw [e, up_at, if_pos rfl]
      · rw [up_j e, up_ne (by decide), up_ne (by decide), up_ne (by decide), if_neg e]
    rw [show 3 + 1 = 4 from rfl, show 3 + 2 = 5 from rfl, show 3 + 3 = 6 from rfl, show 3 + 4 = 7 from rfl, q4, q5, q6, q7]
    by_cases e : t = x.2.1
    · subst e
      rw [up_at, if_pos rfl, if_pos rfl, if_pos rfl]
      unfold thT
      refine ⟨?_, ?_, ?_, ?_⟩
      · rw [uf_ne (by omega), uf_ne (by omega), uf_ne (by omega), uf_ne (by omega), uf_at]
      · rw [uf_ne (by omega), uf_ne (by omega), uf_ne (by omega), uf_at]
      · rw [uf_ne (by omega), uf_ne (by omega), uf_at]
      · rw [uf_ne (by omega), uf_at]
    · rw [up_j e, if_neg e, if_neg e, if_neg e, eT _ (by omega) (by omega) (by omega) (by omega) (by omega), eT _ (by omega) (by omega) (by omega) (by omega) (by omega), eT _ (by omega) (by omega) (by omega) (by omega) (by omega), eT _ (by omega) (by omega) (by omega) (by omega) (by omega)]
      exact d4 t (by omega)
  · simp only [itTh]; rw [eS _ (by decide) (by decide) (by decide) (by decide) (by decide), eT _ (by omega) (by omega) (by omega) (by omega) (by omega)]; exact d5 t ht
  · simp only [itTh]; rw [eS _ (by decide) (by decide) (by decide) (by decide) (by decide), eS _ (by decide) (by decide) (by decide) (by decide) (by decide), eS _ (by decide) (by decide) (by decide) (by decide) (by decide)]
    obtain ⟨a1, a2, a3⟩ := hR.1 t ht
    refine ⟨a1, a2, a3.trans ?_⟩
    refine (sdC_T (eT _ (by omega) (by omega) (by omega) (by omega) (by omega)) ?_).symm
    by_cases e : t = x.2.1
    · left; have := (hw.2.1.2 t (by omega) ht).1; simp only [] at this; omega
    · right; exact eT _ (by omega) (by omega) (by omega) (by omega) (by omega)
  · simp only [itTh]; rw [eS _ (by decide) (by decide) (by decide) (by decide) (by decide)]; exact hR.2.1
  · simp only [itTh]; rw [eS _ (by decide) (by decide) (by decide) (by decide) (by decide)]; exact hR.2.2
  · simp only [itTh]; rw [eS _ (by decide) (by decide) (by decide) (by decide) (by decide)]; exact h24
theorem RW_std {σ : Sg} {r t : Nat} {T row : Nat → Int} {s f : Int} (h : RW σ r T row) (hs : 0 ≤ s) (ht : t < 7) : RW (stdU σ r t s f (sidV T t s)) r T (uf (uf row (2 + t) s) (9 + t) f) := by
  have hr := RR_std (t := t) (f := f) h.1 hs
  refine ⟨fun u hu => ?_, ?_, ?_⟩
  · have := hr u hu
    have e1 : uf (uf row (2 + t) s) (9 + t) f (2 + u) = uf (fun t => row (2 + t)) t s u := by
      rw [uf_ne (by omega)]
      by_cases e : u = t
      · subst e; rw [uf_at, uf_at]
      · rw [uf_ne (by omega), uf_ne e]
    have e2 : uf (uf row (2 + t) s) (9 + t) f (9 + u) = uf (fun t => row (9 + t)) t f u := by
      by_cases e : u = t
      · subst e; rw [uf_at, uf_at]
      · rw [uf_ne (by omega), uf_ne (by omega), uf_ne e]
    have e3 : sdC T (fun t' => uf (uf row (2 + t) s) (9 + t) f (2 + t')) u = sdC T (uf (fun t => row (2 + t)) t s) u := by simp only [sdC, e1]
    rw [e3]
    simp only [e1, e2]
    exact this
  · rw [stdU_ne (by omega) (by omega) (by omega), uf_ne (by omega), uf_ne (by omega)]; exact h.2.1
  · rw [stdU_ne (by omega) (by omega) (by omega), uf_ne (by omega), uf_ne (by omega)]; exact h.2.2
theorem RW_T {σ : Sg} {r : Nat} {T T' row : Nat → Int} (h : RW σ r T row) (h1 : T' 1 = T 1) (h2 : ∀ t, t < 7 → row (2 + t) < 0 ∨ T' (11 + t) = T (11 + t)) : RW σ r T' row :=
  ⟨fun t ht => ⟨(h.1 t ht).1, (h.1 t ht).2.1, (h.1 t ht).2.2.trans (sdC_T h1 (h2 t ht)).symm⟩, h.2⟩
theorem ok_take {σ : Sg} {x : RS} {c : Int} {ns : List Int} (hx : wfS x) (hr : RdC σ x) (hN : NRd σ ns) (hn : ∀ z ∈ ns, 0 ≤ z ∧ z ≤ 99) (hl : ns.length ≤ 4) (hc : 0 ≤ c ∧ c ≤ 127) : OK SHc mX3_take 4 [vR 2, vI c] σ (RP (fun v τ => (∀ k, k < 2 ∨ 13 < k → τ k = σ k) ∧ ((v = 0 ∧ ∀ y, ¬ itS c ns x y) ∨ (v = 1 ∧ ∃ y, itS c ns x y ∧ RdC τ y)))) := by
  obtain ⟨hD, hR, ho⟩ := id hr
  obtain ⟨n1, n2⟩ := id hN
  have hn7 := hx.1.2.1
  have ho01 := b2i_01 x.2.2.2
  have hr' : RdC (up σ 2 4 0) (x.1, x.2.1, x.2.2.1, false) := ⟨DR_cong hD (fun c _ _ => up_ne (by omega)), RW_cong hR (fun c _ _ => up_ne (by omega)), up_at⟩
  have n2' : ∀ (j : Nat) (z : Int), ns[j]? = some z → up σ 2 4 0 13 j = z := fun j z h => by rw [up_ne (by decide)]; exact n2 j z h
  have n1' : up σ 2 4 0 2 3 = (ns.length : Int) := by rw [up_j (by decide)]; exact n1
  have fr : ∀ k, k < 2 ∨ 13 < k → up σ 2 4 0 k = σ k := fun k hk => up_ne (by omega)
  refine OK.enter (L' := [vR 2, vI c]) (by decide +kernel) (by simp [ent0]) rfl ?_
  refine PP.iload_n dX3_take_0 rfl ?_
  refine PP.bipush dX3_take_1 (by decide) ?_
  refine PP.icmp_ne (tgt := 39) (by first | omega | exact EI_R hq27 | exact EI_R hq105 | exact EI_R hq144 | exact EI_R hq171 | exact EI_R hq198 | exact EI_R hq231 | (unfold R32; omega)) (by first | omega | exact EI_R hq27 | exact EI_R hq105 | exact EI_R hq144 | exact EI_R hq171 | exact EI_R hq198 | exact EI_R hq231 | (unfold R32; omega)) dX3_take_3 (by decide) (fun h3 => ?_) (fun h3 => ?_)
  · refine PP.aload_n dX3_take_39 rfl ?_
    refine PP.iconst dX3_take_40 ?_
    refine PP.putZ dX3_take_41 fp_X3_59 sc2 rfl (by first | omega | exact EI_R hq27 | exact EI_R hq105 | exact EI_R hq144 | exact EI_R hq171 | exact EI_R hq198 | exact EI_R hq231 | (unfold R32; omega)) ?_
    refine PP.iload_n dX3_take_44 rfl ?_
    by_cases hs45_97 : c = 97
    · refine PP.look (off := 111) (tgt := 156) (by first | omega | exact EI_R hq27 | exact EI_R hq105 | exact EI_R hq144 | exact EI_R hq171 | exact EI_R hq198 | exact EI_R hq231 | (unfold R32; omega)) dX3_take_45 (by decide) (by rw [hs45_97]; rfl) (by decide) ?_
      refine PP.aload_n dX3_take_156 rfl ?_
      refine PP.getfI dX3_take_157 fl_X3_63 sc2 rfl ?_
      refine PP.eqI n1' ?_
      refine PP.iconst dX3_take_160 ?_
      refine PP.icmp_ne (tgt := 181) (by first | omega | exact EI_R hq27 | exact EI_R hq105 | exact EI_R hq144 | exact EI_R hq171 | exact EI_R hq198 | exact EI_R hq231 | (unfold R32; omega)) (by first | omega | exact EI_R hq27 | exact EI_R hq105 | exact EI_R hq144 | exact EI_R hq171 | exact EI_R hq198 | exact EI_R hq231 | (unfold R32; omega)) dX3_take_161 (by decide) (fun h161 => ?_) (fun h161 => ?_)
      · refine PP.iconst dX3_take_181 ?_
        refine PP.zret dX3_take_182 rfl (by first | decide | omega) ?_
        refine ⟨_, rfl, fr, Or.inl ⟨rfl, itS_n (by omega) (by omega) (by omega) (fun _ a e => ?_) (by omega) (by omega)⟩⟩
        rw [e] at h161; exact absurd rfl h161
      · obtain ⟨a, rfl⟩ := len1 (ns := ns) (by omega)
        have ha := hn a (by simp)
        refine PP.aload_n dX3_take_164 rfl ?_
        refine PP.aload_n dX3_take_165 rfl ?_
        refine PP.getfR dX3_take_166 fl_X3_27 sc2 rfl ?_
        refine PP.iconst dX3_take_169 ?_
        refine PP.ialoadN (n := 0) sc13 (by first | decide | omega) (by first | rfl | omega) (by first | omega | exact EI_R hq27 | exact EI_R hq105 | exact EI_R hq144 | exact EI_R hq171 | exact EI_R hq198 | exact EI_R hq231 | (unfold R32; omega)) dX3_take_170 ?_
        refine PP.eqI (y := a) (n2' 0 a rfl) ?_
        refine PP.callViP (EI_mk (C := 1 ≤ a ∧ a ≤ 9) (fun q => ok_takeArm_t q) (fun q => ok_takeArm_f ha q)) dX3_take_171 vl_X3_78 sc2 rfl rfl rfl rfl (Nat.le_of_ble_eq_true rfl) (Nat.le_of_ble_eq_true rfl) (fun v171 τ171 hq171 => ?_)
        refine PP.if_eq (tgt := 181) (by first | omega | exact EI_R hq27 | exact EI_R hq105 | exact EI_R hq144 | exact EI_R hq171 | exact EI_R hq198 | exact EI_R hq231 | (unfold R32; omega)) dX3_take_174 (by decide) (fun h174 => ?_) (fun h174 => ?_)
        · refine PP.iconst dX3_take_181 ?_
          refine PP.zret dX3_take_182 rfl (by first | decide | omega) ?_
          rcases hq171 with ⟨q1, q2, q3⟩ | ⟨q1, q2, q3⟩
          · first
              | omega
              | (subst q3
                 refine ⟨_, rfl, fun k' hk' => ?_, Or.inr ⟨rfl, _, Or.inr (Or.inr (Or.inr (Or.inl ⟨by omega, a, rfl, q2, rfl⟩))), ⟨?_, ?_, ?_⟩⟩⟩
                 · rw [up_ne (by omega), up_ne (by omega)]
                 · obtain ⟨d0, d1, d2, d3, d4, d5⟩ := hr'.1
                   refine ⟨?_, ?_, ?_, ?_, fun t ht => ?_, fun t ht => ?_⟩
                   · simp only [itAr]; rw [up_j (by decide), uf_ne (by decide)]; exact d0
                   · simp only [itAr]; rw [up_j (by decide), uf_ne (by decide)]; exact d1
                   · simp only [itAr]; rw [up_at, uf_at]
                   · simp only [itAr]; rw [up_j (by decide)]; exact d3
                   · simp only [itAr] at ht ⊢; rw [up_ne (by decide), up_ne (by decide), up_ne (by decide), up_ne (by decide), uf_ne (by omega), uf_ne (by omega), uf_ne (by omega), uf_ne (by omega)]; exact d4 t ht
                   · simp only [itAr]; rw [up_ne (by decide), uf_ne (by omega)]; exact d5 t ht
                 · exact RW_cong (RW_T hr'.2.1 (show uf x.1 2 a 1 = x.1 1 from uf_ne (by decide)) (fun t ht => Or.inr (show uf x.1 2 a (11 + t) = x.1 (11 + t) from uf_ne (by omega)))) (fun c _ _ => up_ne (by omega))
                 · rw [up_ne (by omega)]; exact hr'.2.2)
          · first
              | omega
              | (subst q3
                 refine ⟨_, rfl, fr, Or.inl ⟨rfl, itS_n (by omega) (by omega) (by omega) (fun _ a e => ?_) (by omega) (by omega)⟩⟩
                 cases e; exact q2)
        · refine PP.iconst dX3_take_177 ?_
          refine PP.goto (tgt := 182) dX3_take_178 (by decide) ?_
          refine PP.zret dX3_take_182 rfl (by first | decide | omega) ?_
          rcases hq171 with ⟨q1, q2, q3⟩ | ⟨q1, q2, q3⟩
          · first
              | omega
              | (subst q3
                 refine ⟨_, rfl, fun k' hk' => ?_, Or.inr ⟨rfl, _, Or.inr (Or.inr (Or.inr (Or.inl ⟨by omega, a, rfl, q2, rfl⟩))), ⟨?_, ?_, ?_⟩⟩⟩
                 · rw [up_ne (by omega), up_ne (by omega)]
                 · obtain ⟨d0, d1, d2, d3, d4, d5⟩ := hr'.1
                   refine ⟨?_, ?_, ?_, ?_, fun t ht => ?_, fun t ht => ?_⟩
                   · simp only [itAr]; rw [up_j (by decide), uf_ne (by decide)]; exact d0
                   · simp only [itAr]; rw [up_j (by decide), uf_ne (by decide)]; exact d1
                   · simp only [itAr]; rw [up_at, uf_at]
                   · simp only [itAr]; rw [up_j (by decide)]; exact d3
                   · simp only [itAr] at ht ⊢; rw [up_ne (by decide), up_ne (by decide), up_ne (by decide), up_ne (by decide), uf_ne (by omega), uf_ne (by omega), uf_ne (by omega), uf_ne (by omega)]; exact d4 t ht
                   · simp only [itAr]; rw [up_ne (by decide), uf_ne (by omega)]; exact d5 t ht
                 · exact RW_cong (RW_T hr'.2.1 (show uf x.1 2 a 1 = x.1 1 from uf_ne (by decide)) (fun t ht => Or.inr (show uf x.1 2 a (11 + t) = x.1 (11 + t) from uf_ne (by omega)))) (fun c _ _ => up_ne (by omega))
                 · rw [up_ne (by omega)]; exact hr'.2.2)
          · first
              | omega
              | (subst q3
                 refine ⟨_, rfl, fr, Or.inl ⟨rfl, itS_n (by omega) (by omega) (by omega) (fun _ a e => ?_) (by omega) (by omega)⟩⟩
                 cases e; exact q2)
    by_cases hs45_99 : c = 99
    · refine PP.look (off := 165) (tgt := 210) (by first | omega | exact EI_R hq27 | exact EI_R hq105 | exact EI_R hq144 | exact EI_R hq171 | exact EI_R hq198 | exact EI_R hq231 | (unfold R32; omega)) dX3_take_45 (by decide) (by rw [hs45_99]; rfl) (by decide) ?_
      refine PP.aload_n dX3_take_210 rfl ?_
      refine PP.getfI dX3_take_211 fl_X3_63 sc2 rfl ?_
      refine PP.eqI n1' ?_
      refine PP.iconst dX3_take_214 ?_
      refine PP.icmp_ne (tgt := 241) (by first | omega | exact EI_R hq27 | exact EI_R hq105 | exact EI_R hq144 | exact EI_R hq171 | exact EI_R hq198 | exact EI_R hq231 | (unfold R32; omega)) (by first | omega | exact EI_R hq27 | exact EI_R hq105 | exact EI_R hq144 | exact EI_R hq171 | exact EI_R hq198 | exact EI_R hq231 | (unfold R32; omega)) dX3_take_215 (by decide) (fun h215 => ?_) (fun h215 => ?_)
      · refine PP.iconst dX3_take_241 ?_
        refine PP.zret dX3_take_242 rfl (by first | decide | omega) ?_
        refine ⟨_, rfl, fr, Or.inl ⟨rfl, itS_n (by omega) (by omega) (by omega) (by omega) (by omega) (fun _ h a e => ?_)⟩⟩
        rw [e] at h215; exact absurd rfl h215
      · obtain ⟨h, a, rfl⟩ := len2 (ns := ns) (by omega)
        have hh := hn h (by simp)
        have ha := hn a (by simp)
        obtain ⟨j, rfl⟩ : ∃ j : Nat, h = (j : Int) := ⟨h.toNat, by omega⟩
        refine PP.aload_n dX3_take_218 rfl ?_
        refine PP.aload_n dX3_take_219 rfl ?_
        refine PP.getfR dX3_take_220 fl_X3_27 sc2 rfl ?_
        refine PP.iconst dX3_take_223 ?_
        refine PP.ialoadN (n := 0) sc13 (by first | decide | omega) (by first | rfl | omega) (by first | omega | exact EI_R hq27 | exact EI_R hq105 | exact EI_R hq144 | exact EI_R hq171 | exact EI_R hq198 | exact EI_R hq231 | (unfold R32; omega)) dX3_take_224 ?_
        refine PP.eqI (y := (j : Int)) (n2' 0 j rfl) ?_
        refine PP.aload_n dX3_take_225 rfl ?_
        refine PP.getfR dX3_take_226 fl_X3_27 sc2 rfl ?_
        refine PP.iconst dX3_take_229 ?_
        refine PP.ialoadN (n := 1) sc13 (by first | decide | omega) (by first | rfl | omega) (by first | omega | exact EI_R hq27 | exact EI_R hq105 | exact EI_R hq144 | exact EI_R hq171 | exact EI_R hq198 | exact EI_R hq231 | (unfold R32; omega)) dX3_take_230 ?_
        refine PP.eqI (y := a) (n2' 1 a rfl) ?_
        refine PP.callViP (EI_mk (C := (j : Int) ≤ 23 ∧ 1 ≤ a) (fun q => ok_takeCost_t (by omega) (by omega)) (fun q => ok_takeCost_f hh ha q)) dX3_take_231 vl_X3_84 sc2 rfl rfl rfl rfl (Nat.le_of_ble_eq_true rfl) (Nat.le_of_ble_eq_true rfl) (fun v231 τ231 hq231 => ?_)
        refine PP.if_eq (tgt := 241) (by first | omega | exact EI_R hq27 | exact EI_R hq105 | exact EI_R hq144 | exact EI_R hq171 | exact EI_R hq198 | exact EI_R hq231 | (unfold R32; omega)) dX3_take_234 (by decide) (fun h234 => ?_) (fun h234 => ?_)
        · refine PP.iconst dX3_take_241 ?_
          refine PP.zret dX3_take_242 rfl (by first | decide | omega) ?_
          rcases hq231 with ⟨q1, q2, q3⟩ | ⟨q1, q2, q3⟩
          · first
              | omega
              | (subst q3
                 refine ⟨_, rfl, fun k' hk' => ?_, Or.inr ⟨rfl, _, Or.inr (Or.inr (Or.inr (Or.inr (Or.inr ⟨by omega, (j : Int), a, rfl, q2, rfl⟩)))), ⟨?_, ?_, ?_⟩⟩⟩
                 · rw [up_ne (by omega), up_ne (by omega)]
                 · obtain ⟨d0, d1, d2, d3, d4, d5⟩ := hr'.1
                   refine ⟨?_, ?_, ?_, ?_, fun t ht => ?_, fun t ht => ?_⟩
                   · simp only [itCo, Int.toNat_natCast]; rw [up_ne (by decide), uf_ne (by omega)]; exact d0
                   · simp only [itCo, Int.toNat_natCast]; rw [up_ne (by decide), uf_ne (by omega)]; exact d1
                   · simp only [itCo, Int.toNat_natCast]; rw [up_ne (by decide), uf_ne (by omega)]; exact d2
                   · simp only [itCo, Int.toNat_natCast]; rw [up_ne (by decide)]; exact d3
                   · simp only [itCo, Int.toNat_natCast] at ht ⊢; rw [up_ne (by decide), up_ne (by decide), up_ne (by decide), up_ne (by decide), uf_ne (by omega), uf_ne (by omega), uf_ne (by omega), uf_ne (by omega)]; exact d4 t ht
                   · simp only [itCo, Int.toNat_natCast]
                     by_cases e : t = j
                     · subst e; rw [uf_at]; exact up_at
                     · rw [uf_ne (by omega)]; exact (up_j e).trans (d5 t ht)
                 · exact RW_cong (RW_T hr'.2.1 (show uf x.1 (32 + (j : Int).toNat) a 1 = x.1 1 from uf_ne (by omega)) (fun t ht => Or.inr (show uf x.1 (32 + (j : Int).toNat) a (11 + t) = x.1 (11 + t) from uf_ne (by omega)))) (fun c _ _ => up_ne (by omega))
                 · rw [up_ne (by omega)]; exact hr'.2.2)
          · first
              | omega
              | (subst q3
                 refine ⟨_, rfl, fr, Or.inl ⟨rfl, itS_n (by omega) (by omega) (by omega) (by omega) (by omega) (fun _ h a e => ?_)⟩⟩
                 cases e; exact q2)
        · refine PP.iconst dX3_take_237 ?_
          refine PP.goto (tgt := 242) dX3_take_238 (by decide) ?_
          refine PP.zret dX3_take_242 rfl (by first | decide | omega) ?_
          rcases hq231 with ⟨q1, q2, q3⟩ | ⟨q1, q2, q3⟩
          · first
              | omega
              | (subst q3
                 refine ⟨_, rfl, fun k' hk' => ?_, Or.inr ⟨rfl, _, Or.inr (Or.inr (Or.inr (Or.inr (Or.inr ⟨by omega, (j : Int), a, rfl, q2, rfl⟩)))), ⟨?_, ?_, ?_⟩⟩⟩
                 · rw [up_ne (by omega), up_ne (by omega)]
                 · obtain ⟨d0, d1, d2, d3, d4, d5⟩ := hr'.1
                   refine ⟨?_, ?_, ?_, ?_, fun t ht => ?_, fun t ht => ?_⟩
                   · simp only [itCo, Int.toNat_natCast]; rw [up_ne (by decide), uf_ne (by omega)]; exact d0
                   · simp only [itCo, Int.toNat_natCast]; rw [up_ne (by decide), uf_ne (by omega)]; exact d1
                   · simp only [itCo, Int.toNat_natCast]; rw [up_ne (by decide), uf_ne (by omega)]; exact d2
                   · simp only [itCo, Int.toNat_natCast]; rw [up_ne (by decide)]; exact d3
                   · simp only [itCo, Int.toNat_natCast] at ht ⊢; rw [up_ne (by decide), up_ne (by decide), up_ne (by decide), up_ne (by decide), uf_ne (by omega), uf_ne (by omega), uf_ne (by omega), uf_ne (by omega)]; exact d4 t ht
                   · simp only [itCo, Int.toNat_natCast]
                     by_cases e : t = j
                     · subst e; rw [uf_at]; exact up_at
                     · rw [uf_ne (by omega)]; exact (up_j e).trans (d5 t ht)
                 · exact RW_cong (RW_T hr'.2.1 (show uf x.1 (32 + (j : Int).toNat) a 1 = x.1 1 from uf_ne (by omega)) (fun t ht => Or.inr (show uf x.1 (32 + (j : Int).toNat) a (11 + t) = x.1 (11 + t) from uf_ne (by omega)))) (fun c _ _ => up_ne (by omega))
                 · rw [up_ne (by omega)]; exact hr'.2.2)
          · first
              | omega
              | (subst q3
                 refine ⟨_, rfl, fr, Or.inl ⟨rfl, itS_n (by omega) (by omega) (by omega) (by omega) (by omega) (fun _ h a e => ?_)⟩⟩
                 cases e; exact q2)
    by_cases hs45_112 : c = 112
    · refine PP.look (off := 72) (tgt := 117) (by first | omega | exact EI_R hq27 | exact EI_R hq105 | exact EI_R hq144 | exact EI_R hq171 | exact EI_R hq198 | exact EI_R hq231 | (unfold R32; omega)) dX3_take_45 (by decide) (by rw [hs45_112]; rfl) (by decide) ?_
      refine PP.aload_n dX3_take_117 rfl ?_
      refine PP.getfI dX3_take_118 fl_X3_63 sc2 rfl ?_
      refine PP.eqI n1' ?_
      refine PP.iconst dX3_take_121 ?_
      refine PP.icmp_ne (tgt := 154) (by first | omega | exact EI_R hq27 | exact EI_R hq105 | exact EI_R hq144 | exact EI_R hq171 | exact EI_R hq198 | exact EI_R hq231 | (unfold R32; omega)) (by first | omega | exact EI_R hq27 | exact EI_R hq105 | exact EI_R hq144 | exact EI_R hq171 | exact EI_R hq198 | exact EI_R hq231 | (unfold R32; omega)) dX3_take_122 (by decide) (fun h122 => ?_) (fun h122 => ?_)
      · refine PP.iconst dX3_take_154 ?_
        refine PP.zret dX3_take_155 rfl (by first | decide | omega) ?_
        refine ⟨_, rfl, fr, Or.inl ⟨rfl, itS_n (by omega) (by omega) (fun _ t s f e => ?_) (by omega) (by omega) (by omega)⟩⟩
        rw [e] at h122; exact absurd rfl h122
      · obtain ⟨t, s, f, rfl⟩ := len3 (ns := ns) (by omega)
        have ht := hn t (by simp)
        have hs := hn s (by simp)
        have hf := hn f (by simp)
        obtain ⟨j, rfl⟩ : ∃ j : Nat, t = (j : Int) := ⟨t.toNat, by omega⟩
        refine PP.aload_n dX3_take_125 rfl ?_
        refine PP.aload_n dX3_take_126 rfl ?_
        refine PP.getfR dX3_take_127 fl_X3_27 sc2 rfl ?_
        refine PP.iconst dX3_take_130 ?_
        refine PP.ialoadN (n := 0) sc13 (by first | decide | omega) (by first | rfl | omega) (by first | omega | exact EI_R hq27 | exact EI_R hq105 | exact EI_R hq144 | exact EI_R hq171 | exact EI_R hq198 | exact EI_R hq231 | (unfold R32; omega)) dX3_take_131 ?_
        refine PP.eqI (y := (j : Int)) (n2' 0 j rfl) ?_
        refine PP.aload_n dX3_take_132 rfl ?_
        refine PP.getfR dX3_take_133 fl_X3_27 sc2 rfl ?_
        refine PP.iconst dX3_take_136 ?_
        refine PP.ialoadN (n := 1) sc13 (by first | decide | omega) (by first | rfl | omega) (by first | omega | exact EI_R hq27 | exact EI_R hq105 | exact EI_R hq144 | exact EI_R hq171 | exact EI_R hq198 | exact EI_R hq231 | (unfold R32; omega)) dX3_take_137 ?_
        refine PP.eqI (y := s) (n2' 1 s rfl) ?_
        refine PP.aload_n dX3_take_138 rfl ?_
        refine PP.getfR dX3_take_139 fl_X3_27 sc2 rfl ?_
        refine PP.iconst dX3_take_142 ?_
        refine PP.ialoadN (n := 2) sc13 (by first | decide | omega) (by first | rfl | omega) (by first | omega | exact EI_R hq27 | exact EI_R hq105 | exact EI_R hq144 | exact EI_R hq171 | exact EI_R hq198 | exact EI_R hq231 | (unfold R32; omega)) dX3_take_143 ?_
        refine PP.eqI (y := f) (n2' 2 f rfl) ?_
        refine PP.callViP (EI_mk (C := cPl x (j : Int) s f) (fun q => ok_takePlace_t hx hr'.1 hr'.2.1 hs hf q) (fun q => ok_takePlace_f hx hr'.1 hr'.2.1 ht hs hf q)) dX3_take_144 vl_X3_74 sc2 rfl rfl rfl rfl (Nat.le_of_ble_eq_true rfl) (Nat.le_of_ble_eq_true rfl) (fun v144 τ144 hq144 => ?_)
        refine PP.if_eq (tgt := 154) (by first | omega | exact EI_R hq27 | exact EI_R hq105 | exact EI_R hq144 | exact EI_R hq171 | exact EI_R hq198 | exact EI_R hq231 | (unfold R32; omega)) dX3_take_147 (by decide) (fun h147 => ?_) (fun h147 => ?_)
        · refine PP.iconst dX3_take_154 ?_
          refine PP.zret dX3_take_155 rfl (by first | decide | omega) ?_
          rcases hq144 with ⟨q1, q2, q3⟩ | ⟨q1, q2, q3⟩
          · first
              | omega
              | (subst q3
                 refine ⟨_, rfl, fun k' hk' => ?_, Or.inr ⟨rfl, _, Or.inr (Or.inr (Or.inl ⟨by omega, (j : Int), s, f, rfl, q2, rfl⟩)), ⟨?_, ?_, ?_⟩⟩⟩
                 · rw [stdU_ne (by omega) (by omega) (by omega), up_ne (by omega)]
                 · exact DR_cong hr'.1 (fun c _ _ => stdU_ne (by omega) (by omega) (by omega))
                 · have hj : j < 7 := by have := q2.1; omega
                   have := RW_std (t := j) (f := f) hr'.2.1 hs.1 hj
                   simp only [itPl, Int.toNat_natCast]
                   exact this
                 · rw [stdU_ne (by omega) (by omega) (by omega)]; exact hr'.2.2)
          · first
              | omega
              | (subst q3
                 refine ⟨_, rfl, fr, Or.inl ⟨rfl, itS_n (by omega) (by omega) (fun _ t s f e => ?_) (by omega) (by omega) (by omega)⟩⟩
                 cases e; exact q2)
        · refine PP.iconst dX3_take_150 ?_
          refine PP.goto (tgt := 155) dX3_take_151 (by decide) ?_
          refine PP.zret dX3_take_155 rfl (by first | decide | omega) ?_
          rcases hq144 with ⟨q1, q2, q3⟩ | ⟨q1, q2, q3⟩
          · first
              | omega
              | (subst q3
                 refine ⟨_, rfl, fun k' hk' => ?_, Or.inr ⟨rfl, _, Or.inr (Or.inr (Or.inl ⟨by omega, (j : Int), s, f, rfl, q2, rfl⟩)), ⟨?_, ?_, ?_⟩⟩⟩
                 · rw [stdU_ne (by omega) (by omega) (by omega), up_ne (by omega)]
                 · exact DR_cong hr'.1 (fun c _ _ => stdU_ne (by omega) (by omega) (by omega))
                 · have hj : j < 7 := by have := q2.1; omega
                   have := RW_std (t := j) (f := f) hr'.2.1 hs.1 hj
                   simp only [itPl, Int.toNat_natCast]
                   exact this
                 · rw [stdU_ne (by omega) (by omega) (by omega)]; exact hr'.2.2)
          · first
              | omega
              | (subst q3
                 refine ⟨_, rfl, fr, Or.inl ⟨rfl, itS_n (by omega) (by omega) (fun _ t s f e => ?_) (by omega) (by omega) (by omega)⟩⟩
                 cases e; exact q2)
    by_cases hs45_116 : c = 116
    · refine PP.look (off := 51) (tgt := 96) (by first | omega | exact EI_R hq27 | exact EI_R hq105 | exact EI_R hq144 | exact EI_R hq171 | exact EI_R hq198 | exact EI_R hq231 | (unfold R32; omega)) dX3_take_45 (by decide) (by rw [hs45_116]; rfl) (by decide) ?_
      refine PP.aload_n dX3_take_96 rfl ?_
      refine PP.getfI dX3_take_97 fl_X3_63 sc2 rfl ?_
      refine PP.eqI n1' ?_
      refine PP.iconst dX3_take_100 ?_
      refine PP.icmp_ne (tgt := 115) (by first | omega | exact EI_R hq27 | exact EI_R hq105 | exact EI_R hq144 | exact EI_R hq171 | exact EI_R hq198 | exact EI_R hq231 | (unfold R32; omega)) (by first | omega | exact EI_R hq27 | exact EI_R hq105 | exact EI_R hq144 | exact EI_R hq171 | exact EI_R hq198 | exact EI_R hq231 | (unfold R32; omega)) dX3_take_101 (by decide) (fun h101 => ?_) (fun h101 => ?_)
      · refine PP.iconst dX3_take_115 ?_
        refine PP.zret dX3_take_116 rfl (by first | decide | omega) ?_
        refine ⟨_, rfl, fr, Or.inl ⟨rfl, itS_n (by omega) (fun _ k w h d e => ?_) (by omega) (by omega) (by omega) (by omega)⟩⟩
        rw [e] at h101; exact absurd rfl h101
      · obtain ⟨k, w, h, d, rfl⟩ := len4 (ns := ns) (by omega)
        have hk := hn k (by simp)
        have hw := hn w (by simp)
        have hh := hn h (by simp)
        have hd := hn d (by simp)
        refine PP.aload_n dX3_take_104 rfl ?_
        refine PP.callViP (EI_mk (C := cTh x k w h d) (fun q => ok_takeThing_t (by rw [up_ne (by decide)]; exact hD.2.2.2.1) (n2' 0 k rfl) (n2' 1 w rfl) (n2' 2 h rfl) (n2' 3 d rfl) q.1 ⟨hk.1, q.2.1⟩ q.2.2.1 q.2.2.2.1 q.2.2.2.2) (fun q => ok_takeThing_f (by rw [up_ne (by decide)]; exact hD.2.2.2.1) (n2' 0 k rfl) (n2' 1 w rfl) (n2' 2 h rfl) (n2' 3 d rfl) hn7 hk hw hh hd q)) dX3_take_105 vl_X3_70 sc2 rfl rfl rfl rfl (Nat.le_of_ble_eq_true rfl) (Nat.le_of_ble_eq_true rfl) (fun v105 τ105 hq105 => ?_)
        refine PP.if_eq (tgt := 115) (by first | omega | exact EI_R hq27 | exact EI_R hq105 | exact EI_R hq144 | exact EI_R hq171 | exact EI_R hq198 | exact EI_R hq231 | (unfold R32; omega)) dX3_take_108 (by decide) (fun h108 => ?_) (fun h108 => ?_)
        · refine PP.iconst dX3_take_115 ?_
          refine PP.zret dX3_take_116 rfl (by first | decide | omega) ?_
          rcases hq105 with ⟨q1, q2, q3⟩ | ⟨q1, q2, q3⟩
          · first
              | omega
              | (subst q3
                 refine ⟨_, rfl, fun k' hk' => ?_, Or.inr ⟨rfl, _, Or.inr (Or.inl ⟨by omega, k, w, h, d, rfl, q2, rfl⟩), RdC_Th (x := (x.1, x.2.1, x.2.2.1, false)) hr' ⟨hx.1, hx.2.1, hx.2.2.1, hx.2.2.2.1, fun h => by cases h⟩ q2 up_at⟩⟩
                 unfold thU
                 rw [up_ne (by omega), up_ne (by omega), up_ne (by omega), up_ne (by omega), up_ne (by omega), up_ne (by omega)])
          · first
              | omega
              | (subst q3
                 refine ⟨_, rfl, fr, Or.inl ⟨rfl, itS_n (by omega) (fun _ k w h d e => ?_) (by omega) (by omega) (by omega) (by omega)⟩⟩
                 cases e; exact q2)
        · refine PP.iconst dX3_take_111 ?_
          refine PP.goto (tgt := 116) dX3_take_112 (by decide) ?_
          refine PP.zret dX3_take_116 rfl (by first | decide | omega) ?_
          rcases hq105 with ⟨q1, q2, q3⟩ | ⟨q1, q2, q3⟩
          · first
              | omega
              | (subst q3
                 refine ⟨_, rfl, fun k' hk' => ?_, Or.inr ⟨rfl, _, Or.inr (Or.inl ⟨by omega, k, w, h, d, rfl, q2, rfl⟩), RdC_Th (x := (x.1, x.2.1, x.2.2.1, false)) hr' ⟨hx.1, hx.2.1, hx.2.2.1, hx.2.2.2.1, fun h => by cases h⟩ q2 up_at⟩⟩
                 unfold thU
                 rw [up_ne (by omega), up_ne (by omega), up_ne (by omega), up_ne (by omega), up_ne (by omega), up_ne (by omega)])
          · first
              | omega
              | (subst q3
                 refine ⟨_, rfl, fr, Or.inl ⟨rfl, itS_n (by omega) (fun _ k w h d e => ?_) (by omega) (by omega) (by omega) (by omega)⟩⟩
                 cases e; exact q2)
    by_cases hs45_119 : c = 119
    · refine PP.look (off := 138) (tgt := 183) (by first | omega | exact EI_R hq27 | exact EI_R hq105 | exact EI_R hq144 | exact EI_R hq171 | exact EI_R hq198 | exact EI_R hq231 | (unfold R32; omega)) dX3_take_45 (by decide) (by rw [hs45_119]; rfl) (by decide) ?_
      refine PP.aload_n dX3_take_183 rfl ?_
      refine PP.getfI dX3_take_184 fl_X3_63 sc2 rfl ?_
      refine PP.eqI n1' ?_
      refine PP.iconst dX3_take_187 ?_
      refine PP.icmp_ne (tgt := 208) (by first | omega | exact EI_R hq27 | exact EI_R hq105 | exact EI_R hq144 | exact EI_R hq171 | exact EI_R hq198 | exact EI_R hq231 | (unfold R32; omega)) (by first | omega | exact EI_R hq27 | exact EI_R hq105 | exact EI_R hq144 | exact EI_R hq171 | exact EI_R hq198 | exact EI_R hq231 | (unfold R32; omega)) dX3_take_188 (by decide) (fun h188 => ?_) (fun h188 => ?_)
      · refine PP.iconst dX3_take_208 ?_
        refine PP.zret dX3_take_209 rfl (by first | decide | omega) ?_
        refine ⟨_, rfl, fr, Or.inl ⟨rfl, itS_n (by omega) (by omega) (by omega) (by omega) (fun _ a e => ?_) (by omega)⟩⟩
        rw [e] at h188; exact absurd rfl h188
      · obtain ⟨a, rfl⟩ := len1 (ns := ns) (by omega)
        have ha := hn a (by simp)
        refine PP.aload_n dX3_take_191 rfl ?_
        refine PP.aload_n dX3_take_192 rfl ?_
        refine PP.getfR dX3_take_193 fl_X3_27 sc2 rfl ?_
        refine PP.iconst dX3_take_196 ?_
        refine PP.ialoadN (n := 0) sc13 (by first | decide | omega) (by first | rfl | omega) (by first | omega | exact EI_R hq27 | exact EI_R hq105 | exact EI_R hq144 | exact EI_R hq171 | exact EI_R hq198 | exact EI_R hq231 | (unfold R32; omega)) dX3_take_197 ?_
        refine PP.eqI (y := a) (n2' 0 a rfl) ?_
        refine PP.callViP (EI_mk (C := 1 ≤ a ∧ a ≤ 9) (fun q => ok_takeWater_t q) (fun q => ok_takeWater_f ha q)) dX3_take_198 vl_X3_81 sc2 rfl rfl rfl rfl (Nat.le_of_ble_eq_true rfl) (Nat.le_of_ble_eq_true rfl) (fun v198 τ198 hq198 => ?_)
        refine PP.if_eq (tgt := 208) (by first | omega | exact EI_R hq27 | exact EI_R hq105 | exact EI_R hq144 | exact EI_R hq171 | exact EI_R hq198 | exact EI_R hq231 | (unfold R32; omega)) dX3_take_201 (by decide) (fun h201 => ?_) (fun h201 => ?_)
        · refine PP.iconst dX3_take_208 ?_
          refine PP.zret dX3_take_209 rfl (by first | decide | omega) ?_
          rcases hq198 with ⟨q1, q2, q3⟩ | ⟨q1, q2, q3⟩
          · first
              | omega
              | (subst q3
                 refine ⟨_, rfl, fun k' hk' => ?_, Or.inr ⟨rfl, _, Or.inr (Or.inr (Or.inr (Or.inr (Or.inl ⟨by omega, a, rfl, q2, rfl⟩)))), ⟨?_, ⟨fun t ht => ?_, ?_, ?_⟩, ?_⟩⟩⟩
                 · rw [up_ne (by omega), up_ne (by omega)]
                 · exact DR_cong hr'.1 (fun c _ _ => up_ne (by omega))
                 · have := hr'.2.1.1 t ht
                   have e1 : (itWa x a).2.2.1 (2 + t) = x.2.2.1 (2 + t) := (show uf x.2.2.1 0 a (2 + t) = _ from uf_ne (by omega))
                   have e2 : (itWa x a).2.2.1 (9 + t) = x.2.2.1 (9 + t) := (show uf x.2.2.1 0 a (9 + t) = _ from uf_ne (by omega))
                   have e3 : sdC (itWa x a).1 (fun t => (itWa x a).2.2.1 (2 + t)) t = sdC x.1 (fun t => x.2.2.1 (2 + t)) t := by simp only [sdC, e1]; rfl
                   rw [up_ne (by omega), up_ne (by omega), up_ne (by omega), e3]
                   simp only [e1, e2]
                   exact this
                 · rw [up_j (by decide)]; exact hr'.2.1.2.1.trans (show x.2.2.1 1 = uf x.2.2.1 0 a 1 from (uf_ne (by decide)).symm)
                 · rw [up_at]; exact (show a = uf x.2.2.1 0 a 0 from uf_at.symm)
                 · rw [up_ne (by omega)]; exact hr'.2.2)
          · first
              | omega
              | (subst q3
                 refine ⟨_, rfl, fr, Or.inl ⟨rfl, itS_n (by omega) (by omega) (by omega) (by omega) (fun _ a e => ?_) (by omega)⟩⟩
                 cases e; exact q2)
        · refine PP.iconst dX3_take_204 ?_
          refine PP.goto (tgt := 209) dX3_take_205 (by decide) ?_
          refine PP.zret dX3_take_209 rfl (by first | decide | omega) ?_
          rcases hq198 with ⟨q1, q2, q3⟩ | ⟨q1, q2, q3⟩
          · first
              | omega
              | (subst q3
                 refine ⟨_, rfl, fun k' hk' => ?_, Or.inr ⟨rfl, _, Or.inr (Or.inr (Or.inr (Or.inr (Or.inl ⟨by omega, a, rfl, q2, rfl⟩)))), ⟨?_, ⟨fun t ht => ?_, ?_, ?_⟩, ?_⟩⟩⟩
                 · rw [up_ne (by omega), up_ne (by omega)]
                 · exact DR_cong hr'.1 (fun c _ _ => up_ne (by omega))
                 · have := hr'.2.1.1 t ht
                   have e1 : (itWa x a).2.2.1 (2 + t) = x.2.2.1 (2 + t) := (show uf x.2.2.1 0 a (2 + t) = _ from uf_ne (by omega))
                   have e2 : (itWa x a).2.2.1 (9 + t) = x.2.2.1 (9 + t) := (show uf x.2.2.1 0 a (9 + t) = _ from uf_ne (by omega))
                   have e3 : sdC (itWa x a).1 (fun t => (itWa x a).2.2.1 (2 + t)) t = sdC x.1 (fun t => x.2.2.1 (2 + t)) t := by simp only [sdC, e1]; rfl
                   rw [up_ne (by omega), up_ne (by omega), up_ne (by omega), e3]
                   simp only [e1, e2]
                   exact this
                 · rw [up_j (by decide)]; exact hr'.2.1.2.1.trans (show x.2.2.1 1 = uf x.2.2.1 0 a 1 from (uf_ne (by decide)).symm)
                 · rw [up_at]; exact (show a = uf x.2.2.1 0 a 0 from uf_at.symm)
                 · rw [up_ne (by omega)]; exact hr'.2.2)
          · first
              | omega
              | (subst q3
                 refine ⟨_, rfl, fr, Or.inl ⟨rfl, itS_n (by omega) (by omega) (by omega) (by omega) (fun _ a e => ?_) (by omega)⟩⟩
                 cases e; exact q2)
    refine PP.look (off := 198) (tgt := 243) (by first | omega | exact EI_R hq27 | exact EI_R hq105 | exact EI_R hq144 | exact EI_R hq171 | exact EI_R hq198 | exact EI_R hq231 | (unfold R32; omega)) dX3_take_45 (by decide) (by simp [Op.lookupswitch.offset_cons, Op.lookupswitch.offset_nil]; repeat rw [if_neg (by omega)]) (by decide) ?_
    refine PP.iconst dX3_take_243 ?_
    refine PP.zret dX3_take_244 rfl (by first | decide | omega) ?_
    exact ⟨_, rfl, fr, Or.inl ⟨rfl, itS_n (by omega) (by omega) (by omega) (by omega) (by omega) (by omega)⟩⟩
  · refine PP.aload_n dX3_take_6 rfl ?_
    refine PP.getfI dX3_take_7 fl_X3_63 sc2 rfl ?_
    refine PP.eqI n1 ?_
    refine PP.iconst dX3_take_10 ?_
    refine PP.icmp_ne (tgt := 37) (by first | omega | exact EI_R hq27 | exact EI_R hq105 | exact EI_R hq144 | exact EI_R hq171 | exact EI_R hq198 | exact EI_R hq231 | (unfold R32; omega)) (by first | omega | exact EI_R hq27 | exact EI_R hq105 | exact EI_R hq144 | exact EI_R hq171 | exact EI_R hq198 | exact EI_R hq231 | (unfold R32; omega)) dX3_take_11 (by decide) (fun h11 => ?_) (fun h11 => ?_)
    · refine PP.iconst dX3_take_37 ?_
      refine PP.zret dX3_take_38 rfl (by first | decide | omega) ?_
      refine ⟨_, rfl, fun k hk => rfl, Or.inl ⟨rfl, itS_n (fun _ a b e => ?_) (by omega) (by omega) (by omega) (by omega) (by omega)⟩⟩
      rw [e] at h11; exact absurd rfl h11
    · obtain ⟨a, b, rfl⟩ := len2 (ns := ns) (by omega)
      have ha := hn a (by simp)
      have hb := hn b (by simp)
      refine PP.aload_n dX3_take_14 rfl ?_
      refine PP.aload_n dX3_take_15 rfl ?_
      refine PP.getfR dX3_take_16 fl_X3_27 sc2 rfl ?_
      refine PP.iconst dX3_take_19 ?_
      refine PP.ialoadN (n := 0) sc13 (by first | decide | omega) (by first | rfl | omega) (by first | omega | exact EI_R hq27 | exact EI_R hq105 | exact EI_R hq144 | exact EI_R hq171 | exact EI_R hq198 | exact EI_R hq231 | (unfold R32; omega)) dX3_take_20 ?_
      refine PP.eqI (y := a) (n2 0 a rfl) ?_
      refine PP.aload_n dX3_take_21 rfl ?_
      refine PP.getfR dX3_take_22 fl_X3_27 sc2 rfl ?_
      refine PP.iconst dX3_take_25 ?_
      refine PP.ialoadN (n := 1) sc13 (by first | decide | omega) (by first | rfl | omega) (by first | omega | exact EI_R hq27 | exact EI_R hq105 | exact EI_R hq144 | exact EI_R hq171 | exact EI_R hq198 | exact EI_R hq231 | (unfold R32; omega)) dX3_take_26 ?_
      refine PP.eqI (y := b) (n2 1 b rfl) ?_
      refine PP.callViP (EI_mk (C := cSl x a b) (fun h => ok_takeSlots_t ha hb (by rw [ho, h.1]; rfl) h.2.1 h.2.2.1 h.2.2.2) (fun h => ok_takeSlots_f ha hb (by omega) (fun q => h ⟨b2i_1.mp (by omega), q.2⟩))) dX3_take_27 vl_X3_66 sc2 rfl rfl rfl rfl (Nat.le_of_ble_eq_true rfl) (Nat.le_of_ble_eq_true rfl) (fun v27 τ27 hq27 => ?_)
      refine PP.if_eq (tgt := 37) (by first | omega | exact EI_R hq27 | exact EI_R hq105 | exact EI_R hq144 | exact EI_R hq171 | exact EI_R hq198 | exact EI_R hq231 | (unfold R32; omega)) dX3_take_30 (by decide) (fun h30 => ?_) (fun h30 => ?_)
      · refine PP.iconst dX3_take_37 ?_
        refine PP.zret dX3_take_38 rfl (by first | decide | omega) ?_
        rcases hq27 with ⟨q1, q2, q3⟩ | ⟨q1, q2, q3⟩
        · first
            | omega
            | (subst q3
               exact ⟨_, rfl, fun k hk => by rw [up_ne (by omega), up_ne (by omega)], Or.inr ⟨rfl, _, Or.inl ⟨by omega, a, b, rfl, q2, rfl⟩, RdC_Sl hr hx q2⟩⟩)
        · first
            | omega
            | (subst q3
               refine ⟨_, rfl, fun k hk => rfl, Or.inl ⟨rfl, itS_n (fun _ a b e => ?_) (by omega) (by omega) (by omega) (by omega) (by omega)⟩⟩
               cases e; exact q2)
      · refine PP.iconst dX3_take_33 ?_
        refine PP.goto (tgt := 38) dX3_take_34 (by decide) ?_
        refine PP.zret dX3_take_38 rfl (by first | decide | omega) ?_
        rcases hq27 with ⟨q1, q2, q3⟩ | ⟨q1, q2, q3⟩
        · first
            | omega
            | (subst q3
               exact ⟨_, rfl, fun k hk => by rw [up_ne (by omega), up_ne (by omega)], Or.inr ⟨rfl, _, Or.inl ⟨by omega, a, b, rfl, q2, rfl⟩, RdC_Sl hr hx q2⟩⟩)
        · first
            | omega
            | (subst q3
               refine ⟨_, rfl, fun k hk => rfl, Or.inl ⟨rfl, itS_n (fun _ a b e => ?_) (by omega) (by omega) (by omega) (by omega) (by omega)⟩⟩
               cases e; exact q2)
