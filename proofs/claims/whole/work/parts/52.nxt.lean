/-! the next order, purely -/
def kS (l : List Nat) : Nat → Option Nat
  | 0 => none
  | c + 1 => if l.getD (c + 1) 0 < l.getD c 0 then kS l c else some c
def jS (l : List Nat) (v : Nat) : Nat → Nat
  | 0 => 0
  | c + 1 => if l.getD (c + 1) 0 < v then jS l v c else c + 1
def swP (l : List Nat) (k j i : Nat) : Nat := if i = j then l.getD k 0 else if i = k then l.getD j 0 else l.getD i 0
def nxV (l : List Nat) (k j i : Nat) : Nat := if k < i ∧ i < l.length then swP l k j (l.length + k - i) else swP l k j i
def nxL (l : List Nat) : Option (List Nat) := match kS l (l.length - 1) with
  | none => none
  | some k => some ((List.range l.length).map (nxV l k (jS l (l.getD k 0) (l.length - 1))))
def chn : List Nat → List (List Nat) → Prop
  | p, [] => nxL p = none
  | p, q :: R => nxL p = some q ∧ chn q R
theorem kS_cons {t : Nat} {p : List Nat} : ∀ c k, kS p c = some k → kS (t :: p) (c + 1) = some (k + 1)
  | 0, k, h => by cases h
  | c + 1, k, h => by
    rw [kS] at h
    rw [kS]
    show (if p.getD (c + 1) 0 < p.getD c 0 then kS (t :: p) (c + 1) else some (c + 1)) = _
    by_cases q : p.getD (c + 1) 0 < p.getD c 0
    · rw [if_pos q] at h ⊢; exact kS_cons c k h
    · rw [if_neg q] at h ⊢; cases h; rfl
theorem kS_lt {l : List Nat} : ∀ c k, kS l c = some k → k < c ∧ ¬ l.getD (k + 1) 0 < l.getD k 0
  | 0, k, h => by cases h
  | c + 1, k, h => by
    rw [kS] at h
    by_cases q : l.getD (c + 1) 0 < l.getD c 0
    · rw [if_pos q] at h
      have := kS_lt c k h
      exact ⟨by omega, this.2⟩
    · rw [if_neg q] at h; cases h; exact ⟨by omega, q⟩
theorem jS_cons {t : Nat} {p : List Nat} {v m : Nat} (hm : 1 ≤ m) (hv : ¬ p.getD m 0 < v) : ∀ c, m ≤ c → jS (t :: p) v (c + 1) = jS p v c + 1
  | 0, h => by omega
  | c + 1, h => by
    have e2 : jS p v (c + 1) = if p.getD (c + 1) 0 < v then jS p v c else c + 1 := rfl
    rw [jS, e2]
    show (if p.getD (c + 1) 0 < v then jS (t :: p) v (c + 1) else c + 1 + 1) = _
    by_cases q : p.getD (c + 1) 0 < v
    · rw [if_pos q, if_pos q]
      refine jS_cons hm hv c ?_
      rcases Nat.lt_or_ge m (c + 1) with h1 | h1
      · omega
      · have : m = c + 1 := by omega
        subst this
        exact absurd q hv
    · rw [if_neg q, if_neg q]
theorem swP_cons {t : Nat} {p : List Nat} {k j i : Nat} : swP (t :: p) (k + 1) (j + 1) (i + 1) = swP p k j i := by simp [swP]
theorem nxL_cons {t : Nat} {p q : List Nat} (h : nxL p = some q) : nxL (t :: p) = some (t :: q) := by
  unfold nxL at h
  cases hk : kS p (p.length - 1) with
  | none => rw [hk] at h; cases h
  | some k =>
    rw [hk] at h
    simp only [Option.some.injEq] at h
    have h1 := kS_lt _ _ hk
    have e : (t :: p).length - 1 = (p.length - 1) + 1 := by simp only [List.length_cons]; omega
    have hk2 := kS_cons (t := t) _ _ hk
    have hj := jS_cons (t := t) (p := p) (v := p.getD k 0) (m := k + 1) (by omega) h1.2 (p.length - 1) (by omega)
    unfold nxL
    rw [e, hk2]
    show some ((List.range (p.length + 1)).map (nxV (t :: p) (k + 1) (jS (t :: p) (p.getD k 0) (p.length - 1 + 1)))) = some (t :: q)
    rw [hj, List.range_succ_eq_map, List.map_cons, List.map_map, ← h]
    have e0 : nxV (t :: p) (k + 1) (jS p (p.getD k 0) (p.length - 1) + 1) 0 = t := by
      unfold nxV swP
      rw [if_neg (by omega), if_neg (by omega), if_neg (by omega)]
      rfl
    rw [e0]
    congr 2
    refine List.map_congr_left (fun i hi => ?_)
    have hi2 := List.mem_range.mp hi
    show nxV (t :: p) (k + 1) (jS p (p.getD k 0) (p.length - 1) + 1) (i + 1) = _
    unfold nxV
    rw [swP_cons]
    simp only [List.length_cons]
    by_cases c : k < i ∧ i < p.length
    · rw [if_pos (by omega), if_pos c, show p.length + 1 + (k + 1) - (i + 1) = (p.length + k - i) + 1 by omega, swP_cons]
    · rw [if_neg (by omega), if_neg c]
theorem chn_app {t : Nat} {S : List (List Nat)} : ∀ (R : List (List Nat)) (p : List Nat), chn p R → (∀ z, (p :: R).getLast? = some z → match S with
    | [] => nxL (t :: z) = none
    | s :: S' => nxL (t :: z) = some s ∧ chn s S') → chn (t :: p) (R.map (t :: ·) ++ S)
  | [], p, h, hz => by
    have := hz p rfl
    cases S with
    | nil => exact this
    | cons s S' => exact this
  | q :: R, p, h, hz => by
    refine ⟨nxL_cons h.1, chn_app R q h.2 (fun z h2 => hz z ?_)⟩
    rw [List.getLast?_cons_cons]; exact h2
def mns (lf : Nat → Bool) (t : Nat) : Nat → Bool := fun u => lf u && !decide (u = t)
def dsc (lf : Nat → Bool) : List Nat := (List.range 7).reverse.filter lf
theorem bd_1 : ∀ m : Fin 128, ∀ t : Fin 7, m.val.testBit t.val = true → (∀ u : Fin 7, t.val < u.val → m.val.testBit u.val = false) → nxL (t.val :: dsc (mns (fun u => m.val.testBit u) t.val)) = none ∧ t.val :: dsc (mns (fun u => m.val.testBit u) t.val) = dsc (fun u => m.val.testBit u) := by decide +kernel
theorem bd_2 : ∀ m : Fin 128, ∀ t u : Fin 7, m.val.testBit t.val = true → m.val.testBit u.val = true → t.val < u.val → (∀ v : Fin 7, t.val < v.val → v.val < u.val → m.val.testBit v.val = false) → nxL (t.val :: dsc (mns (fun u => m.val.testBit u) t.val)) = some (u.val :: asc (mns (fun u => m.val.testBit u) u.val)) := by decide +kernel
theorem dsc_cong {lf lg : Nat → Bool} (h : ∀ u, u < 7 → lf u = lg u) : dsc lf = dsc lg := by
  unfold dsc
  exact List.filter_congr (fun u hu => h u (List.mem_range.mp (List.mem_reverse.mp hu)))
theorem mns_cong {lf lg : Nat → Bool} (h : ∀ u, u < 7 → lf u = lg u) (t : Nat) : ∀ u, u < 7 → mns lf t u = mns lg t u := fun u hu => by unfold mns; rw [h u hu]
theorem bd1 {lf : Nat → Bool} {t : Nat} (ht : t < 7) (h1 : lf t = true) (h2 : ∀ u, t < u → u < 7 → lf u = false) : nxL (t :: dsc (mns lf t)) = none ∧ t :: dsc (mns lf t) = dsc lf := by
  have e : ∀ u, u < 7 → lf u = (msk lf 7).testBit u := fun u hu => (msk_bit hu).symm
  rw [dsc_cong (mns_cong e t), dsc_cong e]
  exact bd_1 ⟨msk lf 7, msk_lt lf 7⟩ ⟨t, ht⟩ (by rw [← e t ht]; exact h1) (fun u hu => by rw [← e u.val u.isLt]; exact h2 u.val hu u.isLt)
theorem bd2 {lf : Nat → Bool} {t u : Nat} (ht : t < 7) (hu : u < 7) (h1 : lf t = true) (h2 : lf u = true) (h3 : t < u) (h4 : ∀ v, t < v → v < u → lf v = false) : nxL (t :: dsc (mns lf t)) = some (u :: asc (mns lf u)) := by
  have e : ∀ u, u < 7 → lf u = (msk lf 7).testBit u := fun u hu => (msk_bit hu).symm
  rw [dsc_cong (mns_cong e t), asc_cong (mns_cong e u)]
  exact bd_2 ⟨msk lf 7, msk_lt lf 7⟩ ⟨t, ht⟩ ⟨u, hu⟩ (by rw [← e t ht]; exact h1) (by rw [← e u hu]; exact h2) h3 (fun v hv1 hv2 => by rw [← e v.val v.isLt]; exact h4 v.val hv1 hv2)
def sfx (k : Nat) (lf : Nat → Bool) (t : Nat) : List (List Nat) := ((List.range 7).drop t).flatMap fun t => if lf t then (prm k (mns lf t)).map (t :: ·) else []
theorem dr7 : ∀ t, t < 7 → (List.range 7).drop t = t :: (List.range 7).drop (t + 1) := by decide
theorem sfx_s {k : Nat} {lf : Nat → Bool} {t : Nat} (ht : t < 7) : sfx k lf t = (if lf t then (prm k (mns lf t)).map (t :: ·) else []) ++ sfx k lf (t + 1) := by
  unfold sfx
  rw [dr7 t ht, List.flatMap_cons]
theorem chn_prm : ∀ (k : Nat) (lf : Nat → Bool), cnt lf 7 = k → ∃ R, prm k lf = asc lf :: R ∧ chn (asc lf) R ∧ (asc lf :: R).getLast? = some (dsc lf)
  | 0, lf, hk => by
    have h0 : ∀ u, u < 7 → lf u = (fun _ => false) u := fun u hu => by
      cases h : lf u with
      | false => rfl
      | true =>
        exfalso
        have : cnt lf 7 = cnt lf 7 := rfl
        have hm : ∀ n, u < n → 0 < cnt lf n := by
          intro n
          induction n with
          | zero => intro h; omega
          | succ n ih =>
            intro h1
            simp only [cnt]
            by_cases e : u = n
            · subst e; rw [if_pos h]; omega
            · have := ih (by omega); omega
        have := hm 7 hu
        omega
    rw [asc_cong h0, dsc_cong h0]
    exact ⟨[], rfl, rfl, rfl⟩
  | k + 1, lf, hk => by
    have Z : ∀ t, t ≤ 7 → ((sfx k lf t = [] ∧ ∀ u, t ≤ u → u < 7 → lf u = false) ∨ (∃ u R, t ≤ u ∧ u < 7 ∧ lf u = true ∧ (∀ v, t ≤ v → v < u → lf v = false) ∧ sfx k lf t = (u :: asc (mns lf u)) :: R ∧ chn (u :: asc (mns lf u)) R ∧ ((u :: asc (mns lf u)) :: R).getLast? = some (dsc lf))) := by
      refine loop_dn 7 ?_ ?_
      · exact Or.inl ⟨rfl, fun u h1 h2 => by omega⟩
      · intro t ht ih
        rw [sfx_s ht]
        cases hl : lf t with
        | false =>
          rcases ih with ⟨i1, i2⟩ | ⟨u, R, i1, i2, i3, i4, i5⟩
          · exact Or.inl ⟨by rw [i1]; rfl, fun u h1 h2 => by
              by_cases e : u = t
              · subst e; exact hl
              · exact i2 u (by omega) h2⟩
          · exact Or.inr ⟨u, R, by omega, i2, i3, fun v h1 h2 => by
              by_cases e : v = t
              · subst e; exact hl
              · exact i4 v (by omega) h2, by rw [i5.1]; rfl, i5.2⟩
        | true =>
          have hc : cnt (mns lf t) 7 = k := by
            have h1 : msk lf 7 < 128 := msk_lt lf 7
            have e : ∀ u, u < 7 → lf u = (msk lf 7).testBit u := fun u hu => (msk_bit hu).symm
            have key : ∀ m : Fin 128, ∀ t : Fin 7, m.val.testBit t.val = true → cnt (mns (fun u => m.val.testBit u) t.val) 7 + 1 = cnt (fun u => m.val.testBit u) 7 := by decide +kernel
            have e1 : cnt (mns lf t) 7 = cnt (mns (fun u => (msk lf 7).testBit u) t) 7 := cnt_cong (mns_cong e t)
            have e2 : cnt lf 7 = cnt (fun u => (msk lf 7).testBit u) 7 := cnt_cong e
            have e3 : cnt (mns (fun u => (msk lf 7).testBit u) t) 7 + 1 = cnt (fun u => (msk lf 7).testBit u) 7 := key ⟨msk lf 7, h1⟩ ⟨t, ht⟩ (by rw [← e t ht]; exact hl)
            omega
          obtain ⟨R0, r1, r2, r3⟩ := chn_prm k (mns lf t) hc
          right
          refine ⟨t, R0.map (t :: ·) ++ sfx k lf (t + 1), Nat.le_refl _, ht, hl, fun v h1 h2 => by omega, by rw [r1]; rfl, chn_app R0 _ r2 (fun z hz => ?_), ?_⟩
          · rw [r3] at hz
            cases hz
            rcases ih with ⟨i1, i2⟩ | ⟨u, R, i1, i2, i3, i4, i5, i6, i7⟩
            · rw [i1]; exact (bd1 ht hl (fun u h1 h2 => i2 u (by omega) h2)).1
            · rw [i5]; exact ⟨bd2 ht i2 hl i3 (by omega) (fun v h1 h2 => i4 v (by omega) h2), i6⟩
          · rcases ih with ⟨i1, i2⟩ | ⟨u, R, i1, i2, i3, i4, i5, i6, i7⟩
            · rw [i1, List.append_nil]
              have hm : ((t :: asc (mns lf t)) :: R0.map (t :: ·)) = (asc (mns lf t) :: R0).map (t :: ·) := rfl
              rw [hm, List.getLast?_map, r3]
              show some (t :: dsc (mns lf t)) = _
              rw [(bd1 ht hl (fun u h1 h2 => i2 u (by omega) h2)).2]
            · rw [i5]
              rw [← List.cons_append, List.getLast?_append, i7]
              rfl
    obtain ⟨R, hR⟩ := prm_head (lf := lf) hk
    have e : prm (k + 1) lf = sfx k lf 0 := rfl
    rcases Z 0 (by omega) with ⟨z1, -⟩ | ⟨u, R1, z1, z2, z3, z4, z5, z6, z7⟩
    · rw [e, z1] at hR; cases hR
    · rw [e, z5] at hR
      obtain ⟨h1, h2⟩ := List.cons.inj hR
      exact ⟨R1, by rw [e, z5, h1], h1 ▸ z6, h1 ▸ z7⟩
