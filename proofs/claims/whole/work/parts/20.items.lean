/-! items of a text -/
abbrev RS : Type := (Nat → Int) × Nat × (Nat → Int) × Bool
def thT (T : Nat → Int) (n : Nat) (k w h d : Int) : Nat → Int := uf (uf (uf (uf (uf T (4 + n) k) (11 + n) w) (18 + n) h) (25 + n) d) 3 ((n : Int) + 1)
def cSl (x : RS) (a b : Int) : Prop := x.2.2.2 = true ∧ 3 ≤ a ∧ a ≤ 14 ∧ b < a
def cTh (x : RS) (k w h d : Int) : Prop := x.2.1 < 7 ∧ k ≤ 3 ∧ (1 ≤ w ∧ w ≤ 4) ∧ (1 ≤ h ∧ h ≤ 9) ∧ (1 ≤ d ∧ d ≤ 9)
def cPl (x : RS) (t s f : Int) : Prop := t < x.2.1 ∧ f ≤ 1 ∧ x.2.2.1 (2 + t.toNat) < 0 ∧ fitS x.1 x.2.1 (fun u => x.2.2.1 (2 + u)) t.toNat s = true
theorem cSl_d (x : RS) (a b : Int) : cSl x a b ∨ ¬ cSl x a b := Classical.em _
def itSl (x : RS) (a b : Int) : RS := (uf (uf x.1 0 a) 1 b, x.2.1, x.2.2.1, true)
def itTh (x : RS) (k w h d : Int) : RS := (thT x.1 x.2.1 k w h d, x.2.1 + 1, x.2.2.1, false)
def itPl (x : RS) (t s f : Int) : RS := (x.1, x.2.1, uf (uf x.2.2.1 (2 + t.toNat) s) (9 + t.toNat) f, false)
def itAr (x : RS) (a : Int) : RS := (uf x.1 2 a, x.2.1, x.2.2.1, false)
def itWa (x : RS) (a : Int) : RS := (x.1, x.2.1, uf x.2.2.1 0 a, false)
def itCo (x : RS) (h c : Int) : RS := (uf x.1 (32 + h.toNat) c, x.2.1, x.2.2.1, false)
/-- the item (letter c, numbers ns) takes x to y -/
def itS (c : Int) (ns : List Int) (x y : RS) : Prop :=
  (c = 110 ∧ ∃ a b, ns = [a, b] ∧ cSl x a b ∧ y = itSl x a b) ∨
  (c = 116 ∧ ∃ k w h d, ns = [k, w, h, d] ∧ cTh x k w h d ∧ y = itTh x k w h d) ∨
  (c = 112 ∧ ∃ t s f, ns = [t, s, f] ∧ cPl x t s f ∧ y = itPl x t s f) ∨
  (c = 97 ∧ ∃ a, ns = [a] ∧ (1 ≤ a ∧ a ≤ 9) ∧ y = itAr x a) ∨
  (c = 119 ∧ ∃ a, ns = [a] ∧ (1 ≤ a ∧ a ≤ 9) ∧ y = itWa x a) ∨
  (c = 99 ∧ ∃ h a, ns = [h, a] ∧ (h ≤ 23 ∧ 1 ≤ a) ∧ y = itCo x h a)
def wfS (x : RS) : Prop := wfT x.1 x.2.1 ∧ wfP x.1 x.2.1 (fun t => x.2.2.1 (2 + t)) (fun t => x.2.2.1 (9 + t)) ∧ (1 ≤ x.2.2.1 0 ∧ x.2.2.1 0 ≤ 9) ∧ x.2.2.1 1 = 0 ∧ (x.2.2.2 = true → x.2.1 = 0)
theorem wfS_it {c : Int} {ns : List Int} {x y : RS} (h : itS c ns x y) (hx : wfS x) (hn : ∀ z ∈ ns, 0 ≤ z ∧ z ≤ 99) : wfS y := by
  obtain ⟨hT, hP, hw, h1, ho⟩ := hx
  obtain ⟨t3, t7, t0, t1, t2, tt, tc⟩ := hT
  rcases h with ⟨-, a, b, rfl, ⟨h1', h2, h3, h4⟩, rfl⟩ | ⟨-, k, w, h, d, rfl, ⟨h2, h3, h4, h5, h6⟩, rfl⟩ | ⟨-, t, s, f, rfl, ⟨h2, h3, h4, h5⟩, rfl⟩ | ⟨-, a, rfl, h2, rfl⟩ | ⟨-, a, rfl, h2, rfl⟩ | ⟨-, h, a, rfl, h2, rfl⟩
  · have n0 := ho h1'
    have hb := hn b (by simp)
    refine ⟨⟨by simp [itSl, uf]; exact t3, t7, by simp [itSl, uf]; omega, by simp [itSl, uf]; omega, by simp [itSl, uf]; omega, fun t ht => ?_, fun h hh => ?_⟩, ⟨fun t ht => ?_, fun t ht ht7 => ?_⟩, hw, h1, fun _ => n0⟩
    · simp [itSl] at ht; omega
    · simp only [itSl]; rw [uf_ne (by omega), uf_ne (by omega)]; exact tc h hh
    · simp [itSl] at ht; omega
    · exact hP.2 t (by omega) ht7
  · have hk := hn k (by simp)
    have eT : ∀ j, j ≠ 3 → j ≠ 4 + x.2.1 → j ≠ 11 + x.2.1 → j ≠ 18 + x.2.1 → j ≠ 25 + x.2.1 → thT x.1 x.2.1 k w h d j = x.1 j := fun j a b c d e => by
      unfold thT; rw [uf_ne a, uf_ne e, uf_ne d, uf_ne c, uf_ne b]
    refine ⟨⟨?_, ?_, ?_, ?_, ?_, fun t ht => ?_, fun h hh => ?_⟩, ⟨fun t ht => ?_, fun t ht ht7 => ?_⟩, hw, h1, fun h => by cases h⟩
    · simp only [itTh, thT, uf_at]; omega
    · simp only [itTh]; omega
    · simp only [itTh]; rw [eT _ (by omega) (by omega) (by omega) (by omega) (by omega)]; exact t0
    · simp only [itTh]; rw [eT _ (by omega) (by omega) (by omega) (by omega) (by omega), eT _ (by omega) (by omega) (by omega) (by omega) (by omega)]; exact t1
    · simp only [itTh]; rw [eT _ (by omega) (by omega) (by omega) (by omega) (by omega)]; exact t2
    · simp only [itTh] at ht ⊢
      by_cases e : t = x.2.1
      · subst e
        unfold thT
        refine ⟨?_, ?_, ?_, ?_⟩
        · rw [uf_ne (by omega), uf_ne (by omega), uf_ne (by omega), uf_ne (by omega), uf_at]; omega
        · rw [uf_ne (by omega), uf_ne (by omega), uf_ne (by omega), uf_at]; omega
        · rw [uf_ne (by omega), uf_ne (by omega), uf_at]; omega
        · rw [uf_ne (by omega), uf_at]; omega
      · rw [eT _ (by omega) (by omega) (by omega) (by omega) (by omega), eT _ (by omega) (by omega) (by omega) (by omega) (by omega), eT _ (by omega) (by omega) (by omega) (by omega) (by omega), eT _ (by omega) (by omega) (by omega) (by omega) (by omega)]
        exact tt t (by omega)
    · simp only [itTh]; rw [eT _ (by omega) (by omega) (by omega) (by omega) (by omega)]; exact tc h hh
    · simp only [itTh] at ht ⊢
      by_cases e : t = x.2.1
      · subst e
        exact Or.inl (hP.2 _ (by omega) (by omega))
      · rw [eT _ (by omega) (by omega) (by omega) (by omega) (by omega), eT _ (by omega) (by omega) (by omega) (by omega) (by omega)]
        exact hP.1 t (by omega)
    · simp only [itTh] at ht ⊢
      exact hP.2 t (by omega) ht7
  · have ht0 := hn t (by simp)
    have hs0 := hn s (by simp)
    have hf0 := hn f (by simp)
    obtain ⟨j, rfl⟩ : ∃ j : Nat, t = (j : Int) := ⟨t.toNat, by omega⟩
    have hj : j < x.2.1 := by omega
    have h6 := (fitS_t.mp h5).1
    rw [Int.toNat_natCast] at h4 h6
    refine ⟨⟨t3, t7, t0, t1, t2, tt, tc⟩, ⟨fun t ht => ?_, fun t ht ht7 => ?_⟩, ?_, ?_, fun h => by cases h⟩
    · simp only [itPl, Int.toNat_natCast] at ht ⊢
      by_cases e : t = j
      · subst e
        rw [uf_ne (by omega), uf_at, uf_at]
        exact Or.inr ⟨hs0.1, h6, by omega⟩
      · rw [uf_ne (by omega), uf_ne (by omega), uf_ne (by omega), uf_ne (by omega)]
        exact hP.1 t ht
    · simp only [itPl, Int.toNat_natCast] at ht ⊢
      rw [uf_ne (by omega), uf_ne (by omega), uf_ne (by omega), uf_ne (by omega)]
      exact hP.2 t ht ht7
    · simp only [itPl, Int.toNat_natCast]; rw [uf_ne (by omega), uf_ne (by omega)]; exact hw
    · simp only [itPl, Int.toNat_natCast]; rw [uf_ne (by omega), uf_ne (by omega)]; exact h1
  · refine ⟨⟨by simp [itAr, uf]; exact t3, t7, by simp [itAr, uf]; omega, by simp [itAr, uf]; omega, by simp [itAr, uf]; omega, fun t ht => ?_, fun h hh => ?_⟩, ⟨fun t ht => ?_, fun t ht ht7 => hP.2 t ht ht7⟩, hw, h1, fun h => by cases h⟩
    · simp only [itAr] at ht ⊢; rw [uf_ne (by omega), uf_ne (by omega), uf_ne (by omega), uf_ne (by omega)]; exact tt t ht
    · simp only [itAr]; rw [uf_ne (by omega)]; exact tc h hh
    · simp only [itAr] at ht ⊢; rw [uf_ne (by omega), uf_ne (by omega)]; exact hP.1 t ht
  · refine ⟨⟨t3, t7, t0, t1, t2, tt, tc⟩, ⟨fun t ht => ?_, fun t ht ht7 => ?_⟩, ?_, ?_, fun h => by cases h⟩
    · simp only [itWa] at ht ⊢; rw [uf_ne (by omega), uf_ne (by omega)]; exact hP.1 t ht
    · simp only [itWa] at ht ⊢; rw [uf_ne (by omega), uf_ne (by omega)]; exact hP.2 t ht ht7
    · simp only [itWa, uf_at]; exact h2
    · simp only [itWa]; rw [uf_ne (by omega)]; exact h1
  · have hh0 := hn h (by simp)
    have ha0 := hn a (by simp)
    obtain ⟨j, rfl⟩ : ∃ j : Nat, h = (j : Int) := ⟨h.toNat, by omega⟩
    refine ⟨⟨?_, t7, ?_, ?_, ?_, fun t ht => ?_, fun h hh => ?_⟩, ⟨fun t ht => ?_, fun t ht ht7 => hP.2 t ht ht7⟩, hw, h1, fun h => by cases h⟩
    · simp only [itCo, Int.toNat_natCast]; rw [uf_ne (by omega)]; exact t3
    · simp only [itCo, Int.toNat_natCast]; rw [uf_ne (by omega)]; exact t0
    · simp only [itCo, Int.toNat_natCast]; rw [uf_ne (by omega), uf_ne (by omega)]; exact t1
    · simp only [itCo, Int.toNat_natCast]; rw [uf_ne (by omega)]; exact t2
    · simp only [itCo, Int.toNat_natCast] at ht ⊢; rw [uf_ne (by omega), uf_ne (by omega), uf_ne (by omega), uf_ne (by omega)]; exact tt t ht
    · simp only [itCo, Int.toNat_natCast]
      by_cases e : h = j
      · subst e; rw [uf_at]; omega
      · rw [uf_ne (by omega)]; exact tc h hh
    · simp only [itCo, Int.toNat_natCast] at ht ⊢; rw [uf_ne (by omega), uf_ne (by omega)]; exact hP.1 t ht
