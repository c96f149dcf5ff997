/-! orders: what an order gives, bounds, all orders by who is first -/
/-- a rack as it is filled: the next slot, where, how -/
abbrev FS : Type := Int × (Nat → Int) × (Nat → Int)
def plF (T : Nat → Int) (t : Nat) (s : Int) : Int := if s + T (11 + t) - 1 < T 1 then 1 else 0
def pl1 (T : Nat → Int) (x : FS) (t : Nat) : FS := if x.1 + T (11 + t) ≤ T 0 then (x.1 + T (11 + t), uf x.2.1 t x.1, uf x.2.2 t (plF T t x.1)) else x
def plE : FS := (0, fun _ => -4, fun _ => -4)
def plL (T : Nat → Int) (l : List Nat) : FS := l.foldl (pl1 T) plE
def clN (T : Nat → Int) (n : Nat) (w : Int) (x : FS) : Nat := cnt (clS T n x.2.1 x.2.2 w) n
/-- how many come clean by the order l -/
def rcl (T : Nat → Int) (n : Nat) (w : Int) (l : List Nat) : Nat := clN T n w (plL T l)
def hpS (T : Nat → Int) (w : Int) (t : Nat) : Bool := decide (T (25 + t) ≤ w) && !kstS T t
theorem cnt_mono {p q : Nat → Bool} : ∀ {n : Nat}, (∀ u, u < n → p u = true → q u = true) → cnt p n ≤ cnt q n
  | 0, _ => Nat.le_refl _
  | n + 1, h => by
    have := cnt_mono (n := n) (fun u hu => h u (by omega))
    simp only [cnt]
    by_cases hp : p n = true
    · rw [if_pos hp, if_pos (h n (by omega) hp)]; omega
    · rw [if_neg hp]; omega
theorem anyB_mono {p q : Nat → Bool} {n : Nat} (h : ∀ u, u < n → p u = true → q u = true) (hp : anyB p n = true) : anyB q n = true := by
  obtain ⟨u, hu, h1⟩ := anyB_t.mp hp
  exact anyB_t.mpr ⟨u, hu, h u hu h1⟩
theorem sdS_uf {T P : Nat → Int} {t u : Nat} {s : Int} (h : u ≠ t) : sdS T (uf P t s) u = sdS T P u := by simp [sdS, uf_ne h]
/-- what is put in beside makes nothing clean that was not -/
theorem clS_mono {T : Nat → Int} {n : Nat} {P F : Nat → Int} {w : Int} {t u : Nat} {s f : Int} (hut : u ≠ t) (ht : P t < 0) (h : clS T n (uf P t s) (uf F t f) w u = true) : clS T n P F w u = true := by
  have e1 : uf P t s u = P u := uf_ne hut
  have e2 : uf F t f u = F u := uf_ne hut
  have e3 : sdS T (uf P t s) u = sdS T P u := sdS_uf hut
  have elk : lkS T (uf P t s) (uf F t f) u = lkS T P F u := by simp only [lkS, e3, e2]
  have ene : neS T (uf P t s) (uf F t f) u = neS T P F u := by simp only [neS, elk]
  have hbt : ∀ v, btS T P u v = true → btS T (uf P t s) u v = true := by
    intro v hv
    by_cases hvt : v = t
    · subst hvt
      rw [btS_t] at hv
      omega
    · have : btS T (uf P t s) u v = btS T P u v := by simp only [btS, e1, e3, sdS_uf hvt, uf_ne hvt]
      rw [this]; exact hv
  have hsc : scS T n P u ≤ scS T n (uf P t s) u := by
    unfold scS
    refine cnt_mono (fun v _ hv => ?_)
    rw [Bool.and_eq_true] at hv ⊢
    exact ⟨hbt v hv.1, hv.2⟩
  have hsh : shS T n P u ≤ shS T n (uf P t s) u := by
    unfold shS
    split <;> omega
  have htc : tcS T n P u = true → tcS T n (uf P t s) u = true := by
    unfold tcS
    refine anyB_mono (fun v _ hv => ?_)
    simp only [Bool.and_eq_true, decide_eq_true_eq] at hv
    have hvt : v ≠ t := fun e => by subst e; omega
    simp only [uf_ne hvt, e1, Bool.and_eq_true, decide_eq_true_eq]
    exact hv
  have hsk : skS T n P u = true → skS T n (uf P t s) u = true := by
    unfold skS
    refine anyB_mono (fun v _ hv => ?_)
    have hvt : v ≠ t := fun e => by
      subst e
      simp only [stS, Bool.and_eq_true, decide_eq_true_eq] at hv
      omega
    simp only [stS, uf_ne hvt, e3, sdS_uf hvt] at hv ⊢
    exact hv
  simp only [clS, Bool.and_eq_true, decide_eq_true_eq, Bool.not_eq_true', Bool.or_eq_false_iff, Bool.and_eq_false_iff] at h ⊢
  rw [e1, ene, elk] at h
  obtain ⟨⟨⟨h1, h2⟩, h3, h4⟩, h5⟩ := h
  refine ⟨⟨⟨h1, by omega⟩, h3, ?_⟩, ?_⟩
  · rcases h4 with h4 | h4
    · exact Or.inl h4
    · refine Or.inr (Bool.eq_false_iff.mpr (fun q => ?_))
      rw [htc q] at h4; cases h4
  · refine Bool.eq_false_iff.mpr (fun q => ?_)
    rw [hsk q] at h5; cases h5
theorem clS_hp {T : Nat → Int} {n : Nat} {P F : Nat → Int} {w : Int} {t : Nat} (ht : t < n) (h : clS T n P F w t = true) : hpS T w t = true := by
  simp only [clS, Bool.and_eq_true, decide_eq_true_eq, Bool.not_eq_true'] at h
  obtain ⟨⟨⟨h1, h2⟩, -⟩, h5⟩ := h
  have h6 := anyB_f.mp h5 t ht
  simp only [stS, Bool.and_eq_false_iff, decide_true, Bool.true_or] at h6
  simp only [hpS, Bool.and_eq_true, decide_eq_true_eq, Bool.not_eq_true']
  constructor
  · unfold neS at h2
    split at h2 <;> omega
  · rcases h6 with (h6 | h6) | h6
    · exact h6
    · simp at h6; omega
    · cases h6
theorem cnt_add1 {p q : Nat → Bool} {t : Nat} {b : Bool} : ∀ {n : Nat}, (∀ u, u < n → u ≠ t → p u = true → q u = true) → q t = false → (p t = true → b = true) → cnt p n ≤ cnt q n + (if b then 1 else 0)
  | 0, _, _, _ => by simp [cnt]
  | n + 1, h, hq, hp => by
    have ih := cnt_add1 (n := n) (fun u hu => h u (by omega)) hq hp
    simp only [cnt]
    by_cases e : n = t
    · subst e
      have hm : cnt p n ≤ cnt q n := cnt_mono (fun u hu hpu => h u (by omega) (by omega) hpu)
      rw [hq]
      by_cases hpn : p n = true
      · rw [hp hpn]; simp [hpn]; exact hm
      · simp [hpn]; omega
    · by_cases hpn : p n = true
      · rw [if_pos hpn, if_pos (h n (by omega) e hpn)]; omega
      · rw [if_neg hpn]; omega
theorem clN_put {T : Nat → Int} {n : Nat} {w : Int} {x : FS} {t : Nat} (ht : t < n) (hx : x.2.1 t < 0) : clN T n w (pl1 T x t) ≤ clN T n w x + (if (decide (x.1 + T (11 + t) ≤ T 0) && hpS T w t) then 1 else 0) := by
  unfold clN pl1
  by_cases hf : x.1 + T (11 + t) ≤ T 0
  · rw [if_pos hf]
    simp only [hf, decide_true, Bool.true_and]
    exact cnt_add1 (fun u _ hut h => clS_mono hut hx h) (clS_0 hx) (fun h => clS_hp ht h)
  · rw [if_neg hf]; omega
/-- the orders of those that lf names, by who is first -/
def prm : Nat → (Nat → Bool) → List (List Nat)
  | 0, _ => [[]]
  | k + 1, lf => (List.range 7).flatMap fun t => if lf t then (prm k (fun u => lf u && !decide (u = t))).map (t :: ·) else []
def lsm (g : Nat → Bool) (l : List Nat) : Nat := (l.map fun u => if g u then 1 else 0).sum
theorem cnt_del {p : Nat → Bool} {t : Nat} : ∀ {n : Nat}, t < n → p t = true → cnt p n = cnt (fun u => p u && !decide (u = t)) n + 1
  | 0, h, _ => by omega
  | n + 1, h, hp => by
    simp only [cnt]
    by_cases e : n = t
    · subst e
      have : cnt (fun u => p u && !decide (u = n)) n = cnt p n := cnt_cong (fun u hu => by simp; omega)
      rw [this]
      simp [hp]
    · rw [cnt_del (n := n) (by omega) hp]
      simp [e]
      omega
theorem prm_mem {k : Nat} : ∀ {lf : Nat → Bool} {l : List Nat}, l ∈ prm k lf → cnt lf 7 = k → (∀ u ∈ l, lf u = true ∧ u < 7) ∧ l.Nodup ∧ l.length = k ∧ ∀ g : Nat → Bool, lsm g l = cnt (fun u => lf u && g u) 7 := by
  induction k with
  | zero =>
    intro lf l hl hc
    simp only [prm, List.mem_singleton] at hl
    subst hl
    refine ⟨by simp, by simp, rfl, fun g => ?_⟩
    have : cnt (fun u => lf u && g u) 7 ≤ cnt lf 7 := cnt_mono (fun u _ h => by rw [Bool.and_eq_true] at h; exact h.1)
    simp [lsm]; omega
  | succ k ih =>
    intro lf l hl hc
    simp only [prm, List.mem_flatMap, List.mem_range] at hl
    obtain ⟨t, ht, hl⟩ := hl
    by_cases hf : lf t = true
    · rw [if_pos hf] at hl
      obtain ⟨l', hl', rfl⟩ := List.mem_map.mp hl
      have hd := cnt_del ht hf
      obtain ⟨a1, a2, a3, a4⟩ := ih hl' (by omega)
      refine ⟨fun u hu => ?_, ?_, by simp [a3], fun g => ?_⟩
      · rcases List.mem_cons.mp hu with rfl | hu
        · exact ⟨hf, ht⟩
        · have := a1 u hu
          rw [Bool.and_eq_true] at this
          exact ⟨this.1.1, this.2⟩
      · refine List.nodup_cons.mpr ⟨fun hm => ?_, a2⟩
        have := (a1 t hm).1
        simp at this
      · have e := a4 g
        simp only [lsm, List.map_cons, List.sum_cons] at e ⊢
        rw [e]
        cases hg : g t with
        | true =>
          have hd2 := cnt_del (p := fun u => lf u && g u) ht (by simp [hf, hg])
          rw [hd2]
          have : cnt (fun u => (lf u && g u) && !decide (u = t)) 7 = cnt (fun u => (lf u && !decide (u = t)) && g u) 7 := cnt_cong (fun u _ => by cases lf u <;> cases g u <;> simp)
          rw [this]; simp; omega
        | false =>
          have : cnt (fun u => lf u && g u) 7 = cnt (fun u => (lf u && !decide (u = t)) && g u) 7 := cnt_cong (fun u _ => by
            by_cases e : u = t
            · subst e; simp [hg]
            · simp [e])
          rw [this]; simp
    · rw [if_neg hf] at hl; cases hl
theorem pl1_P {T : Nat → Int} {x : FS} {t u : Nat} (h : u ≠ t) : (pl1 T x t).2.1 u = x.2.1 u := by
  unfold pl1; split
  · exact uf_ne h
  · rfl
theorem pl1_s {T : Nat → Int} {x : FS} {t : Nat} (hW : 0 ≤ T (11 + t)) : x.1 ≤ (pl1 T x t).1 := by
  unfold pl1; split
  · show x.1 ≤ x.1 + T (11 + t); omega
  · exact Int.le_refl _
/-- no order goes beyond what is clean and what may yet be -/
theorem rcl_le {T : Nat → Int} {n : Nat} {w : Int} (hW : ∀ t, t < n → 0 ≤ T (11 + t)) : ∀ (l : List Nat) (x : FS), (∀ u ∈ l, u < n ∧ x.2.1 u < 0) → l.Nodup → clN T n w (l.foldl (pl1 T) x) ≤ clN T n w x + lsm (fun u => decide (x.1 + T (11 + u) ≤ T 0) && hpS T w u) l
  | [], x, _, _ => by simp [lsm]
  | t :: l, x, h, hd => by
    obtain ⟨hd1, hd2⟩ := List.nodup_cons.mp hd
    have h1 := h t (by simp)
    have hq : ∀ u ∈ l, u < n ∧ (pl1 T x t).2.1 u < 0 := by
      intro u hu
      have hne : u ≠ t := fun e => hd1 (by rw [← e]; exact hu)
      rw [pl1_P hne]
      exact h u (by simp [hu])
    have ih := rcl_le (w := w) hW l (pl1 T x t) hq hd2
    have hp := clN_put (T := T) (w := w) (x := x) h1.1 h1.2
    have hs := pl1_s (T := T) (x := x) (t := t) (hW t h1.1)
    have hm : lsm (fun u => decide ((pl1 T x t).1 + T (11 + u) ≤ T 0) && hpS T w u) l ≤ lsm (fun u => decide (x.1 + T (11 + u) ≤ T 0) && hpS T w u) l := by
      unfold lsm
      clear ih hd hd1 hd2 h hq
      induction l with
      | nil => simp
      | cons u l ih =>
        simp only [List.map_cons, List.sum_cons]
        have : (if (decide ((pl1 T x t).1 + T (11 + u) ≤ T 0) && hpS T w u) = true then 1 else 0) ≤ (if (decide (x.1 + T (11 + u) ≤ T 0) && hpS T w u) = true then 1 else 0) := by
          by_cases c : x.1 + T (11 + u) ≤ T 0
          · rw [decide_eq_true c]
            split <;> split <;> simp_all
          · rw [decide_eq_false c, decide_eq_false (by omega)]
            simp
        exact Nat.add_le_add this ih
    simp only [List.foldl_cons]
    simp only [lsm, List.map_cons, List.sum_cons] at hm ih ⊢
    omega
/-- the first of the best -/
def bst (f : List Nat → Nat) (a : Int × List Nat) (L : List (List Nat)) : Int × List Nat := L.foldl (fun a l => if a.1 < (f l : Int) then ((f l : Int), l) else a) a
theorem bst_app {f : List Nat → Nat} {a : Int × List Nat} {L M : List (List Nat)} : bst f a (L ++ M) = bst f (bst f a L) M := List.foldl_append
theorem bst_no {f : List Nat → Nat} : ∀ {L : List (List Nat)} {a : Int × List Nat}, (∀ l ∈ L, (f l : Int) ≤ a.1) → bst f a L = a
  | [], a, _ => rfl
  | l :: L, a, h => by
    have h1 := h l (by simp)
    show bst f (if a.1 < (f l : Int) then ((f l : Int), l) else a) L = a
    rw [if_neg (by omega)]
    exact bst_no (fun l hl => h l (by simp [hl]))
theorem bst_same {f : List Nat → Nat} {l : List Nat} {L : List (List Nat)} {a : Int × List Nat} {v : Nat} (h : ∀ m ∈ l :: L, f m = v) (ha : a.1 < (v : Int)) : bst f a (l :: L) = ((v : Int), l) := by
  show bst f (if a.1 < (f l : Int) then ((f l : Int), l) else a) L = _
  rw [h l (by simp), if_pos ha]
  exact bst_no (fun m hm => by rw [h m (by simp [hm])]; exact Int.le_refl _)
/-- those that lf names, by number -/
def asc (lf : Nat → Bool) : List Nat := (List.range 7).filter lf

theorem fm_cong {α β : Type} {f g : α → List β} : ∀ {l : List α}, (∀ a ∈ l, f a = g a) → l.flatMap f = l.flatMap g
  | [], _ => rfl
  | a :: l, h => by rw [List.flatMap_cons, List.flatMap_cons, h a (by simp), fm_cong (fun b hb => h b (by simp [hb]))]
theorem prm_cong {k : Nat} : ∀ {lf lg : Nat → Bool}, (∀ u, u < 7 → lf u = lg u) → prm k lf = prm k lg := by
  induction k with
  | zero => intro lf lg h; rfl
  | succ k ih =>
    intro lf lg h
    simp only [prm]
    refine fm_cong (fun t ht => ?_)
    rw [h t (List.mem_range.mp ht)]
    rw [ih (lf := fun u => lf u && !decide (u = t)) (lg := fun u => lg u && !decide (u = t)) (fun u hu => by rw [h u hu])]
theorem asc_cong {lf lg : Nat → Bool} (h : ∀ u, u < 7 → lf u = lg u) : asc lf = asc lg := by
  unfold asc
  exact List.filter_congr (fun u hu => h u (List.mem_range.mp hu))
theorem prm_head7 : ∀ m : Fin 128, (prm (cnt (fun u => m.val.testBit u) 7) (fun u => m.val.testBit u)).head? = some (asc (fun u => m.val.testBit u)) := by decide +kernel
theorem prm_head {k : Nat} {lf : Nat → Bool} (hk : cnt lf 7 = k) : ∃ R, prm k lf = asc lf :: R := by
  have hm : msk lf 7 < 128 := msk_lt lf 7
  have e : ∀ u, u < 7 → lf u = (msk lf 7).testBit u := fun u hu => (msk_bit hu).symm
  have h := prm_head7 ⟨msk lf 7, hm⟩
  have e1 : cnt (fun u => (msk lf 7).testBit u) 7 = k := by rw [← hk]; exact (cnt_cong e).symm
  simp only [e1] at h
  rw [← prm_cong e, ← asc_cong e] at h
  cases hp : prm k lf with
  | nil => rw [hp] at h; cases h
  | cons a R => rw [hp] at h; cases h; exact ⟨R, rfl⟩
