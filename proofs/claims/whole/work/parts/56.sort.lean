/-! sorting by height, purely -/
def kyT (T : Nat → Int) (t : Nat) : Int := (9 - T (18 + t)) * 8 + (t : Int)
def bq (T : Nat → Int) : Nat → List Nat → List Nat
  | a, [] => [a]
  | a, b :: r => if T (18 + a) < T (18 + b) then b :: bq T a r else a :: bq T b r
def bp (T : Nat → Int) : List Nat → List Nat
  | [] => []
  | a :: r => bq T a r
def itB (T : Nat → Int) : Nat → List Nat → List Nat
  | 0, l => l
  | p + 1, l => itB T p (bp T l)
theorem mem_ins {x a b : Nat} {l : List Nat} (h : x ∈ a :: l) : x ∈ a :: b :: l := (List.mem_cons.mp h).elim (fun e => by simp [e]) (fun h => by simp [h])
theorem bq_mem {T : Nat → Int} : ∀ (r : List Nat) (a x : Nat), x ∈ bq T a r ↔ x = a ∨ x ∈ r
  | [], a, x => by simp [bq]
  | b :: r, a, x => by
    rw [bq]
    split
    · rw [List.mem_cons, bq_mem r a, List.mem_cons]
      constructor <;> rintro (h | h | h) <;> simp [h]
    · rw [List.mem_cons, bq_mem r b, List.mem_cons]
theorem bq_len {T : Nat → Int} : ∀ (r : List Nat) (a : Nat), (bq T a r).length = r.length + 1
  | [], a => rfl
  | b :: r, a => by
    rw [bq]
    split
    · rw [List.length_cons, bq_len r a]; rfl
    · rw [List.length_cons, bq_len r b]; rfl
def srE (T : Nat → Int) (l : List Nat) : Prop := l.Pairwise (fun a b => T (18 + a) = T (18 + b) → a < b)
def srK (T : Nat → Int) (l : List Nat) : Prop := l.Pairwise (fun a b => kyT T a < kyT T b)
theorem bq_E {T : Nat → Int} : ∀ (r : List Nat) (a : Nat), srE T (a :: r) → srE T (bq T a r)
  | [], a, h => h
  | b :: r, a, h => by
    obtain ⟨h1, h2⟩ := List.pairwise_cons.mp h
    obtain ⟨h3, h4⟩ := List.pairwise_cons.mp h2
    rw [bq]
    split
    · rename_i q
      refine List.pairwise_cons.mpr ⟨fun x hx e => ?_, bq_E r a (List.pairwise_cons.mpr ⟨fun x hx => h1 x (by simp [hx]), h4⟩)⟩
      rcases (bq_mem r a x).mp hx with rfl | hx
      · omega
      · exact h3 x hx e
    · refine List.pairwise_cons.mpr ⟨fun x hx e => ?_, bq_E r b h2⟩
      rcases (bq_mem r b x).mp hx with rfl | hx
      · exact h1 x (by simp) e
      · exact h1 x (by simp [hx]) e
theorem ky_lt {T : Nat → Int} {a b : Nat} (ha : a < 7) (hb : b < 7) (h : T (18 + b) < T (18 + a) ∨ (T (18 + a) = T (18 + b) ∧ a < b)) : kyT T a < kyT T b := by
  unfold kyT; omega
theorem ky_inv {T : Nat → Int} {a b : Nat} (ha : a < 7) (hb : b < 7) (h : kyT T a < kyT T b) : ¬ T (18 + a) < T (18 + b) := by
  unfold kyT at h; omega
theorem bq_max {T : Nat → Int} : ∀ (r : List Nat) (a : Nat), (∀ x ∈ a :: r, x < 7) → srE T (a :: r) → ∃ l' m, bq T a r = l' ++ [m] ∧ ∀ x ∈ l', kyT T x < kyT T m
  | [], a, _, _ => ⟨[], a, rfl, fun x hx => by simp at hx⟩
  | b :: r, a, h7, h => by
    obtain ⟨h1, h2⟩ := List.pairwise_cons.mp h
    obtain ⟨h3, h4⟩ := List.pairwise_cons.mp h2
    have a7 := h7 a (by simp)
    have b7 := h7 b (by simp)
    rw [bq]
    split
    · rename_i q
      obtain ⟨l', m, e, hm⟩ := bq_max r a (fun x hx => h7 x (by rcases List.mem_cons.mp hx with h | h <;> simp [h])) (List.pairwise_cons.mpr ⟨fun x hx => h1 x (by simp [hx]), h4⟩)
      refine ⟨b :: l', m, by rw [e]; rfl, fun x hx => ?_⟩
      rcases List.mem_cons.mp hx with rfl | hx
      · have k1 : kyT T x < kyT T a := ky_lt b7 a7 (Or.inl q)
        have ha : a ∈ l' ++ [m] := by rw [← e]; exact (bq_mem r a a).mpr (Or.inl rfl)
        rcases List.mem_append.mp ha with h | h
        · have := hm a h; omega
        · rw [← List.mem_singleton.mp h]; exact k1
      · exact hm x hx
    · rename_i q
      obtain ⟨l', m, e, hm⟩ := bq_max r b (fun x hx => h7 x (List.mem_cons_of_mem _ hx)) h2
      refine ⟨a :: l', m, by rw [e]; rfl, fun x hx => ?_⟩
      rcases List.mem_cons.mp hx with rfl | hx
      · have k1 : kyT T x < kyT T b := ky_lt a7 b7 (by
          rcases Int.lt_or_eq_of_le (Int.not_lt.mp q) with h | h
          · exact Or.inl h
          · exact Or.inr ⟨h.symm, h1 b (by simp) h.symm⟩)
        have ha : b ∈ l' ++ [m] := by rw [← e]; exact (bq_mem r b b).mpr (Or.inl rfl)
        rcases List.mem_append.mp ha with h | h
        · have := hm b h; omega
        · rw [← List.mem_singleton.mp h]; exact k1
      · exact hm x hx
theorem bq_srt {T : Nat → Int} : ∀ (S : List Nat) (a : Nat), (∀ x ∈ a :: S, x < 7) → srK T (a :: S) → bq T a S = a :: S
  | [], a, _, _ => rfl
  | s :: S, a, h7, h => by
    obtain ⟨h1, h2⟩ := List.pairwise_cons.mp h
    rw [bq, if_neg (ky_inv (h7 a (by simp)) (h7 s (by simp)) (h1 s (by simp))), bq_srt S s (fun x hx => h7 x (List.mem_cons_of_mem _ hx)) h2]
theorem bq_app {T : Nat → Int} {S : List Nat} (hS : srK T S) : ∀ (r : List Nat) (a : Nat), (∀ x ∈ a :: r ++ S, x < 7) → (∀ x ∈ a :: r, ∀ s ∈ S, kyT T x < kyT T s) → bq T a (r ++ S) = bq T a r ++ S
  | [], a, h7, h => by
    show bq T a S = a :: S
    exact bq_srt S a (fun x hx => h7 x hx) (List.pairwise_cons.mpr ⟨fun s hs => h a (by simp) s hs, hS⟩)
  | b :: r, a, h7, h => by
    show bq T a (b :: (r ++ S)) = _
    rw [bq, bq]
    split
    · rw [bq_app hS r a (fun x hx => h7 x (mem_ins hx)) (fun x hx => h x (mem_ins hx))]; rfl
    · rw [bq_app hS r b (fun x hx => h7 x (List.mem_cons_of_mem _ hx)) (fun x hx => h x (List.mem_cons_of_mem _ hx))]; rfl
theorem bp_mem {T : Nat → Int} {l : List Nat} {x : Nat} : x ∈ bp T l ↔ x ∈ l := by
  cases l with
  | nil => rfl
  | cons a r => rw [bp, bq_mem, List.mem_cons]
theorem itB_mem {T : Nat → Int} {x : Nat} : ∀ (p : Nat) (l : List Nat), x ∈ itB T p l ↔ x ∈ l
  | 0, l => Iff.rfl
  | p + 1, l => by rw [itB, itB_mem p, bp_mem]
theorem itB_srt {T : Nat → Int} : ∀ (p : Nat) (l' S : List Nat), (∀ x ∈ l' ++ S, x < 7) → srE T l' → srK T S → (∀ x ∈ l', ∀ s ∈ S, kyT T x < kyT T s) → l'.length ≤ p → srK T (itB T p (l' ++ S))
  | 0, l', S, h7, hE, hS, hx, hl => by
    have : l' = [] := List.length_eq_zero_iff.mp (by omega)
    subst this
    exact hS
  | p + 1, [], S, h7, hE, hS, hx, hl => by
    have e : bp T ([] ++ S) = [] ++ S := by
      cases S with
      | nil => rfl
      | cons s S => exact bq_srt S s h7 hS
    rw [itB, e]
    exact itB_srt p [] S h7 hE hS hx (by simp)
  | p + 1, a :: r, S, h7, hE, hS, hx, hl => by
    have e : bp T ((a :: r) ++ S) = bq T a r ++ S := bq_app hS r a h7 hx
    have hE2 := bq_E r a hE
    have hlen := bq_len (T := T) r a
    obtain ⟨l', m, em, hm⟩ := bq_max r a (fun x hx => h7 x (List.mem_append_left _ hx)) hE
    have hmem : ∀ x, x ∈ l' ∨ x = m → x ∈ a :: r := fun x hx => by
      have : x ∈ bq T a r := by rw [em]; rcases hx with h | h <;> simp [h]
      rw [bq_mem] at this
      exact List.mem_cons.mpr this
    rw [itB, e, em, List.append_assoc]
    rw [em] at hE2 hlen
    refine itB_srt p l' ([m] ++ S) (fun x hx' => ?_) (List.pairwise_append.mp hE2).1 (List.pairwise_cons.mpr ⟨fun s hs => hx m (hmem m (Or.inr rfl)) s hs, hS⟩) (fun x hx' s hs => ?_) (by simp at hlen hl; omega)
    · rcases List.mem_append.mp hx' with h | h
      · exact h7 x (List.mem_append_left _ (hmem x (Or.inl h)))
      · rcases List.mem_cons.mp h with h | h
        · exact h7 x (List.mem_append_left _ (hmem x (Or.inr h)))
        · exact h7 x (List.mem_append_right _ h)
    · rcases List.mem_cons.mp hs with h | h
      · rw [h]; exact hm x hx'
      · exact hx x (hmem x (Or.inl hx')) s h
theorem srK_eq {T : Nat → Int} : ∀ (l1 l2 : List Nat), srK T l1 → srK T l2 → (∀ x, x ∈ l1 ↔ x ∈ l2) → l1 = l2
  | [], [], _, _, _ => rfl
  | [], b :: l2, _, _, h => by have := (h b).mpr (by simp); simp at this
  | a :: l1, [], _, _, h => by have := (h a).mp (by simp); simp at this
  | a :: l1, b :: l2, h1, h2, h => by
    obtain ⟨p1, p2⟩ := List.pairwise_cons.mp h1
    obtain ⟨q1, q2⟩ := List.pairwise_cons.mp h2
    have e : a = b := by
      rcases List.mem_cons.mp ((h a).mp (by simp)) with r | r
      · exact r
      · rcases List.mem_cons.mp ((h b).mpr (by simp)) with r2 | r2
        · exact r2.symm
        · have := q1 a r; have := p1 b r2; omega
    subst e
    rw [srK_eq l1 l2 p2 q2 (fun x => ?_)]
    have hx := h x
    simp only [List.mem_cons] at hx
    constructor
    · intro m
      rcases hx.mp (Or.inr m) with r | r
      · subst r; have := p1 x m; omega
      · exact r
    · intro m
      rcases hx.mpr (Or.inr m) with r | r
      · subst r; have := q1 x m; omega
      · exact r
