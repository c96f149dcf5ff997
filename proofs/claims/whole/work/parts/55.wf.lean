/-! what each call leaves is well formed -/
theorem wfR_turn {T : Nat → Int} {n t : Nat} {row : Nat → Int} (hw : wfT T n) (h : wfR T n row) (ht : t < n) (hp : 0 ≤ row (2 + t)) : wfR T n (uf row (9 + t) (1 - row (9 + t))) := by
  have hn7 := hw.2.1
  obtain ⟨⟨h1, h2⟩, h3, p, hp'⟩ := h
  refine ⟨⟨fun u hu => ?_, fun u hu hu7 => ?_⟩, ?_, p, ?_⟩
  · have := h1 u hu
    by_cases e : u = t
    · subst e; simp only [] at this ⊢; rw [uf_ne (by omega), uf_at]; omega
    · simp only [] at this ⊢; rw [uf_ne (by omega), uf_ne (by omega)]; exact this
  · have := h2 u hu hu7
    simp only [] at this ⊢; rw [uf_ne (by omega), uf_ne (by omega)]; exact this
  · rw [uf_ne (by omega)]; exact h3
  · rw [uf_ne (by omega)]; exact hp'
theorem wfR_0 {T : Nat → Int} {n : Nat} {row : Nat → Int} {z : Int} (h : wfR T n row) (hz : 1 ≤ z ∧ z ≤ 9) : wfR T n (uf row 0 z) := by
  obtain ⟨⟨h1, h2⟩, h3, p, hp'⟩ := h
  refine ⟨⟨fun u hu => ?_, fun u hu hu7 => ?_⟩, ?_, p, ?_⟩
  · have := h1 u hu
    simp only [] at this ⊢; rw [uf_ne (by omega), uf_ne (by omega)]; exact this
  · have := h2 u hu hu7
    simp only [] at this ⊢; rw [uf_ne (by omega), uf_ne (by omega)]; exact this
  · rw [uf_at]; exact hz
  · rw [uf_ne (by omega)]; exact hp'
theorem wfR_wash {T : Nat → Int} {n t : Nat} {row : Nat → Int} (hw : wfT T n) (h : wfR T n row) (ht : t < n) : wfR T n (wshR row n t) := by
  obtain ⟨⟨h1, h2⟩, h3, -⟩ := wfR_out hw h ht
  unfold wshR
  refine ⟨⟨fun u hu => ?_, fun u hu hu7 => ?_⟩, ?_, _, uf_at⟩
  · have := h1 u hu
    simp only [] at this ⊢; rw [uf_ne (by omega), uf_ne (by omega)]; exact this
  · have := h2 u hu hu7
    simp only [] at this ⊢; rw [uf_ne (by omega), uf_ne (by omega)]; exact this
  · rw [uf_ne (by omega)]; exact h3
theorem pushL_mem {m : Nat} {Rs : List (Nat → Int)} {row r : Nat → Int} (h : r ∈ pushL m Rs row) : r ∈ Rs ∨ r = row := by
  unfold pushL at h
  rcases List.mem_append.mp h with q | q
  · split at q
    · exact Or.inl q
    · exact Or.inl (List.mem_of_mem_drop q)
  · exact Or.inr (List.mem_singleton.mp q)
theorem WF_act {A : ST} {row : Nat → Int} (h : WF A) (hr : wfR A.2.2.1 A.2.2.2.1 row) : WF (act A row) := by
  obtain ⟨h1, h2, h3, h4, h5, h6, h7, h8, h9⟩ := h
  exact ⟨h1, h2, h3, h4, hr, fun r hq => (pushL_mem hq).elim (fun q => h6 r q) (fun q => by rw [q]; exact h5), h7, h8, h9⟩
theorem w_write {A : ST} {x : Int} (h : WF A) : WF (spWrite A x).2 := by
  unfold spWrite
  split
  · exact h
  · split
    · exact h
    · rename_i q1 q2
      obtain ⟨h1, h2, h3, h4, h5, h6, h7, h8, h9⟩ := h
      refine ⟨by simp only []; omega, fun j hj => ?_, h3, h4, h5, h6, h7, h8, h9⟩
      simp only [] at hj ⊢
      by_cases e : j = A.1
      · subst e; rw [uf_at]; omega
      · rw [uf_ne e]; exact h2 j (by omega)
theorem w_wipe {A : ST} (h : WF A) : WF (spWipe A).2 := by
  obtain ⟨h1, h2, h3⟩ := h
  exact ⟨by simp [spWipe], fun j hj => by simp [spWipe] at hj, h3⟩
theorem w_putIn {A : ST} {t s f : Int} (h : WF A) : WF (spPutIn A t s f).2 := by
  unfold spPutIn
  split
  · exact h
  · split
    · exact h
    · rename_i q1 q2
      simp only [isT, isZ] at q1
      have e : ((t.toNat : Nat) : Int) = t := by omega
      have q3 : fitS A.2.2.1 A.2.2.2.1 (rP A.2.2.2.2.1) t.toNat s = true := by
        cases hq : fitS A.2.2.1 A.2.2.2.1 (rP A.2.2.2.2.1) t.toNat s with
        | true => rfl
        | false => exact absurd (Or.inr (Or.inr hq)) q2
      exact WF_act h (wfR_put h.2.2.1 h.2.2.2.2.1 (by omega) (by omega) (fitS_t.mp q3).1 (by omega))
theorem w_turn {A : ST} {t : Int} (h : WF A) : WF (spTurn A t).2 := by
  unfold spTurn
  split
  · exact h
  · split
    · exact h
    · rename_i q1 q2
      simp only [isT] at q1
      exact WF_act h (wfR_turn h.2.2.1 h.2.2.2.2.1 (by omega) (by omega))
theorem w_takeOut {A : ST} {t : Int} (h : WF A) : WF (spTakeOut A t).2 := by
  unfold spTakeOut
  split
  · exact h
  · split
    · exact h
    · rename_i q1 q2
      simp only [isT] at q1
      exact WF_act h (wfR_out h.2.2.1 h.2.2.2.2.1 (by omega))
theorem w_wash {A : ST} {t : Int} (h : WF A) : WF (spWash A t).2 := by
  unfold spWash
  split
  · exact h
  · split
    · exact h
    · rename_i q1 q2
      simp only [isT] at q1
      exact WF_act h (wfR_wash h.2.2.1 h.2.2.2.2.1 (by omega))
theorem w_water {A : ST} {p : Int} (h : WF A) : WF (spWater A p).2 := by
  unfold spWater
  split
  · exact h
  · rename_i q1
    exact WF_act h (wfR_0 h.2.2.2.2.1 (by omega))
theorem w_undo {A : ST} (h : WF A) : WF (spUndo A).2 := by
  unfold spUndo
  split
  · exact h
  · rename_i r hr
    obtain ⟨h1, h2, h3, h4, h5, h6, h7, h8, h9⟩ := h
    exact ⟨h1, h2, h3, h4, h6 r (List.mem_of_getLast? hr), fun r' hq => h6 r' (List.dropLast_subset _ hq), h7, h8, h9⟩
theorem w_keep {A : ST} (h : WF A) : WF (spKeep A).2 := by
  unfold spKeep
  split
  · exact h
  · obtain ⟨h1, h2, h3, h4, h5, h6, h7, h8, h9⟩ := h
    exact ⟨h1, h2, h3, h4, h5, h6, fun r hq => (List.mem_append.mp hq).elim (fun q => h7 r q) (fun q => by rw [List.mem_singleton.mp q]; exact h5), h8, h9⟩
theorem w_back {A : ST} (h : WF A) : WF (spBack A).2 := by
  unfold spBack
  split
  · exact h
  · rename_i r hr
    obtain ⟨h1, h2, h3, h4, h5, h6, h7, h8, h9⟩ := h
    exact ⟨h1, h2, h3, h4, h7 r (List.mem_of_getLast? hr), fun r' hq => by simp at hq, fun r' hq => h7 r' (List.dropLast_subset _ hq), h8, h9⟩
theorem w_forget {A : ST} (h : WF A) : WF (spForget A).2 := by
  obtain ⟨h1, h2, h3, h4, h5, h6, h7, h8, h9⟩ := h
  exact ⟨h1, h2, h3, h4, h5, h6, h7, fun t => Or.inl rfl, fun t _ => rfl⟩
theorem w_seen {A : ST} {t c : Int} (h : WF A) : WF (spSeen A t c).2 := by
  unfold spSeen
  split
  · exact h
  · split
    · exact h
    · rename_i q1 q2
      simp only [isT, isZ] at q1
      obtain ⟨h1, h2, h3, h4, h5, h6, h7, h8, h9⟩ := h
      refine ⟨h1, h2, h3, h4, h5, h6, h7, fun u => ?_, fun u hu => ?_⟩
      · simp only []
        by_cases e : u = t.toNat
        · subst e; rw [uf_at]; omega
        · rw [uf_ne e]; exact h8 u
      · simp only [] at hu ⊢
        rw [uf_ne (by omega)]; exact h9 u hu
theorem w_lay {A : ST} {y : RS} (h : WF A) (hy : wfS y) (hn : ¬ y.2.1 = 0) : WF (A.1, A.2.1, y.1, y.2.1, y.2.2.1, [], [], fun _ => -4) := by
  obtain ⟨h1, h2, -⟩ := h
  exact ⟨h1, h2, hy.1, by simp only []; omega, ⟨hy.2.1, hy.2.2.1, fun _ => false, by simp only []; rw [hy.2.2.2.1, msk_zero.mpr (fun _ _ => rfl)]; rfl⟩, fun r hq => by simp at hq, fun r hq => by simp at hq, fun t => Or.inl rfl, fun t _ => rfl⟩
