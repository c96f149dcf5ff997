/-! the rack of the component: places, and what is written -/
theorem RK_tab : ∀ r : Nat, r < 39 → (match (SHc[r]? : Option shp) with
    | some (Sum.inl (2, some q :: _)) => decide (q + 5 < r)
    | _ => true) = true := by decide +kernel
theorem RK_lt {r q : Nat} (h : RK r q) : q + 5 < r := by
  have h0 := h.1
  have hl : r < SHc.length := (List.getElem?_eq_some_iff.mp h0).1
  have := RK_tab r (by simpa [SHc] using hl)
  rw [h0] at this
  simpa using this
theorem up_ne {σ : Sg} {c j c' : Nat} {z : Int} (h : c' ≠ c) : up σ c j z c' = σ c' := by funext j'; simp [up, h]
theorem up_at {σ : Sg} {c j : Nat} {z : Int} : up σ c j z c j = z := by simp [up]
theorem up_j {σ : Sg} {c j j' : Nat} {z : Int} (h : j' ≠ j) : up σ c j z c j' = σ c j' := by simp [up, h]
theorem cpy_ne {σ : Sg} {c0 c1 sp dp n c' : Nat} (h : c' ≠ c1) : cpy σ c0 c1 sp dp n c' = σ c' := by funext j'; simp [cpy, h]
theorem cpy_in {σ : Sg} {c0 c1 sp dp n j : Nat} (h : dp ≤ j) (h2 : j < dp + n) : cpy σ c0 c1 sp dp n c1 j = σ c0 (sp + (j - dp)) := by simp [cpy, h, h2]
theorem cpy_out {σ : Sg} {c0 c1 sp dp n j : Nat} (h : j < dp ∨ dp + n ≤ j) : cpy σ c0 c1 sp dp n c1 j = σ c1 j := by simp [cpy]; omega
def stdU (σ : Sg) (r t : Nat) (b f s : Int) : Sg := up (up (up σ (r + 1) t b) (r + 2) t f) (r + 3) t s
theorem stdU_ne {σ : Sg} {r t c : Nat} {b f s : Int} (h1 : c ≠ r + 1) (h2 : c ≠ r + 2) (h3 : c ≠ r + 3) : stdU σ r t b f s c = σ c := by
  unfold stdU; rw [up_ne h3, up_ne h2, up_ne h1]
theorem stdU_1 {σ : Sg} {r t u : Nat} {b f s : Int} : stdU σ r t b f s (r + 1) u = if u = t then b else σ (r + 1) u := by
  unfold stdU; rw [up_ne (by omega), up_ne (by omega)]; by_cases h : u = t <;> simp [up, h]
theorem stdU_2 {σ : Sg} {r t u : Nat} {b f s : Int} : stdU σ r t b f s (r + 2) u = if u = t then f else σ (r + 2) u := by
  unfold stdU; rw [up_ne (by omega)]; by_cases h : u = t
  · simp [up, h]
  · rw [up_j h, up_ne (by omega), if_neg h]
theorem stdU_3 {σ : Sg} {r t u : Nat} {b f s : Int} : stdU σ r t b f s (r + 3) u = if u = t then s else σ (r + 3) u := by
  unfold stdU; by_cases h : u = t
  · simp [up, h]
  · rw [up_j h, up_ne (by omega), up_ne (by omega), if_neg h]
def sidV (T : Nat → Int) (t : Nat) (s : Int) : Int := if s + T (11 + t) - 1 < T 1 then 1 else if T 1 < s then 4 else 2
def uf (P : Nat → Int) (t : Nat) (s : Int) : Nat → Int := fun u => if u = t then s else P u
theorem uf_at {P : Nat → Int} {t : Nat} {s : Int} : uf P t s t = s := by simp [uf]
theorem uf_ne {P : Nat → Int} {t u : Nat} {s : Int} (h : u ≠ t) : uf P t s u = P u := by simp [uf, h]
theorem sdC_uf {T P : Nat → Int} {t u : Nat} {s : Int} (h : u ≠ t) : sdC T (uf P t s) u = sdC T P u := by simp [sdC, uf_ne h]
theorem RR_std {σ : Sg} {r t : Nat} {T P F : Nat → Int} {s f : Int} (h : RR σ r T P F) (hs : 0 ≤ s) : RR (stdU σ r t s f (sidV T t s)) r T (uf P t s) (uf F t f) := by
  intro u hu
  obtain ⟨h1, h2, h3⟩ := h u hu
  rw [stdU_1, stdU_2, stdU_3]
  by_cases e : u = t
  · subst e
    have hs' : ¬ s < 0 := by omega
    simp [uf_at, sdC, sidV, hs']
  · rw [if_neg e, if_neg e, if_neg e, uf_ne e, uf_ne e, sdC_uf e]
    exact ⟨h1, h2, h3⟩
theorem RR_lv {σ : Sg} {r t : Nat} {T P F : Nat → Int} (h : RR σ r T P F) : RR (stdU σ r t (-1) 0 0) r T (uf P t (-4)) (uf F t (-4)) := by
  intro u hu
  obtain ⟨h1, h2, h3⟩ := h u hu
  rw [stdU_1, stdU_2, stdU_3]
  by_cases e : u = t
  · subst e
    simp [uf_at, sdC]
  · rw [if_neg e, if_neg e, if_neg e, uf_ne e, uf_ne e, sdC_uf e]
    exact ⟨h1, h2, h3⟩
theorem DR_cong {σ τ : Sg} {q n : Nat} {T : Nat → Int} (h : DR σ q T n) (e : ∀ c, q ≤ c → c ≤ q + 5 → τ c = σ c) : DR τ q T n := by
  unfold DR
  rw [e q (by omega) (by omega), e (q + 1) (by omega) (by omega), e (q + 2) (by omega) (by omega), e (q + 3) (by omega) (by omega), e (q + 4) (by omega) (by omega), e (q + 5) (by omega) (by omega)]
  exact h
theorem RR_cong {σ τ : Sg} {r : Nat} {T P F : Nat → Int} (h : RR σ r T P F) (e : ∀ c, r < c → c ≤ r + 3 → τ c = σ c) : RR τ r T P F := by
  intro u hu
  rw [e (r + 1) (by omega) (by omega), e (r + 2) (by omega) (by omega), e (r + 3) (by omega) (by omega)]
  exact h u hu
theorem RC_std {σ : Sg} {r q n t : Nat} {T P F : Nat → Int} {s f : Int} (hc : RC σ r q T n P F) (ht : t < n) (hs : 0 ≤ s) (hs2 : s + T (11 + t) ≤ T 0) (hf : f = 0 ∨ f = 1) : RC (stdU σ r t s f (sidV T t s)) r q T n (uf P t s) (uf F t f) := by
  obtain ⟨h1, h2, h3, h4, h5, h6⟩ := hc
  have hl := RK_lt h1
  refine ⟨h1, h2, h3, ⟨fun u hu => ?_, fun u hu hu7 => ?_⟩, DR_cong h5 (fun c h7 h8 => stdU_ne (by omega) (by omega) (by omega)), RR_std h6 hs⟩
  · by_cases e : u = t
    · subst e; rw [uf_at, uf_at]; exact Or.inr ⟨hs, hs2, hf⟩
    · rw [uf_ne e, uf_ne e]; exact h4.1 u hu
  · rw [uf_ne (by omega), uf_ne (by omega)]; exact h4.2 u hu hu7
theorem RC_lv {σ : Sg} {r q n t : Nat} {T P F : Nat → Int} (hc : RC σ r q T n P F) (ht : t < n) : RC (stdU σ r t (-1) 0 0) r q T n (uf P t (-4)) (uf F t (-4)) := by
  obtain ⟨h1, h2, h3, h4, h5, h6⟩ := hc
  have hl := RK_lt h1
  refine ⟨h1, h2, h3, ⟨fun u hu => ?_, fun u hu hu7 => ?_⟩, DR_cong h5 (fun c h7 h8 => stdU_ne (by omega) (by omega) (by omega)), RR_lv h6⟩
  · by_cases e : u = t
    · subst e; rw [uf_at, uf_at]; exact Or.inl ⟨rfl, rfl⟩
    · rw [uf_ne e, uf_ne e]; exact h4.1 u hu
  · rw [uf_ne (by omega), uf_ne (by omega)]; exact h4.2 u hu hu7
theorem ok_sideAt {σ : Sg} {q n t : Nat} {T : Nat → Int} {s : Int} (hk : DK q) (hw : wfT T n) (hD : DR σ q T n) (ht : t < n) (hs : 0 ≤ s ∧ s ≤ 20) : OK SHc mX0_sideAt 1 [vR q, vI (t : Int), vI s] σ (RV (sidV T t s) σ) := by
  obtain ⟨hq0, hq1, hq2, hq3, hq4, hq5⟩ := hk
  have hn7 := hw.2.1
  have hsl := hw.2.2.1
  have hj := hw.2.2.2.1
  obtain ⟨d0, d1, d2, d3, d4, d5⟩ := hD
  obtain ⟨g1, g2, g3, g4⟩ := d4 t ht
  obtain ⟨w1, w2, w3, w4⟩ := hw.2.2.2.2.2.1 t ht
  refine OK.enter (L' := [vR q, vI (t : Int), vI s]) (by decide +kernel) (by simp [ent0]) rfl ?_
  refine PP.rg (fun hg => ?_)
  refine PP.iload_n dX0_sideAt_0 rfl ?_
  refine PP.aload_n dX0_sideAt_1 rfl ?_
  refine PP.getfR dX0_sideAt_2 fl_X0_15 hq0 rfl ?_
  refine PP.iload_n dX0_sideAt_5 rfl ?_
  refine PP.ialoadN (n := t) hq2 (by decide) (by first | rfl | omega) (by first | omega | exact hg _ _ | (unfold R32; omega)) dX0_sideAt_6 ?_
  refine PP.iadd dX0_sideAt_7 ?_
  refine PP.iconst dX0_sideAt_8 ?_
  refine PP.isub dX0_sideAt_9 ?_
  refine PP.aload_n dX0_sideAt_10 rfl ?_
  refine PP.getfI dX0_sideAt_11 fl_X0_31 hq0 rfl ?_
  refine PP.icmp_ge (tgt := 19) (by first | omega | exact hg _ _ | (unfold R32; omega)) (by first | omega | exact hg _ _ | (unfold R32; omega)) dX0_sideAt_14 (by decide) (fun h14 => ?_) (fun h14 => ?_)
  · refine PP.iload_n dX0_sideAt_19 rfl ?_
    refine PP.aload_n dX0_sideAt_20 rfl ?_
    refine PP.getfI dX0_sideAt_21 fl_X0_31 hq0 rfl ?_
    refine PP.icmp_le (tgt := 31) (by first | omega | exact hg _ _ | (unfold R32; omega)) (by first | omega | exact hg _ _ | (unfold R32; omega)) dX0_sideAt_24 (by decide) (fun h24 => ?_) (fun h24 => ?_)
    · refine PP.iconst dX0_sideAt_31 ?_
      refine PP.iret dX0_sideAt_32 rfl ?_
      refine RVe ?_
      unfold sidV
      rw [if_neg (by omega)]
      first
        | rw [if_pos (by omega)]
        | rw [if_neg (by omega)]
    · refine PP.iconst dX0_sideAt_27 ?_
      refine PP.goto (tgt := 32) dX0_sideAt_28 (by decide) ?_
      refine PP.iret dX0_sideAt_32 rfl ?_
      refine RVe ?_
      unfold sidV
      rw [if_neg (by omega)]
      first
        | rw [if_pos (by omega)]
        | rw [if_neg (by omega)]
  · refine PP.iconst dX0_sideAt_17 ?_
    refine PP.iret dX0_sideAt_18 rfl ?_
    refine RVe ?_
    unfold sidV
    rw [if_pos (by omega)]
theorem ok_stand {σ : Sg} {r q n t : Nat} {T : Nat → Int} {s f : Int} (hk : RK r q) (hdk : DK q) (hw : wfT T n) (hD : DR σ q T n) (ht : t < n) (hs : 0 ≤ s ∧ s ≤ 20) (hf : f = 0 ∨ f = 1) : OK SHc mX2_stand 2 [vR r, vI (t : Int), vI s, vI f] σ (RN (stdU σ r t s f (sidV T t s))) := by
  have hl := RK_lt hk
  obtain ⟨hr0, hr1, hr2, hr3⟩ := hk
  obtain ⟨hq0, hq1, hq2, hq3, hq4, hq5⟩ := id hdk
  have hn7 := hw.2.1
  have hv : 0 ≤ sidV T t s ∧ sidV T t s ≤ 4 := by unfold sidV; split <;> (try split) <;> omega
  have hD2 : DR (up (up σ (r + 1) t s) (r + 2) t f) q T n := DR_cong hD (fun c h7 h8 => by rw [up_ne (by omega), up_ne (by omega)])
  refine OK.enter (L' := [vR r, vI (t : Int), vI s, vI f]) (by decide +kernel) (by simp [ent0]) rfl ?_
  refine PP.rg (fun hg => ?_)
  refine PP.aload_n dX2_stand_0 rfl ?_
  refine PP.getfR dX2_stand_1 fl_X2_9 hr0 rfl ?_
  refine PP.iload_n dX2_stand_4 rfl ?_
  refine PP.iload_n dX2_stand_5 rfl ?_
  refine PP.iastoreN (n := t) hr1 (by decide) (by first | rfl | omega) (by first | omega | exact hg _ _ | (unfold R32; omega)) (by first | omega | exact hg _ _ | (unfold R32; omega)) dX2_stand_6 ?_
  refine PP.aload_n dX2_stand_7 rfl ?_
  refine PP.getfR dX2_stand_8 fl_X2_15 hr0 rfl ?_
  refine PP.iload_n dX2_stand_11 rfl ?_
  refine PP.iload_n dX2_stand_12 rfl ?_
  refine PP.iastoreN (n := t) hr2 (by decide) (by first | rfl | omega) (by first | omega | exact hg _ _ | (unfold R32; omega)) (by first | omega | exact hg _ _ | (unfold R32; omega)) dX2_stand_13 ?_
  refine PP.aload_n dX2_stand_14 rfl ?_
  refine PP.getfR dX2_stand_15 fl_X2_18 hr0 rfl ?_
  refine PP.iload_n dX2_stand_18 rfl ?_
  refine PP.aload_n dX2_stand_19 rfl ?_
  refine PP.getfR dX2_stand_20 fl_X2_21 hr0 rfl ?_
  refine PP.iload_n dX2_stand_23 rfl ?_
  refine PP.iload_n dX2_stand_24 rfl ?_
  refine PP.callVi (ok_sideAt hdk hw hD2 ht hs) dX2_stand_25 vl_X2_38 hq0 rfl rfl rfl rfl (Nat.le_of_ble_eq_true rfl) (Nat.le_of_ble_eq_true rfl) ?_
  refine PP.iastoreN (n := t) hr3 (by decide) (by first | rfl | omega) (by first | omega | exact hg _ _ | (unfold R32; omega)) (by first | omega | exact hg _ _ | (unfold R32; omega)) dX2_stand_28 ?_
  refine PP.vret dX2_stand_29 rfl ?_
  exact ⟨rfl, rfl⟩
theorem ok_leave {σ : Sg} {r q t : Nat} (hk : RK r q) (ht : t < 7) : OK SHc mX2_leave 1 [vR r, vI (t : Int)] σ (RN (stdU σ r t (-1) 0 0)) := by
  obtain ⟨hr0, hr1, hr2, hr3⟩ := hk
  refine OK.enter (L' := [vR r, vI (t : Int)]) (by decide +kernel) (by simp [ent0]) rfl ?_
  refine PP.rg (fun hg => ?_)
  refine PP.aload_n dX2_leave_0 rfl ?_
  refine PP.getfR dX2_leave_1 fl_X2_9 hr0 rfl ?_
  refine PP.iload_n dX2_leave_4 rfl ?_
  refine PP.iconst dX2_leave_5 ?_
  refine PP.iastoreN (n := t) hr1 (by decide) (by first | rfl | omega) (by first | omega | exact hg _ _ | (unfold R32; omega)) (by first | omega | exact hg _ _ | (unfold R32; omega)) dX2_leave_6 ?_
  refine PP.aload_n dX2_leave_7 rfl ?_
  refine PP.getfR dX2_leave_8 fl_X2_15 hr0 rfl ?_
  refine PP.iload_n dX2_leave_11 rfl ?_
  refine PP.iconst dX2_leave_12 ?_
  refine PP.iastoreN (n := t) hr2 (by decide) (by first | rfl | omega) (by first | omega | exact hg _ _ | (unfold R32; omega)) (by first | omega | exact hg _ _ | (unfold R32; omega)) dX2_leave_13 ?_
  refine PP.aload_n dX2_leave_14 rfl ?_
  refine PP.getfR dX2_leave_15 fl_X2_18 hr0 rfl ?_
  refine PP.iload_n dX2_leave_18 rfl ?_
  refine PP.iconst dX2_leave_19 ?_
  refine PP.iastoreN (n := t) hr3 (by decide) (by first | rfl | omega) (by first | omega | exact hg _ _ | (unfold R32; omega)) (by first | omega | exact hg _ _ | (unfold R32; omega)) dX2_leave_20 ?_
  refine PP.vret dX2_leave_21 rfl ?_
  exact ⟨rfl, rfl⟩
def lvU (σ : Sg) (r : Nat) : Nat → Sg
  | 0 => σ
  | k + 1 => stdU (lvU σ r k) r k (-1) 0 0
theorem ok_leaveAll {σ : Sg} {r q : Nat} (hk : RK r q) : OK SHc mX2_leaveAll 2 [vR r] σ (RN (lvU σ r 7)) := by
  obtain ⟨hr0, hr1, hr2, hr3⟩ := id hk
  refine OK.enter (L' := [vR r, vN]) (by decide +kernel) (by simp [ent0]) rfl ?_
  have key : ∀ o : Nat, o ≤ 7 → PP SHc mX2_leaveAll 2 2 [vR r, vI (o : Int)] [] (lvU σ r o) (RN (lvU σ r 7)) := by
    refine loop_dn 7 ?_ ?_
    · refine PP.iload_n dX2_leaveAll_2 rfl ?_
      refine PP.bipush dX2_leaveAll_3 (by decide) ?_
      refine PP.icmp_ge (tgt := 19) (by first | omega | exact hg _ _ | (unfold R32; omega)) (by first | omega | exact hg _ _ | (unfold R32; omega)) dX2_leaveAll_5 (by decide) (fun h5 => ?_) (fun h5 => ?_)
      · refine PP.vret dX2_leaveAll_19 rfl ?_
        exact ⟨rfl, rfl⟩
      · omega
    · intro o ho ih
      refine PP.iload_n dX2_leaveAll_2 rfl ?_
      refine PP.bipush dX2_leaveAll_3 (by decide) ?_
      refine PP.icmp_ge (tgt := 19) (by unfold R32; omega) (by unfold R32; omega) dX2_leaveAll_5 (by decide) (fun h5 => ?_) (fun h5 => ?_)
      · omega
      · refine PP.aload_n dX2_leaveAll_8 rfl ?_
        refine PP.iload_n dX2_leaveAll_9 rfl ?_
        refine PP.callVn (ok_leave hk (t := o) (by omega)) dX2_leaveAll_10 vl_X2_44 hr0 rfl rfl rfl rfl (Nat.le_of_ble_eq_true rfl) (Nat.le_of_ble_eq_true rfl) ?_
        refine PP.iinc (L' := [_, _]) dX2_leaveAll_13 rfl rfl rfl ?_
        refine PP.goto (tgt := 2) dX2_leaveAll_16 (by decide) ?_
        exact ih
  refine PP.iconst dX2_leaveAll_0 ?_
  refine PP.istore_n (L' := [_, _]) dX2_leaveAll_1 (Nat.le_of_ble_eq_true rfl) rfl rfl ?_
  exact key 0 (by omega)
theorem lvU_ne {σ : Sg} {r c : Nat} (h1 : c ≠ r + 1) (h2 : c ≠ r + 2) (h3 : c ≠ r + 3) : ∀ k, lvU σ r k c = σ c
  | 0 => rfl
  | k + 1 => by rw [lvU, stdU_ne h1 h2 h3, lvU_ne h1 h2 h3 k]
theorem lvU_in {σ : Sg} {r : Nat} : ∀ k t, t < k → lvU σ r k (r + 1) t = -1 ∧ lvU σ r k (r + 2) t = 0 ∧ lvU σ r k (r + 3) t = 0
  | 0, t, h => by omega
  | k + 1, t, h => by
    simp only [lvU]
    rw [stdU_1, stdU_2, stdU_3]
    by_cases e : t = k
    · simp [e]
    · rw [if_neg e, if_neg e, if_neg e]; exact lvU_in k t (by omega)
theorem RR_lvU {σ : Sg} {r : Nat} {T : Nat → Int} : RR (lvU σ r 7) r T (fun _ => -4) (fun _ => -4) := by
  intro t ht
  obtain ⟨h1, h2, h3⟩ := lvU_in (σ := σ) (r := r) 7 t ht
  rw [h1, h2, h3]
  simp [sdC]
theorem RC_lvU {σ : Sg} {r q n : Nat} {T : Nat → Int} (hk : RK r q) (hdk : DK q) (hw : wfT T n) (hD : DR σ q T n) : RC (lvU σ r 7) r q T n (fun _ => -4) (fun _ => -4) := by
  have hl := RK_lt hk
  exact ⟨hk, hdk, hw, ⟨fun _ _ => Or.inl ⟨rfl, rfl⟩, fun _ _ _ => ⟨rfl, rfl⟩⟩, DR_cong hD (fun c h7 h8 => lvU_ne (by omega) (by omega) (by omega) 7), RR_lvU⟩
/-- a rack copied from another -/
def crU (σ : Sg) (g r : Nat) : Sg := up (up (cpy (cpy (cpy σ (g + 1) (r + 1) 0 0 7) (g + 2) (r + 2) 0 0 7) (g + 3) (r + 3) 0 0 7) r 4 (σ g 4)) r 5 (σ g 5)
theorem ok_copyFrom {σ : Sg} {r g q q' : Nat} (hk : RK r q) (hk2 : RK g q') (hne : r + 3 < g ∨ g + 3 < r) : OK SHc mX2_copyFrom 1 [vR r, vR g] σ (RN (crU σ g r)) := by
  obtain ⟨hr0, hr1, hr2, hr3⟩ := hk
  obtain ⟨hg0, hg1, hg2, hg3⟩ := hk2
  refine OK.enter (L' := [vR r, vR g]) (by decide +kernel) (by simp [ent0]) rfl ?_
  refine PP.rg (fun hg => ?_)
  have e4 : cpy (cpy (cpy σ (g + 1) (r + 1) 0 0 7) (g + 2) (r + 2) 0 0 7) (g + 3) (r + 3) 0 0 7 g = σ g := by
    rw [cpy_ne (by omega), cpy_ne (by omega), cpy_ne (by omega)]
  refine PP.aload_n dX2_copyFrom_0 rfl ?_
  refine PP.getfR dX2_copyFrom_1 fl_X2_9 hg0 rfl ?_
  refine PP.iconst dX2_copyFrom_4 ?_
  refine PP.aload_n dX2_copyFrom_5 rfl ?_
  refine PP.getfR dX2_copyFrom_6 fl_X2_9 hr0 rfl ?_
  refine PP.iconst dX2_copyFrom_9 ?_
  refine PP.bipush dX2_copyFrom_10 (by decide) ?_
  refine PP.acopy dX2_copyFrom_12 sc_X2_25 hg1 hr1 (by decide) (by decide) (by first | omega | exact hg _ _ | (unfold R32; omega)) (by first | omega | exact hg _ _ | (unfold R32; omega)) (by first | omega | exact hg _ _ | (unfold R32; omega)) (by first | omega | exact hg _ _ | (unfold R32; omega)) (by first | omega | exact hg _ _ | (unfold R32; omega)) (Nat.le_of_ble_eq_true rfl) (Nat.le_of_ble_eq_true rfl) ?_
  refine PP.aload_n dX2_copyFrom_15 rfl ?_
  refine PP.getfR dX2_copyFrom_16 fl_X2_15 hg0 rfl ?_
  refine PP.iconst dX2_copyFrom_19 ?_
  refine PP.aload_n dX2_copyFrom_20 rfl ?_
  refine PP.getfR dX2_copyFrom_21 fl_X2_15 hr0 rfl ?_
  refine PP.iconst dX2_copyFrom_24 ?_
  refine PP.bipush dX2_copyFrom_25 (by decide) ?_
  refine PP.acopy dX2_copyFrom_27 sc_X2_25 hg2 hr2 (by decide) (by decide) (by first | omega | exact hg _ _ | (unfold R32; omega)) (by first | omega | exact hg _ _ | (unfold R32; omega)) (by first | omega | exact hg _ _ | (unfold R32; omega)) (by first | omega | exact hg _ _ | (unfold R32; omega)) (by first | omega | exact hg _ _ | (unfold R32; omega)) (Nat.le_of_ble_eq_true rfl) (Nat.le_of_ble_eq_true rfl) ?_
  refine PP.aload_n dX2_copyFrom_30 rfl ?_
  refine PP.getfR dX2_copyFrom_31 fl_X2_18 hg0 rfl ?_
  refine PP.iconst dX2_copyFrom_34 ?_
  refine PP.aload_n dX2_copyFrom_35 rfl ?_
  refine PP.getfR dX2_copyFrom_36 fl_X2_18 hr0 rfl ?_
  refine PP.iconst dX2_copyFrom_39 ?_
  refine PP.bipush dX2_copyFrom_40 (by decide) ?_
  refine PP.acopy dX2_copyFrom_42 sc_X2_25 hg3 hr3 (by decide) (by decide) (by first | omega | exact hg _ _ | (unfold R32; omega)) (by first | omega | exact hg _ _ | (unfold R32; omega)) (by first | omega | exact hg _ _ | (unfold R32; omega)) (by first | omega | exact hg _ _ | (unfold R32; omega)) (by first | omega | exact hg _ _ | (unfold R32; omega)) (Nat.le_of_ble_eq_true rfl) (Nat.le_of_ble_eq_true rfl) ?_
  refine PP.aload_n dX2_copyFrom_45 rfl ?_
  refine PP.aload_n dX2_copyFrom_46 rfl ?_
  refine PP.getfI dX2_copyFrom_47 fl_X2_31 hg0 rfl ?_
  refine PP.eqI (y := σ g 4) (by exact congrFun e4 4) ?_
  refine PP.putI dX2_copyFrom_50 fp_X2_31 hr0 rfl (by first | omega | exact hg _ _ | (unfold R32; omega)) ?_
  refine PP.aload_n dX2_copyFrom_53 rfl ?_
  refine PP.aload_n dX2_copyFrom_54 rfl ?_
  refine PP.getfI dX2_copyFrom_55 fl_X2_35 hg0 rfl ?_
  refine PP.eqI (y := σ g 5) (by rw [up_ne (by omega)]; exact congrFun e4 5) ?_
  refine PP.putI dX2_copyFrom_58 fp_X2_35 hr0 rfl (by first | omega | exact hg _ _ | (unfold R32; omega)) ?_
  refine PP.vret dX2_copyFrom_61 rfl ?_
  exact ⟨rfl, rfl⟩
theorem crU_ne {σ : Sg} {r g c : Nat} (h0 : c ≠ r) (h1 : c ≠ r + 1) (h2 : c ≠ r + 2) (h3 : c ≠ r + 3) : crU σ g r c = σ c := by
  unfold crU; rw [up_ne h0, up_ne h0, cpy_ne h3, cpy_ne h2, cpy_ne h1]
theorem crU_RR {σ : Sg} {r g : Nat} {T P F : Nat → Int} (hne : r + 3 < g ∨ g + 3 < r) (h : RR σ g T P F) : RR (crU σ g r) r T P F := by
  intro t ht
  have e1 : crU σ g r (r + 1) t = σ (g + 1) t := by
    unfold crU; rw [up_ne (by omega), up_ne (by omega), cpy_ne (by omega), cpy_ne (by omega), cpy_in (by omega) (by omega)]; simp
  have e2 : crU σ g r (r + 2) t = σ (g + 2) t := by
    unfold crU; rw [up_ne (by omega), up_ne (by omega), cpy_ne (by omega), cpy_in (by omega) (by omega), cpy_ne (by omega)]; simp
  have e3 : crU σ g r (r + 3) t = σ (g + 3) t := by
    unfold crU; rw [up_ne (by omega), up_ne (by omega), cpy_in (by omega) (by omega), cpy_ne (by omega), cpy_ne (by omega)]; simp
  rw [e1, e2, e3]
  exact h t ht
theorem crU_45 {σ : Sg} {r g : Nat} : crU σ g r r 4 = σ g 4 ∧ crU σ g r r 5 = σ g 5 := by
  unfold crU
  exact ⟨by rw [up_j (by decide), up_at], up_at⟩
