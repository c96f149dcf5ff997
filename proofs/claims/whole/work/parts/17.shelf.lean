/-! shelves: racks laid by -/
def RP (Φ : Int → Sg → Prop) : Option pv → Sg → Prop := fun r σ' => ∃ v, r = some (vI v) ∧ Φ v σ'
def RPn (Φ : Sg → Prop) : Option pv → Sg → Prop := fun r σ' => r = none ∧ Φ σ'
section PRD
variable {SH : List shp} {M N : mth} {d d' pc idx n : Nat} {L st st0 As : List pv} {σ : Sg} {Q : Option pv → Sg → Prop} {Φ : Int → Sg → Prop} {Ψ : Sg → Prop}
theorem PP.callViP {c ci : Nat} {fs : List (Option Nat)} {q : vw_C} (hok : OK SH N d' (vR c :: As) σ (RP Φ)) (hd : decode M.2.1 pc = .ok (.invokevirtual idx, 3)) (hw : VL M.1.cls idx N n) (hc : SH[c]? = some (.inl (ci, fs))) (hq : clsT[ci]? = some q) (hq1 : q.1 = N.1.cls) (hs : st0 = As.reverse ++ vR c :: st) (hn : As.length = n) (hst : st.length ≤ 4) (hdd : d' + 1 ≤ d)
    (k : ∀ v τ, Φ v τ → PP SH M d (pc + 3) L (vI v :: st) τ Q) : PP SH M d pc L st0 σ Q :=
  PP.callV hok hd hw hc hq hq1 hs hn hst hdd (fun r σ' h => by obtain ⟨v, rfl, h⟩ := h; exact k v σ' h)
theorem PP.callVnP {c ci : Nat} {fs : List (Option Nat)} {q : vw_C} (hok : OK SH N d' (vR c :: As) σ (RPn Ψ)) (hd : decode M.2.1 pc = .ok (.invokevirtual idx, 3)) (hw : VL M.1.cls idx N n) (hc : SH[c]? = some (.inl (ci, fs))) (hq : clsT[ci]? = some q) (hq1 : q.1 = N.1.cls) (hs : st0 = As.reverse ++ vR c :: st) (hn : As.length = n) (hst : st.length ≤ 4) (hdd : d' + 1 ≤ d)
    (k : ∀ τ, Ψ τ → PP SH M d (pc + 3) L st τ Q) : PP SH M d pc L st0 σ Q :=
  PP.callV hok hd hw hc hq hq1 hs hn hst hdd (fun r σ' h => by obtain ⟨rfl, h⟩ := h; exact k σ' h)
end PRD
def bC (p : Int) : Int := if p < 0 then -1 else p
def fC (p f : Int) : Int := if p < 0 then 0 else f
/-- a row of 16 (water, washed, where each begins, how turned) at a place of a shelf -/
def rwA (σ : Sg) (c off : Nat) (row : Nat → Int) : Prop := (∀ t, t < 7 → σ c (off + t) = bC (row (2 + t)) ∧ σ c (off + 7 + t) = fC (row (2 + t)) (row (9 + t))) ∧ σ c (off + 14) = row 1 ∧ σ c (off + 15) = row 0
def SK (s m : Nat) : Prop := SHc[s]? = some (.inl (4, [none, some (s + 1), none])) ∧ SHc[s + 1]? = some (.inr (16 * m)) ∧ (m = 8 ∨ m = 2)
theorem SK35 : SK 35 8 := ⟨rfl, rfl, Or.inl rfl⟩
theorem SK37 : SK 37 2 := ⟨rfl, rfl, Or.inr rfl⟩
def SHR (σ : Sg) (s m : Nat) (Rs : List (Nat → Int)) : Prop := σ s 0 = (m : Int) ∧ σ s 2 = (Rs.length : Int) ∧ Rs.length ≤ m ∧ ∀ (k : Nat) (row : Nat → Int), Rs[k]? = some row → rwA σ (s + 1) (16 * k) row
def RW (σ : Sg) (g : Nat) (T row : Nat → Int) : Prop := RR σ g T (fun t => row (2 + t)) (fun t => row (9 + t)) ∧ σ g 4 = row 1 ∧ σ g 5 = row 0
def pushL (m : Nat) (Rs : List (Nat → Int)) (row : Nat → Int) : List (Nat → Int) := (if Rs.length < m then Rs else Rs.drop 1) ++ [row]
theorem rwA_cong {σ τ : Sg} {c off : Nat} {row : Nat → Int} (h : rwA σ c off row) (e : ∀ j, off ≤ j → j < off + 16 → τ c j = σ c j) : rwA τ c off row := by
  obtain ⟨h1, h2, h3⟩ := h
  refine ⟨fun t ht => ?_, ?_, ?_⟩
  · rw [e _ (by omega) (by omega), e _ (by omega) (by omega)]; exact h1 t ht
  · rw [e _ (by omega) (by omega)]; exact h2
  · rw [e _ (by omega) (by omega)]; exact h3
theorem SHR_cong {σ τ : Sg} {s m : Nat} {Rs : List (Nat → Int)} (h : SHR σ s m Rs) (e0 : τ s = σ s) (e1 : τ (s + 1) = σ (s + 1)) : SHR τ s m Rs := by
  obtain ⟨h1, h2, h3, h4⟩ := h
  exact ⟨by rw [e0]; exact h1, by rw [e0]; exact h2, h3, fun k row hk => rwA_cong (h4 k row hk) (fun j _ _ => by rw [e1])⟩
def psU (σ : Sg) (s g k : Nat) : Sg := up (up (up (cpy (cpy σ (g + 1) (s + 1) 0 (k * 16) 7) (g + 2) (s + 1) 0 (k * 16 + 7) 7) (s + 1) (k * 16 + 14) (σ g 4)) (s + 1) (k * 16 + 14 + 1) (σ g 5)) s 2 ((k : Int) + 1)
theorem psU_ne {σ : Sg} {s g k c : Nat} (h0 : c ≠ s) (h1 : c ≠ s + 1) : psU σ s g k c = σ c := by
  unfold psU; rw [up_ne h0, up_ne h1, up_ne h1, cpy_ne h1, cpy_ne h1]
theorem psU_lo {σ : Sg} {s g k j : Nat} (h : j < 16 * k) : psU σ s g k (s + 1) j = σ (s + 1) j := by
  unfold psU; rw [up_ne (by omega), up_j (by omega), up_j (by omega), cpy_out (by omega), cpy_out (by omega)]
theorem psU_row {σ : Sg} {s g k : Nat} {T row : Nat → Int} (hne : g + 3 < s) (hR : RW σ g T row) : rwA (psU σ s g k) (s + 1) (16 * k) row := by
  obtain ⟨h1, h2, h3⟩ := hR
  refine ⟨fun t ht => ?_, ?_, ?_⟩
  · obtain ⟨a1, a2, -⟩ := h1 t ht
    constructor
    · unfold psU; rw [up_ne (by omega), up_j (by omega), up_j (by omega), cpy_out (by omega), cpy_in (by omega) (by omega), show 0 + (16 * k + t - k * 16) = t by omega]; exact a1
    · unfold psU; rw [up_ne (by omega), up_j (by omega), up_j (by omega), cpy_in (by omega) (by omega), cpy_ne (by omega), show 0 + (16 * k + 7 + t - (k * 16 + 7)) = t by omega]; exact a2
  · unfold psU; rw [up_ne (by omega), up_j (by omega), show 16 * k + 14 = k * 16 + 14 by omega, up_at]; exact h2
  · unfold psU; rw [up_ne (by omega), show 16 * k + 15 = k * 16 + 14 + 1 by omega, up_at]; exact h3
theorem psU_SHR {σ : Sg} {s m g : Nat} {Rs : List (Nat → Int)} {T row : Nat → Int} (hne : g + 3 < s) (h0 : σ s 0 = (m : Int)) (hl : Rs.length < m) (hrw : ∀ (k : Nat) (row : Nat → Int), Rs[k]? = some row → rwA σ (s + 1) (16 * k) row) (hR : RW σ g T row) : SHR (psU σ s g Rs.length) s m (Rs ++ [row]) := by
  refine ⟨?_, ?_, by simp; omega, fun k row' hk => ?_⟩
  · unfold psU; rw [up_j (by decide), up_ne (by omega), up_ne (by omega), cpy_ne (by omega), cpy_ne (by omega)]; exact h0
  · unfold psU; rw [up_at]; simp
  · by_cases e : k < Rs.length
    · rw [List.getElem?_append_left e] at hk
      refine rwA_cong (hrw k row' hk) (fun j _ _ => psU_lo (by omega))
    · rw [List.getElem?_append_right (by omega)] at hk
      have hz : k - Rs.length < 1 := (List.getElem?_eq_some_iff.mp hk).1
      have e2 : k = Rs.length := by omega
      subst e2
      rw [Nat.sub_self] at hk
      cases hk
      exact psU_row hne hR
theorem ok_push {σ : Sg} {s m g q : Nat} {Rs : List (Nat → Int)} {T row : Nat → Int} (hk : SK s m) (hk2 : RK g q) (hne : g + 3 < s) (hS : SHR σ s m Rs) (hR : RW σ g T row) : OK SHc mX4_push 1 [vR s, vR g] σ (RPn (fun τ => (∀ c, c ≠ s → c ≠ s + 1 → τ c = σ c) ∧ SHR τ s m (pushL m Rs row))) := by
  obtain ⟨hs0, hs1, hm⟩ := hk
  obtain ⟨hg0, hg1, hg2, hg3⟩ := hk2
  obtain ⟨a1, a2, a3, a4⟩ := id hS
  refine OK.enter (L' := [vR s, vR g, vN]) (by decide +kernel) (by simp [ent0]) rfl ?_
  refine PP.rg (fun hg => ?_)
  have key : ∀ (σ1 : Sg) (R1 : List (Nat → Int)), R1.length < m → σ1 s 0 = (m : Int) → σ1 s 2 = (R1.length : Int) → (∀ c, c ≠ s → c ≠ s + 1 → σ1 c = σ c) → (∀ (k : Nat) (row : Nat → Int), R1[k]? = some row → rwA σ1 (s + 1) (16 * k) row) → R1 ++ [row] = pushL m Rs row → PP SHc mX4_push 1 44 [vR s, vR g, vN] [] σ1 (RPn (fun τ => (∀ c, c ≠ s → c ≠ s + 1 → τ c = σ c) ∧ SHR τ s m (pushL m Rs row))) := by
    intro σ1 R1 hl e0 e2 ef erw el
    have eg : σ1 g = σ g := ef g (by omega) (by omega)
    have eg1 : σ1 (g + 1) = σ (g + 1) := ef _ (by omega) (by omega)
    have eg2 : σ1 (g + 2) = σ (g + 2) := ef _ (by omega) (by omega)
    have eg3 : σ1 (g + 3) = σ (g + 3) := ef _ (by omega) (by omega)
    have hR1 : RW σ1 g T row := ⟨fun t ht => by rw [eg1, eg2, eg3]; exact hR.1 t ht, by rw [eg]; exact hR.2.1, by rw [eg]; exact hR.2.2⟩
    refine PP.rg (fun hgg => ?_)
    refine PP.aload_n dX4_push_44 rfl ?_
    refine PP.getfI dX4_push_45 fl_X4_25 hs0 rfl ?_
    refine PP.eqI (y := ((R1.length : Nat) : Int)) e2 ?_
    refine PP.bipush dX4_push_48 (by decide) ?_
    refine PP.imul dX4_push_50 ?_
    refine PP.istore_n (L' := [_, _, _]) dX4_push_51 (Nat.le_of_ble_eq_true rfl) rfl rfl ?_
    refine PP.aload_n dX4_push_52 rfl ?_
    refine PP.getfR dX4_push_53 fl_X4_34 hg0 rfl ?_
    refine PP.iconst dX4_push_56 ?_
    refine PP.aload_n dX4_push_57 rfl ?_
    refine PP.getfR dX4_push_58 fl_X4_21 hs0 rfl ?_
    refine PP.iload_n dX4_push_61 rfl ?_
    refine PP.bipush dX4_push_62 (by decide) ?_
    refine PP.acopy dX4_push_64 sc_X4_28 hg1 hs1 (by first | decide | omega) (by first | decide | omega) (by first | omega | exact hgg _ _ | (unfold R32; omega)) (by first | omega | exact hgg _ _ | (unfold R32; omega)) (by first | omega | exact hgg _ _ | (unfold R32; omega)) (by first | omega | exact hgg _ _ | (unfold R32; omega)) (by first | omega | exact hgg _ _ | (unfold R32; omega)) (Nat.le_of_ble_eq_true rfl) (Nat.le_of_ble_eq_true rfl) ?_
    refine PP.aload_n dX4_push_67 rfl ?_
    refine PP.getfR dX4_push_68 fl_X4_39 hg0 rfl ?_
    refine PP.iconst dX4_push_71 ?_
    refine PP.aload_n dX4_push_72 rfl ?_
    refine PP.getfR dX4_push_73 fl_X4_21 hs0 rfl ?_
    refine PP.iload_n dX4_push_76 rfl ?_
    refine PP.bipush dX4_push_77 (by decide) ?_
    refine PP.iadd dX4_push_79 ?_
    refine PP.bipush dX4_push_80 (by decide) ?_
    refine PP.acopy dX4_push_82 sc_X4_28 hg2 hs1 (by first | decide | omega) (by first | decide | omega) (by first | omega | exact hgg _ _ | (unfold R32; omega)) (by first | omega | exact hgg _ _ | (unfold R32; omega)) (by first | omega | exact hgg _ _ | (unfold R32; omega)) (by first | omega | exact hgg _ _ | (unfold R32; omega)) (by first | omega | exact hgg _ _ | (unfold R32; omega)) (Nat.le_of_ble_eq_true rfl) (Nat.le_of_ble_eq_true rfl) ?_
    refine PP.aload_n dX4_push_85 rfl ?_
    refine PP.getfR dX4_push_86 fl_X4_21 hs0 rfl ?_
    refine PP.iload_n dX4_push_89 rfl ?_
    refine PP.bipush dX4_push_90 (by decide) ?_
    refine PP.iadd dX4_push_92 ?_
    refine PP.aload_n dX4_push_93 rfl ?_
    refine PP.getfI dX4_push_94 fl_X4_42 hg0 rfl ?_
    refine PP.eqI (y := σ1 g 4) (by rw [cpy_ne (by omega), cpy_ne (by omega)]) ?_
    refine PP.iastoreN (n := ((R1.length * 16) + 14)) hs1 (by first | decide | omega) (by first | rfl | omega) (by first | omega | exact hgg _ _ | (unfold R32; omega)) (by first | omega | exact hgg _ _ | (unfold R32; omega)) dX4_push_97 ?_
    refine PP.aload_n dX4_push_98 rfl ?_
    refine PP.getfR dX4_push_99 fl_X4_21 hs0 rfl ?_
    refine PP.iload_n dX4_push_102 rfl ?_
    refine PP.bipush dX4_push_103 (by decide) ?_
    refine PP.iadd dX4_push_105 ?_
    refine PP.iconst dX4_push_106 ?_
    refine PP.iadd dX4_push_107 ?_
    refine PP.aload_n dX4_push_108 rfl ?_
    refine PP.getfI dX4_push_109 fl_X4_45 hg0 rfl ?_
    refine PP.eqI (y := σ1 g 5) (by rw [up_ne (by omega), cpy_ne (by omega), cpy_ne (by omega)]) ?_
    refine PP.iastoreN (n := (((R1.length * 16) + 14) + 1)) hs1 (by first | decide | omega) (by first | rfl | omega) (by first | omega | exact hgg _ _ | (unfold R32; omega)) (by first | omega | exact hgg _ _ | (unfold R32; omega)) dX4_push_112 ?_
    refine PP.aload_n dX4_push_113 rfl ?_
    refine PP.dup rfl dX4_push_114 ?_
    refine PP.getfI dX4_push_115 fl_X4_25 hs0 rfl ?_
    refine PP.eqI (y := ((R1.length : Nat) : Int)) (by rw [up_ne (by omega), up_ne (by omega), cpy_ne (by omega), cpy_ne (by omega)]; exact e2) ?_
    refine PP.iconst dX4_push_118 ?_
    refine PP.iadd dX4_push_119 ?_
    refine PP.putI dX4_push_120 fp_X4_25 hs0 rfl (by first | omega | exact hgg _ _ | (unfold R32; omega)) ?_
    refine PP.vret dX4_push_123 rfl ?_
    refine ⟨rfl, fun c h0 h1 => ?_, ?_⟩
    · exact (psU_ne (k := R1.length) h0 h1).trans (ef c h0 h1)
    · rw [← el]
      exact psU_SHR hne e0 hl erw hR1
  refine PP.aload_n dX4_push_0 rfl ?_
  refine PP.getfI dX4_push_1 fl_X4_25 hs0 rfl ?_
  refine PP.aload_n dX4_push_4 rfl ?_
  refine PP.getfI dX4_push_5 fl_X4_15 hs0 rfl ?_
  refine PP.icmp_lt (tgt := 44) (by first | omega | exact hg _ _ | (unfold R32; omega)) (by first | omega | exact hg _ _ | (unfold R32; omega)) dX4_push_8 (by decide) (fun h8 => ?_) (fun h8 => ?_)
  · exact key σ Rs (by omega) a1 a2 (fun _ _ _ => rfl) a4 (by unfold pushL; rw [if_pos (by omega)])
  · refine PP.aload_n dX4_push_11 rfl ?_
    refine PP.getfR dX4_push_12 fl_X4_21 hs0 rfl ?_
    refine PP.bipush dX4_push_15 (by decide) ?_
    refine PP.aload_n dX4_push_17 rfl ?_
    refine PP.getfR dX4_push_18 fl_X4_21 hs0 rfl ?_
    refine PP.iconst dX4_push_21 ?_
    refine PP.aload_n dX4_push_22 rfl ?_
    refine PP.getfI dX4_push_23 fl_X4_15 hs0 rfl ?_
    refine PP.eqI (y := (m : Int)) a1 ?_
    refine PP.iconst dX4_push_26 ?_
    refine PP.isub dX4_push_27 ?_
    refine PP.bipush dX4_push_28 (by decide) ?_
    refine PP.imul dX4_push_30 ?_
    refine PP.acopy dX4_push_31 sc_X4_28 hs1 hs1 (by first | decide | omega) (by first | decide | omega) (by first | omega | exact hg _ _ | (unfold R32; omega)) (by first | omega | exact hg _ _ | (unfold R32; omega)) (by first | omega | exact hg _ _ | (unfold R32; omega)) (by first | omega | exact hg _ _ | (unfold R32; omega)) (by first | omega | exact hg _ _ | (unfold R32; omega)) (Nat.le_of_ble_eq_true rfl) (Nat.le_of_ble_eq_true rfl) ?_
    refine PP.aload_n dX4_push_34 rfl ?_
    refine PP.aload_n dX4_push_35 rfl ?_
    refine PP.getfI dX4_push_36 fl_X4_15 hs0 rfl ?_
    refine PP.eqI (y := (m : Int)) (by rw [cpy_ne (by omega)]; exact a1) ?_
    refine PP.iconst dX4_push_39 ?_
    refine PP.isub dX4_push_40 ?_
    refine PP.putI dX4_push_41 fp_X4_25 hs0 rfl (by first | omega | exact hg _ _ | (unfold R32; omega)) ?_
    have hm1 : ((m : Int) - 1) * 16 = ((16 * (m - 1) : Nat) : Int) := by omega
    refine key _ (Rs.drop 1) (by simp; omega) (by rw [up_j (by decide), cpy_ne (by omega)]; exact a1) (by rw [up_at]; simp; omega) (fun c h0 h1 => by rw [up_ne h0, cpy_ne h1]) (fun k row' hk => ?_) (by unfold pushL; rw [if_neg (by omega)])
    rw [List.getElem?_drop] at hk
    have hk1 : 1 + k < Rs.length := (List.getElem?_eq_some_iff.mp hk).1
    obtain ⟨b1, b2, b3⟩ := a4 (1 + k) row' hk
    have rd : ∀ j, 16 * k ≤ j → j < 16 * k + 16 → up (cpy σ (s + 1) (s + 1) (16 : Int).toNat (0 : Int).toNat (((m : Int) - 1) * 16).toNat) s 2 ((m : Int) - 1) (s + 1) j = σ (s + 1) (16 + j) := by
      intro j j1 j2
      rw [up_ne (by omega), hm1, cpy_in (by simp) (by simp; omega)]
      simp
    refine ⟨fun t ht => ?_, ?_, ?_⟩
    · refine ⟨(rd _ (by omega) (by omega)).trans ?_, (rd _ (by omega) (by omega)).trans ?_⟩
      · rw [show 16 + (16 * k + t) = 16 * (1 + k) + t by omega]; exact (b1 t ht).1
      · rw [show 16 + (16 * k + 7 + t) = 16 * (1 + k) + 7 + t by omega]; exact (b1 t ht).2
    · refine (rd _ (by omega) (by omega)).trans ?_
      rw [show 16 + (16 * k + 14) = 16 * (1 + k) + 14 by omega]; exact b2
    · refine (rd _ (by omega) (by omega)).trans ?_
      rw [show 16 + (16 * k + 15) = 16 * (1 + k) + 15 by omega]; exact b3
