/-! the smallest methods -/
def RK (r q : Nat) : Prop := SHc[r]? = some (.inl (2, [some q, some (r + 1), some (r + 2), some (r + 3), none, none])) ∧ SHc[r + 1]? = some (.inr 7) ∧ SHc[r + 2]? = some (.inr 7) ∧ SHc[r + 3]? = some (.inr 7)
def DK (q : Nat) : Prop := SHc[q]? = some (.inl (0, [none, none, none, none, some (q + 1), some (q + 2), some (q + 3), some (q + 4), some (q + 5)])) ∧ SHc[q + 1]? = some (.inr 7) ∧ SHc[q + 2]? = some (.inr 7) ∧ SHc[q + 3]? = some (.inr 7) ∧ SHc[q + 4]? = some (.inr 7) ∧ SHc[q + 5]? = some (.inr 24)
theorem RK9 : RK 9 3 := ⟨rfl, rfl, rfl, rfl⟩
theorem RK20 : RK 20 14 := ⟨rfl, rfl, rfl, rfl⟩
theorem RK24 : RK 24 14 := ⟨rfl, rfl, rfl, rfl⟩
theorem RK29 : RK 29 14 := ⟨rfl, rfl, rfl, rfl⟩
theorem DK3 : DK 3 := ⟨rfl, rfl, rfl, rfl, rfl, rfl⟩
theorem DK14 : DK 14 := ⟨rfl, rfl, rfl, rfl, rfl, rfl⟩
theorem OK.enterF {SH : List shp} {M : mth} {d : Nat} {σ : Sg} {Q : Option pv → Sg → Prop} {vs : List pv} {L' : List pv} (hpl : plainFor M.1 = true) (hlen : (ent0 vs).length ≤ M.2.2.1) (hL' : L0 vs M.2.2.1 = L') (k : PP SH M d 0 L' [] σ Q) : OK SH M d vs σ Q := by
  subst hL'
  intro l D ad cA hI hR
  refine va_MetF (cc := M.2.1) (maxL := M.2.2.1) (ret := M.2.2.2) hpl rfl ?_
  intro p e s m args below meth c s₁ B hml hv
  obtain ⟨rfl, hP, hK, hN⟩ := hv
  have X : Cx SH M p s m (List.map (toV ad) vs).toArray meth c D ad cA := ⟨B.exec, B.bytes, B.returns, hml, findClass_of_methodNamed B.named, atoms_spec (ws := wsw M) B.pre, B.notSynchronized, hK, hI, hN⟩
  rw [lg_entry_eq]
  exact k p l e s m _ below meth c D ad cA s.heap [] _ X hP va_S.rf hR (LR.entry ad vs hlen)
theorem ok_min {SH : List shp} {σ : Sg} {x y : Int} (hx : R32 x) (hy : R32 y) : OK SH mJ9_min 1 [vI x, vI y] σ (RV (if y < x then y else x) σ) := by
  refine OK.enterF (L' := [vI x, vI y]) (by decide +kernel) (by simp [ent0]) rfl ?_
  refine PP.iload_n dJ9_min_7cf53_0 rfl ?_
  refine PP.iload_n dJ9_min_7cf53_1 rfl ?_
  refine PP.icmp_gt (tgt := 9) (by first | assumption | omega) (by first | assumption | omega) dJ9_min_7cf53_2 (by decide) (fun h2 => ?_) (fun h2 => ?_)
  · refine PP.iload_n dJ9_min_7cf53_9 rfl ?_
    refine PP.iret dJ9_min_7cf53_10 rfl ?_
    by_cases q : y < x
    · rw [if_pos q]; exact ⟨by first | rfl | omega, rfl⟩
    · rw [if_neg q]; exact ⟨by first | rfl | omega, rfl⟩
  · refine PP.iload_n dJ9_min_7cf53_5 rfl ?_
    refine PP.goto (tgt := 10) dJ9_min_7cf53_6 (by decide) ?_
    refine PP.iret dJ9_min_7cf53_10 rfl ?_
    by_cases q : y < x
    · rw [if_pos q]; exact ⟨by first | rfl | omega, rfl⟩
    · rw [if_neg q]; exact ⟨by first | rfl | omega, rfl⟩
theorem ok_isIn {σ : Sg} {r q t : Nat} (hk : RK r q) (ht : t < 7) : OK SHc mX2_isIn 1 [vR r, vI (t : Int)] σ (RV (b2i (decide (¬ σ (r + 3) t = 0))) σ) := by
  obtain ⟨hr0, hr1, hr2, hr3⟩ := hk
  refine OK.enter (L' := [vR r, vI (t : Int)]) (by decide +kernel) (by simp [ent0]) rfl ?_
  refine PP.rg (fun hg => ?_)
  refine PP.aload_n dX2_isIn_0 rfl ?_
  refine PP.getfR dX2_isIn_1 fl_X2_18 hr0 rfl ?_
  refine PP.iload_n dX2_isIn_4 rfl ?_
  refine PP.ialoadN (n := t) hr3 (by decide) (by first | rfl | omega) (by first | omega | exact hg _ _ | (unfold R32; omega)) dX2_isIn_5 ?_
  refine PP.if_eq (tgt := 13) (by first | omega | exact hg _ _ | (unfold R32; omega)) dX2_isIn_6 (by decide) (fun h6 => ?_) (fun h6 => ?_)
  · refine PP.iconst dX2_isIn_13 ?_
    refine PP.zret dX2_isIn_14 rfl (by first | decide | omega) ?_
    exact ⟨by simp [b2i, *], rfl⟩
  · refine PP.iconst dX2_isIn_9 ?_
    refine PP.goto (tgt := 14) dX2_isIn_10 (by decide) ?_
    refine PP.zret dX2_isIn_14 rfl (by first | decide | omega) ?_
    exact ⟨by simp [b2i, *], rfl⟩
