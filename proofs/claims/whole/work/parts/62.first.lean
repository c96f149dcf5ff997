/-! the first text, read -/
theorem rd_step {x : Nat → Int} {b k i : Nat} {st st' : RS} {ns : List Int} {nx : Nat} {v : Int} {y : RS} (hi : i < b) (hr : rdN x (b - (i + 1)) (i + 1) [] 0 0 = some (ns, nx)) (hs : itS (x i) ns st st') (h : rdA x b k nx st' v y) : rdA x b (k + 1) i st v y := by
  rw [rdA]
  exact Or.inr ⟨hi, Or.inr ⟨ns, nx, hr, Or.inr ⟨st', hs, h⟩⟩⟩
theorem rd_end {x : Nat → Int} {b k : Nat} {st : RS} : rdA x b (k + 1) b st (-4) st := by
  rw [rdA]
  exact Or.inl ⟨Nat.le_refl _, rfl, rfl⟩
def fy0 : RS := RS0
def fy1 : RS := itSl fy0 12 5
def fy2 : RS := itTh fy1 0 1 5 3
def fy3 : RS := itTh fy2 0 1 7 4
def fy4 : RS := itTh fy3 1 3 4 5
def fy5 : RS := itTh fy4 2 1 2 2
def fy6 : RS := itTh fy5 2 1 2 6
def fy7 : RS := itTh fy6 3 2 8 3
def fy8 : RS := itTh fy7 0 2 6 1
def fy9 : RS := itPl fy8 0 4 1
def fy10 : RS := itPl fy9 1 6 0
def fy11 : RS := itPl fy10 2 0 1
def fy12 : RS := itPl fy11 3 7 0
def fy13 : RS := itPl fy12 4 8 0
def fy14 : RS := itAr fy13 7
def fy15 : RS := itWa fy14 6
def fy16 : RS := itCo fy15 2 4
def fy17 : RS := itCo fy16 3 4
def fy18 : RS := itCo fy17 7 30
theorem fi0 : itS (FTx 0) [12, 5] fy0 fy1 := Or.inl ⟨by decide +kernel, 12, 5, rfl, ⟨rfl, by decide +kernel, by decide +kernel, by decide +kernel⟩, rfl⟩
theorem fi1 : itS (FTx 6) [0, 1, 5, 3] fy1 fy2 := Or.inr (Or.inl ⟨by decide +kernel, 0, 1, 5, 3, rfl, ⟨by decide +kernel, by decide +kernel, ⟨by decide +kernel, by decide +kernel⟩, ⟨by decide +kernel, by decide +kernel⟩, ⟨by decide +kernel, by decide +kernel⟩⟩, rfl⟩)
theorem fi2 : itS (FTx 15) [0, 1, 7, 4] fy2 fy3 := Or.inr (Or.inl ⟨by decide +kernel, 0, 1, 7, 4, rfl, ⟨by decide +kernel, by decide +kernel, ⟨by decide +kernel, by decide +kernel⟩, ⟨by decide +kernel, by decide +kernel⟩, ⟨by decide +kernel, by decide +kernel⟩⟩, rfl⟩)
theorem fi3 : itS (FTx 24) [1, 3, 4, 5] fy3 fy4 := Or.inr (Or.inl ⟨by decide +kernel, 1, 3, 4, 5, rfl, ⟨by decide +kernel, by decide +kernel, ⟨by decide +kernel, by decide +kernel⟩, ⟨by decide +kernel, by decide +kernel⟩, ⟨by decide +kernel, by decide +kernel⟩⟩, rfl⟩)
theorem fi4 : itS (FTx 33) [2, 1, 2, 2] fy4 fy5 := Or.inr (Or.inl ⟨by decide +kernel, 2, 1, 2, 2, rfl, ⟨by decide +kernel, by decide +kernel, ⟨by decide +kernel, by decide +kernel⟩, ⟨by decide +kernel, by decide +kernel⟩, ⟨by decide +kernel, by decide +kernel⟩⟩, rfl⟩)
theorem fi5 : itS (FTx 42) [2, 1, 2, 6] fy5 fy6 := Or.inr (Or.inl ⟨by decide +kernel, 2, 1, 2, 6, rfl, ⟨by decide +kernel, by decide +kernel, ⟨by decide +kernel, by decide +kernel⟩, ⟨by decide +kernel, by decide +kernel⟩, ⟨by decide +kernel, by decide +kernel⟩⟩, rfl⟩)
theorem fi6 : itS (FTx 51) [3, 2, 8, 3] fy6 fy7 := Or.inr (Or.inl ⟨by decide +kernel, 3, 2, 8, 3, rfl, ⟨by decide +kernel, by decide +kernel, ⟨by decide +kernel, by decide +kernel⟩, ⟨by decide +kernel, by decide +kernel⟩, ⟨by decide +kernel, by decide +kernel⟩⟩, rfl⟩)
theorem fi7 : itS (FTx 60) [0, 2, 6, 1] fy7 fy8 := Or.inr (Or.inl ⟨by decide +kernel, 0, 2, 6, 1, rfl, ⟨by decide +kernel, by decide +kernel, ⟨by decide +kernel, by decide +kernel⟩, ⟨by decide +kernel, by decide +kernel⟩, ⟨by decide +kernel, by decide +kernel⟩⟩, rfl⟩)
theorem fi8 : itS (FTx 69) [0, 4, 1] fy8 fy9 := Or.inr (Or.inr (Or.inl ⟨by decide +kernel, 0, 4, 1, rfl, ⟨by decide +kernel, by decide +kernel, by decide +kernel, by decide +kernel⟩, rfl⟩))
theorem fi9 : itS (FTx 76) [1, 6, 0] fy9 fy10 := Or.inr (Or.inr (Or.inl ⟨by decide +kernel, 1, 6, 0, rfl, ⟨by decide +kernel, by decide +kernel, by decide +kernel, by decide +kernel⟩, rfl⟩))
theorem fi10 : itS (FTx 83) [2, 0, 1] fy10 fy11 := Or.inr (Or.inr (Or.inl ⟨by decide +kernel, 2, 0, 1, rfl, ⟨by decide +kernel, by decide +kernel, by decide +kernel, by decide +kernel⟩, rfl⟩))
theorem fi11 : itS (FTx 90) [3, 7, 0] fy11 fy12 := Or.inr (Or.inr (Or.inl ⟨by decide +kernel, 3, 7, 0, rfl, ⟨by decide +kernel, by decide +kernel, by decide +kernel, by decide +kernel⟩, rfl⟩))
theorem fi12 : itS (FTx 97) [4, 8, 0] fy12 fy13 := Or.inr (Or.inr (Or.inl ⟨by decide +kernel, 4, 8, 0, rfl, ⟨by decide +kernel, by decide +kernel, by decide +kernel, by decide +kernel⟩, rfl⟩))
theorem fi13 : itS (FTx 104) [7] fy13 fy14 := Or.inr (Or.inr (Or.inr (Or.inl ⟨by decide +kernel, 7, rfl, ⟨by decide +kernel, by decide +kernel⟩, rfl⟩)))
theorem fi14 : itS (FTx 107) [6] fy14 fy15 := Or.inr (Or.inr (Or.inr (Or.inr (Or.inl ⟨by decide +kernel, 6, rfl, ⟨by decide +kernel, by decide +kernel⟩, rfl⟩))))
theorem fi15 : itS (FTx 110) [2, 4] fy15 fy16 := Or.inr (Or.inr (Or.inr (Or.inr (Or.inr (⟨by decide +kernel, 2, 4, rfl, ⟨by decide +kernel, by decide +kernel⟩, rfl⟩)))))
theorem fi16 : itS (FTx 115) [3, 4] fy16 fy17 := Or.inr (Or.inr (Or.inr (Or.inr (Or.inr (⟨by decide +kernel, 3, 4, rfl, ⟨by decide +kernel, by decide +kernel⟩, rfl⟩)))))
theorem fi17 : itS (FTx 120) [7, 30] fy17 fy18 := Or.inr (Or.inr (Or.inr (Or.inr (Or.inr (⟨by decide +kernel, 7, 30, rfl, ⟨by decide +kernel, by decide +kernel⟩, rfl⟩)))))
theorem ft_rd : rdA FTx 126 200 0 RS0 (-4) fy18 := by
  show rdA FTx 126 200 0 fy0 (-4) fy18
  refine rd_step (k := 199) (ns := [12, 5]) (nx := 6) (by decide) (by decide +kernel) fi0 ?_
  refine rd_step (k := 198) (ns := [0, 1, 5, 3]) (nx := 15) (by decide) (by decide +kernel) fi1 ?_
  refine rd_step (k := 197) (ns := [0, 1, 7, 4]) (nx := 24) (by decide) (by decide +kernel) fi2 ?_
  refine rd_step (k := 196) (ns := [1, 3, 4, 5]) (nx := 33) (by decide) (by decide +kernel) fi3 ?_
  refine rd_step (k := 195) (ns := [2, 1, 2, 2]) (nx := 42) (by decide) (by decide +kernel) fi4 ?_
  refine rd_step (k := 194) (ns := [2, 1, 2, 6]) (nx := 51) (by decide) (by decide +kernel) fi5 ?_
  refine rd_step (k := 193) (ns := [3, 2, 8, 3]) (nx := 60) (by decide) (by decide +kernel) fi6 ?_
  refine rd_step (k := 192) (ns := [0, 2, 6, 1]) (nx := 69) (by decide) (by decide +kernel) fi7 ?_
  refine rd_step (k := 191) (ns := [0, 4, 1]) (nx := 76) (by decide) (by decide +kernel) fi8 ?_
  refine rd_step (k := 190) (ns := [1, 6, 0]) (nx := 83) (by decide) (by decide +kernel) fi9 ?_
  refine rd_step (k := 189) (ns := [2, 0, 1]) (nx := 90) (by decide) (by decide +kernel) fi10 ?_
  refine rd_step (k := 188) (ns := [3, 7, 0]) (nx := 97) (by decide) (by decide +kernel) fi11 ?_
  refine rd_step (k := 187) (ns := [4, 8, 0]) (nx := 104) (by decide) (by decide +kernel) fi12 ?_
  refine rd_step (k := 186) (ns := [7]) (nx := 107) (by decide) (by decide +kernel) fi13 ?_
  refine rd_step (k := 185) (ns := [6]) (nx := 110) (by decide) (by decide +kernel) fi14 ?_
  refine rd_step (k := 184) (ns := [2, 4]) (nx := 115) (by decide) (by decide +kernel) fi15 ?_
  refine rd_step (k := 183) (ns := [3, 4]) (nx := 120) (by decide) (by decide +kernel) fi16 ?_
  refine rd_step (k := 182) (ns := [7, 30]) (nx := 126) (by decide) (by decide +kernel) fi17 ?_
  exact rd_end (k := 181)
def FA : ST := (0, fun _ => 0, fy18.1, fy18.2.1, fy18.2.2.1, [], [], fun _ => -4)
theorem WF_FA (hy : wfS fy18) : WF FA := by
  refine ⟨by decide, fun j hj => absurd hj (Nat.not_lt_zero j), hy.1, by decide, ⟨hy.2.1, hy.2.2.1, fun _ => false, ?_⟩, fun r hq => by simp [FA] at hq, fun r hq => by simp [FA] at hq, fun t => Or.inl rfl, fun t _ => rfl⟩
  show fy18.2.2.1 1 = _
  rw [hy.2.2.2.1, msk_zero.mpr (fun _ _ => rfl)]
  rfl
/-- one thing of the model's first rack -/
theorem m_firstThing {σ : Sg} {i : Nat} {a b c d e f : Int} (hi : σ 3 3 = (i : Int)) (hi7 : i < 7) (ha : R32 a) (hb : R32 b) (hc : R32 c) (hd : R32 d) (he : R32 e) (hf : R32 f) : OK SHm mX6_firstThing 1 [vR 0, vI a, vI b, vI c, vI d, vI e, vI f] σ (RPn (fun τ => (∀ c, c ≠ 3 → c ≠ 5 → τ c = σ c) ∧ τ 3 = thT (σ 3) i a b c d ∧ τ 5 = uf (uf (σ 5) (2 + i) e) (9 + i) f)) := by
  refine OK.enter (L' := [vR 0, vI a, vI b, vI c, vI d, vI e, vI f, vN]) (by decide +kernel) (by simp [ent0]) rfl ?_
  refine PP.aload_n dX6_firstThing_0 rfl ?_
  refine PP.getfR dX6_firstThing_1 fl_X6_16 sm0 rfl ?_
  refine PP.iconst dX6_firstThing_4 ?_
  refine PP.ialoadN (n := 3) sm3 (by first | decide | omega) (by first | rfl | omega) (by first | assumption | omega | (unfold R32; omega)) dX6_firstThing_5 ?_
  refine PP.eqI hi ?_
  refine PP.istore (L' := [_, _, _, _, _, _, _, _]) dX6_firstThing_6 (Nat.le_of_ble_eq_true rfl) rfl rfl ?_
  refine PP.aload_n dX6_firstThing_8 rfl ?_
  refine PP.getfR dX6_firstThing_9 fl_X6_16 sm0 rfl ?_
  refine PP.iconst dX6_firstThing_12 ?_
  refine PP.iload dX6_firstThing_13 rfl ?_
  refine PP.iadd dX6_firstThing_15 ?_
  refine PP.iload_n dX6_firstThing_16 rfl ?_
  refine PP.iastoreN (n := (4 + i)) sm3 (by first | decide | omega) (by first | rfl | omega) (by first | assumption | omega | (unfold R32; omega)) (by first | assumption | omega | (unfold R32; omega)) dX6_firstThing_17 ?_
  refine PP.aload_n dX6_firstThing_18 rfl ?_
  refine PP.getfR dX6_firstThing_19 fl_X6_16 sm0 rfl ?_
  refine PP.bipush dX6_firstThing_22 (by decide) ?_
  refine PP.iload dX6_firstThing_24 rfl ?_
  refine PP.iadd dX6_firstThing_26 ?_
  refine PP.iload_n dX6_firstThing_27 rfl ?_
  refine PP.iastoreN (n := (11 + i)) sm3 (by first | decide | omega) (by first | rfl | omega) (by first | assumption | omega | (unfold R32; omega)) (by first | assumption | omega | (unfold R32; omega)) dX6_firstThing_28 ?_
  refine PP.aload_n dX6_firstThing_29 rfl ?_
  refine PP.getfR dX6_firstThing_30 fl_X6_16 sm0 rfl ?_
  refine PP.bipush dX6_firstThing_33 (by decide) ?_
  refine PP.iload dX6_firstThing_35 rfl ?_
  refine PP.iadd dX6_firstThing_37 ?_
  refine PP.iload_n dX6_firstThing_38 rfl ?_
  refine PP.iastoreN (n := (18 + i)) sm3 (by first | decide | omega) (by first | rfl | omega) (by first | assumption | omega | (unfold R32; omega)) (by first | assumption | omega | (unfold R32; omega)) dX6_firstThing_39 ?_
  refine PP.aload_n dX6_firstThing_40 rfl ?_
  refine PP.getfR dX6_firstThing_41 fl_X6_16 sm0 rfl ?_
  refine PP.bipush dX6_firstThing_44 (by decide) ?_
  refine PP.iload dX6_firstThing_46 rfl ?_
  refine PP.iadd dX6_firstThing_48 ?_
  refine PP.iload dX6_firstThing_49 rfl ?_
  refine PP.iastoreN (n := (25 + i)) sm3 (by first | decide | omega) (by first | rfl | omega) (by first | assumption | omega | (unfold R32; omega)) (by first | assumption | omega | (unfold R32; omega)) dX6_firstThing_51 ?_
  refine PP.aload_n dX6_firstThing_52 rfl ?_
  refine PP.getfR dX6_firstThing_53 fl_X6_22 sm0 rfl ?_
  refine PP.iconst dX6_firstThing_56 ?_
  refine PP.iload dX6_firstThing_57 rfl ?_
  refine PP.iadd dX6_firstThing_59 ?_
  refine PP.iload dX6_firstThing_60 rfl ?_
  refine PP.iastoreN (n := (2 + i)) sm5 (by first | decide | omega) (by first | rfl | omega) (by first | assumption | omega | (unfold R32; omega)) (by first | assumption | omega | (unfold R32; omega)) dX6_firstThing_62 ?_
  refine PP.aload_n dX6_firstThing_63 rfl ?_
  refine PP.getfR dX6_firstThing_64 fl_X6_22 sm0 rfl ?_
  refine PP.bipush dX6_firstThing_67 (by decide) ?_
  refine PP.iload dX6_firstThing_69 rfl ?_
  refine PP.iadd dX6_firstThing_71 ?_
  refine PP.iload dX6_firstThing_72 rfl ?_
  refine PP.iastoreN (n := (9 + i)) sm5 (by first | decide | omega) (by first | rfl | omega) (by first | assumption | omega | (unfold R32; omega)) (by first | assumption | omega | (unfold R32; omega)) dX6_firstThing_74 ?_
  refine PP.aload_n dX6_firstThing_75 rfl ?_
  refine PP.getfR dX6_firstThing_76 fl_X6_16 sm0 rfl ?_
  refine PP.iconst dX6_firstThing_79 ?_
  refine PP.dup2 rfl rfl dX6_firstThing_80 ?_
  refine PP.ialoadN (n := 3) sm3 (by first | decide | omega) (by first | rfl | omega) (by first | assumption | omega | (unfold R32; omega)) dX6_firstThing_81 ?_
  refine PP.eqI (y := (i : Int)) (by rw [up_ne (by decide), up_ne (by decide), up_j (by omega), up_j (by omega), up_j (by omega), up_j (by omega)]; exact hi) ?_
  refine PP.iconst dX6_firstThing_82 ?_
  refine PP.iadd dX6_firstThing_83 ?_
  refine PP.iastoreN (n := 3) sm3 (by first | decide | omega) (by first | rfl | omega) (by first | assumption | omega | (unfold R32; omega)) (by first | assumption | omega | (unfold R32; omega)) dX6_firstThing_84 ?_
  refine PP.vret dX6_firstThing_85 rfl ?_
  refine ⟨rfl, fun c h3 h5 => by rw [up_ne h3, up_ne h5, up_ne h5, up_ne h3, up_ne h3, up_ne h3, up_ne h3], ?_, ?_⟩
  · funext j
    simp only [up, thT, uf, true_and]
    simp
  · funext j
    simp only [up, uf, true_and]
    simp

