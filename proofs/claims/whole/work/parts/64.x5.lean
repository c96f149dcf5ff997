/-! the constructor of PlatesLookingIn -/
def pmt (c : Nat) : Nat := if 29 ≤ c ∧ c ≤ 32 then c + 2 else if c = 33 ∨ c = 34 then c - 4 else c
def adc (z : Nat) : Nat → Nat := fun c => z + pmt c
def ad5 (z q : Nat) : Nat → Nat := fun c => if c = 100 then q else z + pmt c
def sg0 : Sg := fun c j => if c = 35 ∧ j = 0 then 8 else if c = 37 ∧ j = 0 then 2 else 0
def sgk (k : Nat) : Sg := fun c j => if c = 1 ∧ j < k then FTx j else sg0 c j
def K39 : List ce := [.inl (5, [vR 1, vI 0, vR 2, vR 14, vR 20, vR 24, vR 28, vR 35, vR 37, vI 0, vI 0]), .inr 200, .inl (3, [vR 3, vR 9, vR 13, vI 0, vI 0]), .inl (0, [vI 0, vI 0, vI 0, vI 0, vR 4, vR 5, vR 6, vR 7, vR 8]), .inr 7, .inr 7, .inr 7, .inr 7, .inr 24, .inl (2, [vR 3, vR 10, vR 11, vR 12, vI 0, vI 0]), .inr 7, .inr 7, .inr 7, .inr 4, .inl (0, [vI 0, vI 0, vI 0, vI 0, vR 15, vR 16, vR 17, vR 18, vR 19]), .inr 7, .inr 7, .inr 7, .inr 7, .inr 24, .inl (2, [vR 14, vR 21, vR 22, vR 23, vI 0, vI 0]), .inr 7, .inr 7, .inr 7, .inl (2, [vR 14, vR 25, vR 26, vR 27, vI 0, vI 0]), .inr 7, .inr 7, .inr 7, .inl (1, [vR 14, vR 31, vR 29, vI 0, vR 30, vI 0, vI 0, vI 0, vI 0, vI 0]), .inr 7, .inr 7, .inl (2, [vR 14, vR 32, vR 33, vR 34, vI 0, vI 0]), .inr 7, .inr 7, .inr 7, .inl (4, [vI 8, vR 36, vI 0]), .inr 128, .inl (4, [vI 2, vR 38, vI 0]), .inr 32]
theorem RG_sg0 : RG sg0 := by
  intro c j
  unfold sg0
  split
  · exact ⟨by decide, by decide⟩
  · split
    · exact ⟨by decide, by decide⟩
    · exact R32_0
theorem sgk_0 : sgk 0 = sg0 := by
  funext c j
  unfold sgk
  rw [if_neg (by omega)]
theorem sgk_s (k : Nat) : up (sgk k) 1 k (FTx k) = sgk (k + 1) := by
  funext c j
  unfold up sgk
  by_cases h : c = 1 ∧ j = k
  · obtain ⟨rfl, rfl⟩ := h
    rw [if_pos ⟨rfl, rfl⟩, if_pos ⟨rfl, by omega⟩]
  · rw [if_neg h]
    by_cases h2 : c = 1 ∧ j < k
    · rw [if_pos h2, if_pos ⟨h2.1, by omega⟩]
    · rw [if_neg h2, if_neg (by omega)]
def rbd (SH : List shp) : Bool := SH.all fun h => match h with
  | .inl o => o.2.all fun x => match x with
    | some c => decide (c < SH.length)
    | none => true
  | .inr _ => true
theorem rbd_at {SH : List shp} (h : rbd SH = true) {c ci : Nat} {fs : List (Option Nat)} (hc : SH[c]? = some (.inl (ci, fs))) {j c' : Nat} (hj : fs[j]? = some (some c')) : c' < SH.length := by
  have h1 := List.all_eq_true.mp h _ (List.mem_of_getElem? hc)
  have h2 := List.all_eq_true.mp h1 _ (List.mem_of_getElem? hj)
  exact of_decide_eq_true h2
theorem ent_cong {SH : List shp} {ad ad' : Nat → Nat} {cA : ClassId} {σ : Sg} (had : ∀ c, c < SH.length → ad c = ad' c) (hrb : rbd SH = true) {c : Nat} {h : shp} (hc : SH[c]? = some h) : ent ad cA σ c h = ent ad' cA σ c h := by
  cases h with
  | inr n => rfl
  | inl x =>
    obtain ⟨ci, fs⟩ := x
    simp only [ent]
    congr 2
    apply List.ext_getElem?
    intro j
    rw [List.getElem?_mapIdx, List.getElem?_mapIdx]
    cases hj : fs[j]? with
    | none => rfl
    | some o =>
      cases o with
      | none => rfl
      | some c' =>
        simp only [Option.map_some, fval]
        rw [had c' (rbd_at hrb hc hj)]
theorem wsO_cong {SH : List shp} {ad ad' : Nat → Nat} {cA : ClassId} {σ : Sg} (had : ∀ c, c < SH.length → ad c = ad' c) (hrb : rbd SH = true) : wsO SH ad cA σ = wsO SH ad' cA σ := by
  apply List.ext_getElem?
  intro i
  simp only [wsO, List.getElem?_mapIdx]
  cases h : SH[i]? with
  | none => rfl
  | some x =>
    simp only [Option.map_some]
    rw [had i (List.getElem?_eq_some_iff.mp h).1, ent_cong had hrb h]
/-- what a made cell must be for the shape h of the cell k -/
def trc (P : Nat → Nat) (s0 : Sg) (k : Nat) : shp → ce
  | .inr n => .inr n
  | .inl (ci, fs) => .inl (ci, fs.mapIdx fun j o => match o with
    | none => vI (s0 k j)
    | some c => vR (P c))
theorem va_conv {SH : List shp} {K : List ce} {P : Nat → Nat} {s0 : Sg} {z : Nat} {ad : Nat → Nat} {D : va_G} {cA : ClassId} {H : Heap} (hK : ∀ k, k < SH.length → K[P k]? = (SH[k]?).map (trc P s0 k)) (had : ∀ c, c < SH.length → ad c = z + P c) (hrb : rbd SH = true) (harr : ∀ k n, SH[k]? = some (.inr n) → ∀ j, s0 k j = 0) (h : va_P D clsT (wsE K z cA) H) : va_P D clsT (wsO SH ad cA s0) H := by
  intro k q hk
  obtain ⟨hl, -⟩ := wsO_inv hk
  have hsh : SH[k]? = some SH[k] := List.getElem?_eq_getElem hl
  rw [wsO_get hsh] at hk
  cases hk
  have h1 := hK k hl
  rw [hsh] at h1
  have h2 := h (P k) _ (wsE_get (z := z) (cA := cA) h1)
  have e : eE z cA (trc P s0 k SH[k]) = ent ad cA s0 k SH[k] := by
    generalize SH[k] = x at hsh
    cases x with
    | inr n =>
      simp only [trc, eE, ent]
      congr 4
      funext j
      rw [harr k n hsh j]
      rfl
    | inl x =>
      obtain ⟨ci, fs⟩ := x
      simp only [trc, eE, ent]
      congr 2
      apply List.ext_getElem?
      intro j
      rw [List.getElem?_map, List.getElem?_mapIdx, List.getElem?_mapIdx]
      cases hj : fs[j]? with
      | none => rfl
      | some o =>
        cases o with
        | none => rfl
        | some c' =>
          simp only [Option.map_some, fval, toV, zd]
          rw [had c' (rbd_at hrb hsh hj)]
  rw [e, ← had k hl] at h2
  exact h2
theorem rbd_c : rbd SHc = true := by decide +kernel
theorem K39_ok : ∀ k, k < 39 → K39[pmt k]? = (SHc[k]?).map (trc pmt sg0 k)
  | 0, _ => rfl
  | 1, _ => rfl
  | 2, _ => rfl
  | 3, _ => rfl
  | 4, _ => rfl
  | 5, _ => rfl
  | 6, _ => rfl
  | 7, _ => rfl
  | 8, _ => rfl
  | 9, _ => rfl
  | 10, _ => rfl
  | 11, _ => rfl
  | 12, _ => rfl
  | 13, _ => rfl
  | 14, _ => rfl
  | 15, _ => rfl
  | 16, _ => rfl
  | 17, _ => rfl
  | 18, _ => rfl
  | 19, _ => rfl
  | 20, _ => rfl
  | 21, _ => rfl
  | 22, _ => rfl
  | 23, _ => rfl
  | 24, _ => rfl
  | 25, _ => rfl
  | 26, _ => rfl
  | 27, _ => rfl
  | 28, _ => rfl
  | 29, _ => rfl
  | 30, _ => rfl
  | 31, _ => rfl
  | 32, _ => rfl
  | 33, _ => rfl
  | 34, _ => rfl
  | 35, _ => rfl
  | 36, _ => rfl
  | 37, _ => rfl
  | 38, _ => rfl
  | n + 39, h => absurd h (by omega)
theorem sg0_arr : ∀ k n, SHc[k]? = some (.inr n) → ∀ j, sg0 k j = 0 := by
  intro k n hk j
  have h1 : k ≠ 35 := fun e => by subst e; rw [sc35] at hk; cases hk
  have h2 : k ≠ 37 := fun e => by subst e; rw [sc37] at hk; cases hk
  unfold sg0
  rw [if_neg (by omega), if_neg (by omega)]
theorem ad5_e (z q : Nat) : ∀ c, c < SHc.length → ad5 z q c = z + pmt c := by
  intro c hc
  have h1 : c < 39 := hc
  unfold ad5
  rw [if_neg (by omega)]
theorem io5 {D : va_G} {cA : ClassId} {z q : Nat} {H : Heap} (h : IE D cA z K39 H) : IO D cA SHc (ad5 z q) (sgk 0) (fun _ => True) H := by
  rw [sgk_0]
  exact ⟨RG_sg0, va_conv (P := pmt) K39_ok (ad5_e z q) rbd_c sg0_arr h.1, trivial⟩
theorem pmt_inj : ∀ c, c < 39 → ∀ c', c' < 39 → pmt c = pmt c' → c = c' := by decide +kernel
theorem inj5 (z q : Nat) : Inj SHc (ad5 z q) := by
  intro c c' hc hc' h
  have h1 : c < 39 := hc
  have h2 : c' < 39 := hc'
  unfold ad5 at h
  rw [if_neg (by omega), if_neg (by omega)] at h
  exact pmt_inj c h1 c' h2 (by omega)
theorem injc (z : Nat) : Inj SHc (adc z) := by
  intro c c' hc hc' h
  unfold adc at h
  exact pmt_inj c hc c' hc' (by omega)
theorem as5 (z q : Nat) : ∀ x, AS SHc (ad5 z q) x → AZ z x := by
  rintro x ⟨c, hc, rfl⟩
  have h1 : c < 39 := hc
  show z ≤ ad5 z q c
  unfold ad5
  rw [if_neg (by omega)]
  omega
theorem asC (z : Nat) : ∀ x, AS SHc (adc z) x → AZ z x := by
  rintro x ⟨c, hc, rfl⟩
  show z ≤ adc z c
  unfold adc
  omega

theorem mn_1 : Cond.static Lib.Math.min.name ∈ BW := BW_mem 284 (by decide +kernel) rfl
theorem mn_2 : Cond.code Lib.Math.min.name Lib.Math.min.code 2 (some .int) ∈ BW := BW_mem 285 (by decide +kernel) rfl
def B5 (D : va_G) (cA : ClassId) (z : Nat) (t : State) : Prop := ∃ σ : Sg, RepC σ FA ∧ wfS fy18 ∧ RG σ ∧ va_P D clsT (wsO SHc (adc z) cA σ) t.heap
def P5 (D : va_G) (cA : ClassId) (z q qv f : Nat) (U : State) : Prop := IE D cA z [.inl (5, [vN, vI 0, vN, vN, vN, vN, vN, vN, vN, vI 0, vI 0])] U.heap ∧ va_K D clsT [(cA, .int)] U ∧ NW2 U ∧ SF q qv f (AZ z) U U.heap ∧ vk_R RX5 58 FTs q U
theorem k_X5 (l : Launch) (D : va_G) (cA : ClassId) (z q qv f : Nat) : Met l mX5_init.1 (wsw mX5_init) (rme 12 38 629) (va_Pc [.ref z] (P5 D cA z q qv f)) (va_Qv (fun _ : Unit => True) (fun _ t => B5 D cA z t) (AZ z)) 38 629 (AZ z) := by
  refine Met.ofW (cc := cX5_init) (maxL := 3) (ret := none) (by decide) rfl ?_
  intro p e s m args below meth c s₁ B hml hv
  obtain ⟨rfl, hI0, hK, hN, hF, hZ⟩ := hv
  have X : CG RX5 cX5_init 3 p s m [Value.ref z].toArray c := ⟨B.exec, B.bytes, hml, findClass_of_methodNamed B.named, fun w hw => atoms_spec (ws := wsw mX5_init) B.pre w (wsw_bw hw)⟩
  have hr : meth.sig.returnType = none := B.returns
  have hlk := B.notSynchronized
  have hnm : meth.name = "<init>" := (name_of_methodNamed B.named B.method).1
  rw [lg_entry_eq]
  suffices hh : PW p l e (rme 12 38 629) s m [Value.ref z].toArray below meth c (zd z) (AZ z) (MQ below (va_Qv (fun _ : Unit => True) (fun _ t => B5 D cA z t) (AZ z)) [Value.ref z].toArray s 38 629 (AZ z)) 3 (IE D cA z [.inl (5, [vN, vI 0, vN, vN, vN, vN, vN, vN, vN, vI 0, vI 0])]) 0 0 0 [vR 0, vN, vN] [] from hh s.heap [] _ hI0 va_S.rf (LR.entry (zd z) [vR 0] (nL := 3) (Nat.le_of_ble_eq_true rfl))
  have tail : PW p l e (rme 12 38 629) s m [Value.ref z].toArray below meth c (ad5 z q) (AZ z) (MQ below (va_Qv (fun _ : Unit => True) (fun _ t => B5 D cA z t) (AZ z)) [Value.ref z].toArray s 38 629 (AZ z)) 3 (IO D cA SHc (ad5 z q) (sgk 126) (fun _ => True)) 38 629 142 [vR 0, vI 126, vI 126] [] := by
    have e126 : ∀ j, j < 126 → sgk 126 1 j = FTx j := fun j hj => by unfold sgk; rw [if_pos ⟨rfl, hj⟩]
    refine PW.aload_n X dX5_init_142 rfl ?_
    refine PW.getfo X hK dX5_init_143 fl_X5_16 sc0 rfl ?_
    refine PW.aload_n X dX5_init_146 rfl ?_
    refine PW.getfo X hK dX5_init_147 fl_X5_9 sc0 rfl ?_
    refine PW.iload_n X dX5_init_150 rfl ?_
    refine PW.callOK X hK hN.nws (inj5 z q) (as5 z q) off_true (As := [vR 1, vI 126]) (vs := [vR 1, vI ((126 : Nat) : Int)]) (ok_findFault (b := 126) (by decide) (fun j hj => by rw [e126 j hj]; have := FT_r j hj; omega)) dX5_init_151 vl_X5_76 sc2 rfl rfl rfl (fun r σ' h => by obtain ⟨v, rfl, -⟩ := h; rfl) rfl rfl (by decide) (Nat.le_of_ble_eq_true rfl) (Nat.le_of_ble_eq_true rfl) (Nat.le_of_ble_eq_true rfl) (Nat.le_of_ble_eq_true rfl) (fun r σ' h => ?_)
    obtain ⟨v, rfl, hfr, y, hy, hy2⟩ := h
    have hy3 := rdA_txt e126 _ _ _ _ _ hy
    obtain ⟨rfl, hyy⟩ := rdA_fun _ _ _ _ _ _ _ hy3 ft_rd
    have hyy := hyy rfl
    subst hyy
    obtain ⟨hrd, hwf⟩ := hy2 rfl
    refine PW.pop X rfl dX5_init_154 ?_
    refine PW.aload_n X dX5_init_155 rfl ?_
    refine PW.callOK X hK hN.nws (inj5 z q) (as5 z q) off_true (As := []) (vs := []) (ok_layWhat (len := 0) (txt := fun _ => 0) hrd hwf (by rw [hfr 0 (by omega)]; rfl) (fun j hj => absurd hj (Nat.not_lt_zero j)) (by rw [hfr 35 (by omega)]; rfl) (by rw [hfr 37 (by omega)]; rfl)) dX5_init_156 vl_X5_80 sc0 rfl rfl rfl (fun r σ' h => by obtain ⟨rfl, -⟩ := h; rfl) rfl rfl (by decide) (Nat.le_of_ble_eq_true rfl) (Nat.le_of_ble_eq_true rfl) (Nat.le_of_ble_eq_true rfl) (Nat.le_of_ble_eq_true rfl) (fun r σ2 h => ?_)
    obtain ⟨rfl, hrep⟩ := h
    exact PW.vretN X hr hlk (fun t' h => ⟨σ2, hrep, hwf, h.1, by rw [← wsO_cong (ad := ad5 z q) (ad' := adc z) (ad5_e z q) rbd_c]; exact h.2.1⟩) dX5_init_159
  have key : ∀ j k : Nat, j + k = 126 → PW p l e (rme 12 38 629) s m [Value.ref z].toArray below meth c (ad5 z q) (AZ z) (MQ below (va_Qv (fun _ : Unit => True) (fun _ t => B5 D cA z t) (AZ z)) [Value.ref z].toArray s 38 629 (AZ z)) 3 (IO D cA SHc (ad5 z q) (sgk k) (fun _ => True)) 38 629 119 [vR 0, vI 126, vI (k : Int)] [] := by
    intro j
    induction j with
    | zero =>
      intro k hk
      have hk : k = 126 := by omega
      subst hk
      refine PW.iload_n X dX5_init_119 rfl ?_
      refine PW.iload_n X dX5_init_120 rfl ?_
      exact PW.icmp_ge X ⟨by decide, by decide⟩ ⟨by decide, by decide⟩ dX5_init_121 (tgt := 142) rfl (fun _ => tail) (fun h => absurd h (by decide))
    | succ j ih =>
      intro k hk
      refine PW.iload_n X dX5_init_119 rfl ?_
      refine PW.iload_n X dX5_init_120 rfl ?_
      refine PW.icmp_ge X ⟨by omega, by omega⟩ ⟨by decide, by decide⟩ dX5_init_121 (tgt := 142) rfl (fun h => absurd h (by omega)) (fun _ => ?_)
      refine PW.aload_n X dX5_init_124 rfl ?_
      refine PW.getfo X hK dX5_init_125 fl_X5_9 sc0 rfl ?_
      refine PW.iload_n X dX5_init_128 rfl ?_
      refine PW.ldcS X (x := 100) hZ dX5_init_129 ?_
      refine PW.iload_n X dX5_init_131 rfl ?_
      refine PW.callVS X hF stb_IO (x := 100) (As := [vI (k : Int)]) (vs := [vR 0, vI (k : Int)]) (s_charAt (k := (k : Int)) (by omega) (by omega)) dX5_init_132 vl_X5_72 rfl rfl rfl rfl rfl (Nat.le_of_ble_eq_true rfl) (Nat.le_of_ble_eq_true rfl) (Nat.le_of_ble_eq_true rfl) (Nat.le_of_ble_eq_true rfl) (Nat.le_of_ble_eq_true rfl) ?_
      rw [Int.toNat_natCast]
      refine PW.iasto X hK (inj5 z q) (as5 z q) off_true sc1 (by decide) (by omega) ⟨by have := FT_r k (by omega); omega, by have := FT_r k (by omega); omega⟩ dX5_init_135 ?_
      rw [sgk_s]
      refine PW.iinc X (L' := [vR 0, vI 126, vI (((k + 1 : Nat) : Int))]) dX5_init_136 rfl rfl rfl ?_
      refine PW.goto X dX5_init_139 (tgt := 119) rfl ?_
      exact ih (k + 1) (by omega)
  have mid : PW p l e (rme 12 38 629) s m [Value.ref z].toArray below meth c (zd z) (AZ z) (MQ below (va_Qv (fun _ : Unit => True) (fun _ t => B5 D cA z t) (AZ z)) [Value.ref z].toArray s 38 629 (AZ z)) 3 (IE D cA z K39) 38 629 105 [vR 0, vN, vN] [] := by
    refine PW.to (ad' := ad5 z q) (I' := IO D cA SHc (ad5 z q) (sgk 0) (fun _ => True)) (fun H h => io5 h) rfl rfl ?_
    refine PW.ldcS X (x := 100) hZ dX5_init_105 ?_
    refine PW.callVS X hF stb_IO (x := 100) (As := []) (vs := [vR 0]) s_length dX5_init_107 vl_X5_60 rfl rfl rfl rfl rfl (by decide) (Nat.le_of_ble_eq_true rfl) (Nat.le_of_ble_eq_true rfl) (Nat.le_of_ble_eq_true rfl) (Nat.le_of_ble_eq_true rfl) ?_
    refine PW.sipush X dX5_init_110 rfl ?_
    refine PW.mmin X dX5_init_113 bw283 mn_1 mn_2 (z := 126) rfl (by decide) (Nat.le_of_ble_eq_true rfl) (Nat.le_of_ble_eq_true rfl) (Nat.le_of_ble_eq_true rfl) (Nat.le_of_ble_eq_true rfl) ?_
    refine PW.istore_n X (L' := [vR 0, vI 126, vN]) dX5_init_116 (Nat.le_of_ble_eq_true rfl) rfl rfl ?_
    refine PW.iconst X dX5_init_117 ?_
    refine PW.istore_n X (L' := [vR 0, vI 126, vI 0]) dX5_init_118 (Nat.le_of_ble_eq_true rfl) rfl rfl ?_
    exact key 126 0 rfl
  refine PW.aload_n X dX5_init_0 rfl ?_
  refine PW.objI X dX5_init_1 bx78 bx79 bx80 (by decide) (Nat.le_of_ble_eq_true rfl) (Nat.le_of_ble_eq_true rfl) ?_
  refine PW.aload_n X dX5_init_4 rfl ?_
  refine PW.sipush X dX5_init_5 rfl ?_
  refine PW.newarr (k := 200) X hK (by decide) bx150 (Nat.le_of_ble_eq_true rfl) (Nat.le_of_ble_eq_true rfl) dX5_init_8 (K' := [.inl (5, [vN, vI 0, vN, vN, vN, vN, vN, vN, vN, vI 0, vI 0]), .inr 200]) rfl ?_
  refine PW.putfn X hK hnm fpf_X5_9 (x := 0) rfl (by decide) (fun _ => rfl) (fun _ => rfl) dX5_init_10 (K' := [.inl (5, [vR 1, vI 0, vN, vN, vN, vN, vN, vN, vN, vI 0, vI 0]), .inr 200]) rfl ?_
  refine PW.aload_n X dX5_init_13 rfl ?_
  refine PW.newobj X hK kl_X5_13 (Nat.le_of_ble_eq_true rfl) (Nat.le_of_ble_eq_true rfl) dX5_init_14 (K' := [.inl (5, [vR 1, vI 0, vN, vN, vN, vN, vN, vN, vN, vI 0, vI 0]), .inr 200, .inl (3, [vN, vN, vN, vI 0, vI 0])]) rfl ?_
  refine PW.dup X rfl dX5_init_17 ?_
  refine PW.callIN X hK hN (As := []) k_X3_init_1 dX5_init_18 il_X5_15 rfl rfl (by decide) (Nat.le_of_ble_eq_true rfl) (Nat.le_of_ble_eq_true rfl) (Nat.le_of_ble_eq_true rfl) (Nat.le_of_ble_eq_true rfl) ?_
  refine PW.putfn X hK hnm fpf_X5_16 (x := 0) rfl (by decide) (fun _ => rfl) (fun _ => rfl) dX5_init_21 (K' := [.inl (5, [vR 1, vI 0, vR 2, vN, vN, vN, vN, vN, vN, vI 0, vI 0]), .inr 200, .inl (3, [vR 3, vR 9, vR 13, vI 0, vI 0]), .inl (0, [vI 0, vI 0, vI 0, vI 0, vR 4, vR 5, vR 6, vR 7, vR 8]), .inr 7, .inr 7, .inr 7, .inr 7, .inr 24, .inl (2, [vR 3, vR 10, vR 11, vR 12, vI 0, vI 0]), .inr 7, .inr 7, .inr 7, .inr 4]) rfl ?_
  refine PW.aload_n X dX5_init_24 rfl ?_
  refine PW.newobj X hK kl_X5_20 (Nat.le_of_ble_eq_true rfl) (Nat.le_of_ble_eq_true rfl) dX5_init_25 (K' := [.inl (5, [vR 1, vI 0, vR 2, vN, vN, vN, vN, vN, vN, vI 0, vI 0]), .inr 200, .inl (3, [vR 3, vR 9, vR 13, vI 0, vI 0]), .inl (0, [vI 0, vI 0, vI 0, vI 0, vR 4, vR 5, vR 6, vR 7, vR 8]), .inr 7, .inr 7, .inr 7, .inr 7, .inr 24, .inl (2, [vR 3, vR 10, vR 11, vR 12, vI 0, vI 0]), .inr 7, .inr 7, .inr 7, .inr 4, .inl (0, [vI 0, vI 0, vI 0, vI 0, vN, vN, vN, vN, vN])]) rfl ?_
  refine PW.dup X rfl dX5_init_28 ?_
  refine PW.callIN X hK hN (As := []) k_X0_init_2 dX5_init_29 il_X5_22 rfl rfl (by decide) (Nat.le_of_ble_eq_true rfl) (Nat.le_of_ble_eq_true rfl) (Nat.le_of_ble_eq_true rfl) (Nat.le_of_ble_eq_true rfl) ?_
  refine PW.putfn X hK hnm fpf_X5_23 (x := 0) rfl (by decide) (fun _ => rfl) (fun _ => rfl) dX5_init_32 (K' := [.inl (5, [vR 1, vI 0, vR 2, vR 14, vN, vN, vN, vN, vN, vI 0, vI 0]), .inr 200, .inl (3, [vR 3, vR 9, vR 13, vI 0, vI 0]), .inl (0, [vI 0, vI 0, vI 0, vI 0, vR 4, vR 5, vR 6, vR 7, vR 8]), .inr 7, .inr 7, .inr 7, .inr 7, .inr 24, .inl (2, [vR 3, vR 10, vR 11, vR 12, vI 0, vI 0]), .inr 7, .inr 7, .inr 7, .inr 4, .inl (0, [vI 0, vI 0, vI 0, vI 0, vR 15, vR 16, vR 17, vR 18, vR 19]), .inr 7, .inr 7, .inr 7, .inr 7, .inr 24]) rfl ?_
  refine PW.aload_n X dX5_init_35 rfl ?_
  refine PW.newobj X hK kl_X5_27 (Nat.le_of_ble_eq_true rfl) (Nat.le_of_ble_eq_true rfl) dX5_init_36 (K' := [.inl (5, [vR 1, vI 0, vR 2, vR 14, vN, vN, vN, vN, vN, vI 0, vI 0]), .inr 200, .inl (3, [vR 3, vR 9, vR 13, vI 0, vI 0]), .inl (0, [vI 0, vI 0, vI 0, vI 0, vR 4, vR 5, vR 6, vR 7, vR 8]), .inr 7, .inr 7, .inr 7, .inr 7, .inr 24, .inl (2, [vR 3, vR 10, vR 11, vR 12, vI 0, vI 0]), .inr 7, .inr 7, .inr 7, .inr 4, .inl (0, [vI 0, vI 0, vI 0, vI 0, vR 15, vR 16, vR 17, vR 18, vR 19]), .inr 7, .inr 7, .inr 7, .inr 7, .inr 24, .inl (2, [vN, vN, vN, vN, vI 0, vI 0])]) rfl ?_
  refine PW.dup X rfl dX5_init_39 ?_
  refine PW.aload_n X dX5_init_40 rfl ?_
  refine PW.getfe X hK fle_X5_23 (x := 0) (v := vR 14) rfl rfl dX5_init_41 ?_
  refine PW.callI X hK hN (As := [vR 14]) k_X2_init_2 dX5_init_44 il_X5_29 rfl rfl (by decide) (Nat.le_of_ble_eq_true rfl) (Nat.le_of_ble_eq_true rfl) (Nat.le_of_ble_eq_true rfl) (Nat.le_of_ble_eq_true rfl) ?_
  refine PW.putfn X hK hnm fpf_X5_32 (x := 0) rfl (by decide) (fun _ => rfl) (fun _ => rfl) dX5_init_47 (K' := [.inl (5, [vR 1, vI 0, vR 2, vR 14, vR 20, vN, vN, vN, vN, vI 0, vI 0]), .inr 200, .inl (3, [vR 3, vR 9, vR 13, vI 0, vI 0]), .inl (0, [vI 0, vI 0, vI 0, vI 0, vR 4, vR 5, vR 6, vR 7, vR 8]), .inr 7, .inr 7, .inr 7, .inr 7, .inr 24, .inl (2, [vR 3, vR 10, vR 11, vR 12, vI 0, vI 0]), .inr 7, .inr 7, .inr 7, .inr 4, .inl (0, [vI 0, vI 0, vI 0, vI 0, vR 15, vR 16, vR 17, vR 18, vR 19]), .inr 7, .inr 7, .inr 7, .inr 7, .inr 24, .inl (2, [vR 14, vR 21, vR 22, vR 23, vI 0, vI 0]), .inr 7, .inr 7, .inr 7]) rfl ?_
  refine PW.aload_n X dX5_init_50 rfl ?_
  refine PW.newobj X hK kl_X5_27 (Nat.le_of_ble_eq_true rfl) (Nat.le_of_ble_eq_true rfl) dX5_init_51 (K' := [.inl (5, [vR 1, vI 0, vR 2, vR 14, vR 20, vN, vN, vN, vN, vI 0, vI 0]), .inr 200, .inl (3, [vR 3, vR 9, vR 13, vI 0, vI 0]), .inl (0, [vI 0, vI 0, vI 0, vI 0, vR 4, vR 5, vR 6, vR 7, vR 8]), .inr 7, .inr 7, .inr 7, .inr 7, .inr 24, .inl (2, [vR 3, vR 10, vR 11, vR 12, vI 0, vI 0]), .inr 7, .inr 7, .inr 7, .inr 4, .inl (0, [vI 0, vI 0, vI 0, vI 0, vR 15, vR 16, vR 17, vR 18, vR 19]), .inr 7, .inr 7, .inr 7, .inr 7, .inr 24, .inl (2, [vR 14, vR 21, vR 22, vR 23, vI 0, vI 0]), .inr 7, .inr 7, .inr 7, .inl (2, [vN, vN, vN, vN, vI 0, vI 0])]) rfl ?_
  refine PW.dup X rfl dX5_init_54 ?_
  refine PW.aload_n X dX5_init_55 rfl ?_
  refine PW.getfe X hK fle_X5_23 (x := 0) (v := vR 14) rfl rfl dX5_init_56 ?_
  refine PW.callI X hK hN (As := [vR 14]) k_X2_init_3 dX5_init_59 il_X5_29 rfl rfl (by decide) (Nat.le_of_ble_eq_true rfl) (Nat.le_of_ble_eq_true rfl) (Nat.le_of_ble_eq_true rfl) (Nat.le_of_ble_eq_true rfl) ?_
  refine PW.putfn X hK hnm fpf_X5_36 (x := 0) rfl (by decide) (fun _ => rfl) (fun _ => rfl) dX5_init_62 (K' := [.inl (5, [vR 1, vI 0, vR 2, vR 14, vR 20, vR 24, vN, vN, vN, vI 0, vI 0]), .inr 200, .inl (3, [vR 3, vR 9, vR 13, vI 0, vI 0]), .inl (0, [vI 0, vI 0, vI 0, vI 0, vR 4, vR 5, vR 6, vR 7, vR 8]), .inr 7, .inr 7, .inr 7, .inr 7, .inr 24, .inl (2, [vR 3, vR 10, vR 11, vR 12, vI 0, vI 0]), .inr 7, .inr 7, .inr 7, .inr 4, .inl (0, [vI 0, vI 0, vI 0, vI 0, vR 15, vR 16, vR 17, vR 18, vR 19]), .inr 7, .inr 7, .inr 7, .inr 7, .inr 24, .inl (2, [vR 14, vR 21, vR 22, vR 23, vI 0, vI 0]), .inr 7, .inr 7, .inr 7, .inl (2, [vR 14, vR 25, vR 26, vR 27, vI 0, vI 0]), .inr 7, .inr 7, .inr 7]) rfl ?_
  refine PW.aload_n X dX5_init_65 rfl ?_
  refine PW.newobj X hK kl_X5_39 (Nat.le_of_ble_eq_true rfl) (Nat.le_of_ble_eq_true rfl) dX5_init_66 (K' := [.inl (5, [vR 1, vI 0, vR 2, vR 14, vR 20, vR 24, vN, vN, vN, vI 0, vI 0]), .inr 200, .inl (3, [vR 3, vR 9, vR 13, vI 0, vI 0]), .inl (0, [vI 0, vI 0, vI 0, vI 0, vR 4, vR 5, vR 6, vR 7, vR 8]), .inr 7, .inr 7, .inr 7, .inr 7, .inr 24, .inl (2, [vR 3, vR 10, vR 11, vR 12, vI 0, vI 0]), .inr 7, .inr 7, .inr 7, .inr 4, .inl (0, [vI 0, vI 0, vI 0, vI 0, vR 15, vR 16, vR 17, vR 18, vR 19]), .inr 7, .inr 7, .inr 7, .inr 7, .inr 24, .inl (2, [vR 14, vR 21, vR 22, vR 23, vI 0, vI 0]), .inr 7, .inr 7, .inr 7, .inl (2, [vR 14, vR 25, vR 26, vR 27, vI 0, vI 0]), .inr 7, .inr 7, .inr 7, .inl (1, [vN, vN, vN, vI 0, vN, vI 0, vI 0, vI 0, vI 0, vI 0])]) rfl ?_
  refine PW.dup X rfl dX5_init_69 ?_
  refine PW.aload_n X dX5_init_70 rfl ?_
  refine PW.getfe X hK fle_X5_23 (x := 0) (v := vR 14) rfl rfl dX5_init_71 ?_
  refine PW.callI X hK hN (As := [vR 14]) k_X1_init_1 dX5_init_74 il_X5_41 rfl rfl (by decide) (Nat.le_of_ble_eq_true rfl) (Nat.le_of_ble_eq_true rfl) (Nat.le_of_ble_eq_true rfl) (Nat.le_of_ble_eq_true rfl) ?_
  refine PW.putfn X hK hnm fpf_X5_42 (x := 0) rfl (by decide) (fun _ => rfl) (fun _ => rfl) dX5_init_77 (K' := [.inl (5, [vR 1, vI 0, vR 2, vR 14, vR 20, vR 24, vR 28, vN, vN, vI 0, vI 0]), .inr 200, .inl (3, [vR 3, vR 9, vR 13, vI 0, vI 0]), .inl (0, [vI 0, vI 0, vI 0, vI 0, vR 4, vR 5, vR 6, vR 7, vR 8]), .inr 7, .inr 7, .inr 7, .inr 7, .inr 24, .inl (2, [vR 3, vR 10, vR 11, vR 12, vI 0, vI 0]), .inr 7, .inr 7, .inr 7, .inr 4, .inl (0, [vI 0, vI 0, vI 0, vI 0, vR 15, vR 16, vR 17, vR 18, vR 19]), .inr 7, .inr 7, .inr 7, .inr 7, .inr 24, .inl (2, [vR 14, vR 21, vR 22, vR 23, vI 0, vI 0]), .inr 7, .inr 7, .inr 7, .inl (2, [vR 14, vR 25, vR 26, vR 27, vI 0, vI 0]), .inr 7, .inr 7, .inr 7, .inl (1, [vR 14, vR 31, vR 29, vI 0, vR 30, vI 0, vI 0, vI 0, vI 0, vI 0]), .inr 7, .inr 7, .inl (2, [vR 14, vR 32, vR 33, vR 34, vI 0, vI 0]), .inr 7, .inr 7, .inr 7]) rfl ?_
  refine PW.aload_n X dX5_init_80 rfl ?_
  refine PW.newobj X hK kl_X5_46 (Nat.le_of_ble_eq_true rfl) (Nat.le_of_ble_eq_true rfl) dX5_init_81 (K' := [.inl (5, [vR 1, vI 0, vR 2, vR 14, vR 20, vR 24, vR 28, vN, vN, vI 0, vI 0]), .inr 200, .inl (3, [vR 3, vR 9, vR 13, vI 0, vI 0]), .inl (0, [vI 0, vI 0, vI 0, vI 0, vR 4, vR 5, vR 6, vR 7, vR 8]), .inr 7, .inr 7, .inr 7, .inr 7, .inr 24, .inl (2, [vR 3, vR 10, vR 11, vR 12, vI 0, vI 0]), .inr 7, .inr 7, .inr 7, .inr 4, .inl (0, [vI 0, vI 0, vI 0, vI 0, vR 15, vR 16, vR 17, vR 18, vR 19]), .inr 7, .inr 7, .inr 7, .inr 7, .inr 24, .inl (2, [vR 14, vR 21, vR 22, vR 23, vI 0, vI 0]), .inr 7, .inr 7, .inr 7, .inl (2, [vR 14, vR 25, vR 26, vR 27, vI 0, vI 0]), .inr 7, .inr 7, .inr 7, .inl (1, [vR 14, vR 31, vR 29, vI 0, vR 30, vI 0, vI 0, vI 0, vI 0, vI 0]), .inr 7, .inr 7, .inl (2, [vR 14, vR 32, vR 33, vR 34, vI 0, vI 0]), .inr 7, .inr 7, .inr 7, .inl (4, [vI 0, vN, vI 0])]) rfl ?_
  refine PW.dup X rfl dX5_init_84 ?_
  refine PW.bipush X dX5_init_85 rfl ?_
  refine PW.callI X hK hN (As := [vI 8]) k_X4_init_1 dX5_init_87 il_X5_48 rfl rfl (by decide) (Nat.le_of_ble_eq_true rfl) (Nat.le_of_ble_eq_true rfl) (Nat.le_of_ble_eq_true rfl) (Nat.le_of_ble_eq_true rfl) ?_
  refine PW.putfn X hK hnm fpf_X5_51 (x := 0) rfl (by decide) (fun _ => rfl) (fun _ => rfl) dX5_init_90 (K' := [.inl (5, [vR 1, vI 0, vR 2, vR 14, vR 20, vR 24, vR 28, vR 35, vN, vI 0, vI 0]), .inr 200, .inl (3, [vR 3, vR 9, vR 13, vI 0, vI 0]), .inl (0, [vI 0, vI 0, vI 0, vI 0, vR 4, vR 5, vR 6, vR 7, vR 8]), .inr 7, .inr 7, .inr 7, .inr 7, .inr 24, .inl (2, [vR 3, vR 10, vR 11, vR 12, vI 0, vI 0]), .inr 7, .inr 7, .inr 7, .inr 4, .inl (0, [vI 0, vI 0, vI 0, vI 0, vR 15, vR 16, vR 17, vR 18, vR 19]), .inr 7, .inr 7, .inr 7, .inr 7, .inr 24, .inl (2, [vR 14, vR 21, vR 22, vR 23, vI 0, vI 0]), .inr 7, .inr 7, .inr 7, .inl (2, [vR 14, vR 25, vR 26, vR 27, vI 0, vI 0]), .inr 7, .inr 7, .inr 7, .inl (1, [vR 14, vR 31, vR 29, vI 0, vR 30, vI 0, vI 0, vI 0, vI 0, vI 0]), .inr 7, .inr 7, .inl (2, [vR 14, vR 32, vR 33, vR 34, vI 0, vI 0]), .inr 7, .inr 7, .inr 7, .inl (4, [vI 8, vR 36, vI 0]), .inr 128]) rfl ?_
  refine PW.aload_n X dX5_init_93 rfl ?_
  refine PW.newobj X hK kl_X5_46 (Nat.le_of_ble_eq_true rfl) (Nat.le_of_ble_eq_true rfl) dX5_init_94 (K' := [.inl (5, [vR 1, vI 0, vR 2, vR 14, vR 20, vR 24, vR 28, vR 35, vN, vI 0, vI 0]), .inr 200, .inl (3, [vR 3, vR 9, vR 13, vI 0, vI 0]), .inl (0, [vI 0, vI 0, vI 0, vI 0, vR 4, vR 5, vR 6, vR 7, vR 8]), .inr 7, .inr 7, .inr 7, .inr 7, .inr 24, .inl (2, [vR 3, vR 10, vR 11, vR 12, vI 0, vI 0]), .inr 7, .inr 7, .inr 7, .inr 4, .inl (0, [vI 0, vI 0, vI 0, vI 0, vR 15, vR 16, vR 17, vR 18, vR 19]), .inr 7, .inr 7, .inr 7, .inr 7, .inr 24, .inl (2, [vR 14, vR 21, vR 22, vR 23, vI 0, vI 0]), .inr 7, .inr 7, .inr 7, .inl (2, [vR 14, vR 25, vR 26, vR 27, vI 0, vI 0]), .inr 7, .inr 7, .inr 7, .inl (1, [vR 14, vR 31, vR 29, vI 0, vR 30, vI 0, vI 0, vI 0, vI 0, vI 0]), .inr 7, .inr 7, .inl (2, [vR 14, vR 32, vR 33, vR 34, vI 0, vI 0]), .inr 7, .inr 7, .inr 7, .inl (4, [vI 8, vR 36, vI 0]), .inr 128, .inl (4, [vI 0, vN, vI 0])]) rfl ?_
  refine PW.dup X rfl dX5_init_97 ?_
  refine PW.iconst X dX5_init_98 ?_
  refine PW.callI X hK hN (As := [vI 2]) k_X4_init_2 dX5_init_99 il_X5_48 rfl rfl (by decide) (Nat.le_of_ble_eq_true rfl) (Nat.le_of_ble_eq_true rfl) (Nat.le_of_ble_eq_true rfl) (Nat.le_of_ble_eq_true rfl) ?_
  refine PW.putfn X hK hnm fpf_X5_55 (x := 0) rfl (by decide) (fun _ => rfl) (fun _ => rfl) dX5_init_102 (K' := [.inl (5, [vR 1, vI 0, vR 2, vR 14, vR 20, vR 24, vR 28, vR 35, vR 37, vI 0, vI 0]), .inr 200, .inl (3, [vR 3, vR 9, vR 13, vI 0, vI 0]), .inl (0, [vI 0, vI 0, vI 0, vI 0, vR 4, vR 5, vR 6, vR 7, vR 8]), .inr 7, .inr 7, .inr 7, .inr 7, .inr 24, .inl (2, [vR 3, vR 10, vR 11, vR 12, vI 0, vI 0]), .inr 7, .inr 7, .inr 7, .inr 4, .inl (0, [vI 0, vI 0, vI 0, vI 0, vR 15, vR 16, vR 17, vR 18, vR 19]), .inr 7, .inr 7, .inr 7, .inr 7, .inr 24, .inl (2, [vR 14, vR 21, vR 22, vR 23, vI 0, vI 0]), .inr 7, .inr 7, .inr 7, .inl (2, [vR 14, vR 25, vR 26, vR 27, vI 0, vI 0]), .inr 7, .inr 7, .inr 7, .inl (1, [vR 14, vR 31, vR 29, vI 0, vR 30, vI 0, vI 0, vI 0, vI 0, vI 0]), .inr 7, .inr 7, .inl (2, [vR 14, vR 32, vR 33, vR 34, vI 0, vI 0]), .inr 7, .inr 7, .inr 7, .inl (4, [vI 8, vR 36, vI 0]), .inr 128, .inl (4, [vI 2, vR 38, vI 0]), .inr 32]) rfl ?_
  exact mid
