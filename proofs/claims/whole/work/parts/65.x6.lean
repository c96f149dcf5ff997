theorem bx757 : Cond.methodLink RX6 1 objectInit ∈ BW := BW_mem 757 (by decide +kernel) rfl
theorem fpf_X6_7 : FPF RX6 7 6 1 (.array .int) := ⟨_, rfl, by decide, bw771, rfl, rfl, by decide +kernel⟩
theorem fpf_X6_13 : FPF RX6 13 6 2 (.array .int) := ⟨_, rfl, by decide, bw772, rfl, rfl, by decide +kernel⟩
theorem fpf_X6_16 : FPF RX6 16 6 3 (.array .int) := ⟨_, rfl, by decide, bw773, rfl, rfl, by decide +kernel⟩
theorem fpf_X6_19 : FPF RX6 19 6 5 (.array .int) := ⟨_, rfl, by decide, bw775, rfl, rfl, by decide +kernel⟩
theorem fpf_X6_22 : FPF RX6 22 6 6 (.array .int) := ⟨_, rfl, by decide, bw776, rfl, rfl, by decide +kernel⟩
theorem fpf_X6_25 : FPF RX6 25 6 7 (.array .int) := ⟨_, rfl, by decide, bw777, rfl, rfl, by decide +kernel⟩
theorem fpf_X6_28 : FPF RX6 28 6 9 (.array .int) := ⟨_, rfl, by decide, bw779, rfl, rfl, by decide +kernel⟩
theorem fpf_X6_31 : FPF RX6 31 6 11 (.array .int) := ⟨_, rfl, by decide, bw781, rfl, rfl, by decide +kernel⟩
theorem fpf_X6_34 : FPF RX6 34 6 13 (.array .int) := ⟨_, rfl, by decide, bw783, rfl, rfl, by decide +kernel⟩
theorem fpf_X6_37 : FPF RX6 37 6 14 (.array .int) := ⟨_, rfl, by decide, bw784, rfl, rfl, by decide +kernel⟩
theorem fpf_X6_40 : FPF RX6 40 6 15 (.array .int) := ⟨_, rfl, by decide, bw785, rfl, rfl, by decide +kernel⟩
theorem fpf_X6_43 : FPF RX6 43 6 16 (.array .int) := ⟨_, rfl, by decide, bw786, rfl, rfl, by decide +kernel⟩
theorem fpf_X6_46 : FPF RX6 46 6 17 (.array .int) := ⟨_, rfl, by decide, bw787, rfl, rfl, by decide +kernel⟩
theorem fpf_X6_49 : FPF RX6 49 6 18 (.array .int) := ⟨_, rfl, by decide, bw788, rfl, rfl, by decide +kernel⟩
/-! the constructor of the model -/
def K15 : List ce := [.inl (6, [vI 0, vR 1, vR 2, vR 3, vI 0, vR 4, vR 5, vR 6, vI 0, vR 7, vI 0, vR 8, vI 0, vR 9, vR 10, vR 11, vR 12, vR 13, vR 14, vI 0]), .inr 200, .inr 56, .inr 56, .inr 16, .inr 16, .inr 128, .inr 32, .inr 7, .inr 4, .inr 7, .inr 7, .inr 7, .inr 7, .inr 7]
def sgz : Sg := fun _ _ => 0
theorem RG_sgz : RG sgz := fun _ _ => R32_0
theorem rbd_m : rbd SHm = true := by decide +kernel
theorem K15_ok : ∀ k, k < 15 → K15[id k]? = (SHm[k]?).map (trc id sgz k)
  | 0, _ => rfl
  | 1, _ => rfl
  | 2, _ => rfl
  | 3, _ => rfl
  | 4, _ => rfl
  | 5, _ => rfl
  | 6, _ => rfl
  | 7, _ => rfl
  | 8, _ => rfl
  | 9, _ => rfl
  | 10, _ => rfl
  | 11, _ => rfl
  | 12, _ => rfl
  | 13, _ => rfl
  | 14, _ => rfl
  | n + 15, h => absurd h (by omega)
theorem injm (z : Nat) : Inj SHm (zd z) := by
  intro c c' hc hc' h
  unfold zd at h
  omega
theorem asm (z : Nat) : ∀ x, AS SHm (zd z) x → AZ z x := by
  rintro x ⟨c, hc, rfl⟩
  show z ≤ zd z c
  unfold zd
  omega
theorem io6 {D : va_G} {cA : ClassId} {z : Nat} {H : Heap} (h : IE D cA z K15 H) : IO D cA SHm (zd z) sgz (fun _ => True) H :=
  ⟨RG_sgz, va_conv (P := id) K15_ok (fun c _ => rfl) rbd_m (fun _ _ _ _ => rfl) h.1, trivial⟩
def RX (σ : Sg) (Tm Rm : Nat → Int) : Prop := (∀ k, k < 56 → σ 3 k = Tm k) ∧ (∀ k, k < 16 → σ 5 k = Rm k) ∧ σ 0 0 = 0
theorem RX_3 {σ : Sg} {Tm Rm : Nat → Int} {i : Nat} {z : Int} (h : RX σ Tm Rm) : RX (up σ 3 i z) (uf Tm i z) Rm := by
  refine ⟨fun k hk => ?_, fun k hk => by rw [up_ne (by decide)]; exact h.2.1 k hk, by rw [up_ne (by decide)]; exact h.2.2⟩
  unfold up uf
  by_cases e : k = i
  · rw [if_pos ⟨rfl, e⟩, if_pos e]
  · rw [if_neg (fun q => e q.2), if_neg e]; exact h.1 k hk
theorem RX_5 {σ : Sg} {Tm Rm : Nat → Int} {i : Nat} {z : Int} (h : RX σ Tm Rm) : RX (up σ 5 i z) Tm (uf Rm i z) := by
  refine ⟨fun k hk => by rw [up_ne (by decide)]; exact h.1 k hk, fun k hk => ?_, by rw [up_ne (by decide)]; exact h.2.2⟩
  unfold up uf
  by_cases e : k = i
  · rw [if_pos ⟨rfl, e⟩, if_pos e]
  · rw [if_neg (fun q => e q.2), if_neg e]; exact h.2.1 k hk
theorem RX_t {σ τ : Sg} {Tm Rm : Nat → Int} {i : Nat} {a b c d e f : Int} (h : RX σ Tm Rm) (h1 : ∀ c, c ≠ 3 → c ≠ 5 → τ c = σ c) (h2 : τ 3 = thT (σ 3) i a b c d) (h3 : τ 5 = uf (uf (σ 5) (2 + i) e) (9 + i) f) : RX τ (thT Tm i a b c d) (uf (uf Rm (2 + i) e) (9 + i) f) := by
  refine ⟨fun k hk => ?_, fun k hk => ?_, by rw [h1 0 (by decide) (by decide)]; exact h.2.2⟩
  · rw [h2]
    unfold thT uf
    rw [h.1 k hk]
  · rw [h3]
    unfold uf
    rw [h.2.1 k hk]

def tm0 : Nat → Int := T0
def rwm0 : Nat → Int := row0
def tm1 : Nat → Int := uf tm0 0 12
def tm2 : Nat → Int := uf tm1 2 7
def rwm3 : Nat → Int := uf rwm0 0 6
def tm4 : Nat → Int := thT tm2 0 (0) (1) (5) (3)
def rwm4 : Nat → Int := uf (uf rwm3 (2 + 0) (4)) (9 + 0) (1)
def tm5 : Nat → Int := thT tm4 1 (0) (1) (7) (4)
def rwm5 : Nat → Int := uf (uf rwm4 (2 + 1) (6)) (9 + 1) (0)
def tm6 : Nat → Int := thT tm5 2 (1) (3) (4) (5)
def rwm6 : Nat → Int := uf (uf rwm5 (2 + 2) (0)) (9 + 2) (1)
def tm7 : Nat → Int := thT tm6 3 (2) (1) (2) (2)
def rwm7 : Nat → Int := uf (uf rwm6 (2 + 3) (7)) (9 + 3) (0)
def tm8 : Nat → Int := thT tm7 4 (2) (1) (2) (6)
def rwm8 : Nat → Int := uf (uf rwm7 (2 + 4) (8)) (9 + 4) (0)
def tm9 : Nat → Int := thT tm8 5 (3) (2) (8) (3)
def rwm9 : Nat → Int := uf (uf rwm8 (2 + 5) (-4)) (9 + 5) (-4)
def tm10 : Nat → Int := thT tm9 6 (0) (2) (6) (1)
def rwm10 : Nat → Int := uf (uf rwm9 (2 + 6) (-4)) (9 + 6) (-4)
def tm11 : Nat → Int := uf tm10 34 4
def tm12 : Nat → Int := uf tm11 35 4
def tm13 : Nat → Int := uf tm12 39 30
theorem tm_ok : ∀ k, k < 56 → tm13 k = fy18.1 k := by decide +kernel
theorem rm_ok : ∀ k, k < 16 → rwm10 k = fy18.2.2.1 k := by decide +kernel
def B6 (D : va_G) (cA : ClassId) (z : Nat) (t : State) : Prop := ∃ σ : Sg, RepM σ FA ∧ RG σ ∧ va_P D clsT (wsO SHm (zd z) cA σ) t.heap
def P6 (D : va_G) (cA : ClassId) (z : Nat) (U : State) : Prop := IE D cA z [.inl (6, [vI 0, vN, vN, vN, vI 0, vN, vN, vN, vI 0, vN, vI 0, vN, vI 0, vN, vN, vN, vN, vN, vN, vI 0])] U.heap ∧ va_K D clsT [(cA, .int)] U ∧ NW2 U
theorem k_X6 (l : Launch) (D : va_G) (cA : ClassId) (z : Nat) : Met l mX6_init.1 (wsw mX6_init) (rme 4 14 550) (va_Pc [.ref z] (P6 D cA z)) (va_Qv (fun _ : Unit => True) (fun _ t => B6 D cA z t) (AZ z)) 14 550 (AZ z) := by
  refine Met.ofW (cc := cX6_init) (maxL := 1) (ret := none) (by decide) rfl ?_
  intro p e s m args below meth c s₁ B hml hv
  obtain ⟨rfl, hI0, hK, hN⟩ := hv
  have X : CG RX6 cX6_init 1 p s m [Value.ref z].toArray c := ⟨B.exec, B.bytes, hml, findClass_of_methodNamed B.named, fun w hw => atoms_spec (ws := wsw mX6_init) B.pre w (wsw_bw hw)⟩
  have hr : meth.sig.returnType = none := B.returns
  have hlk := B.notSynchronized
  have hnm : meth.name = "<init>" := (name_of_methodNamed B.named B.method).1
  rw [lg_entry_eq]
  suffices hh : PW p l e (rme 4 14 550) s m [Value.ref z].toArray below meth c (zd z) (AZ z) (MQ below (va_Qv (fun _ : Unit => True) (fun _ t => B6 D cA z t) (AZ z)) [Value.ref z].toArray s 14 550 (AZ z)) 1 (IE D cA z [.inl (6, [vI 0, vN, vN, vN, vI 0, vN, vN, vN, vI 0, vN, vI 0, vN, vI 0, vN, vN, vN, vN, vN, vN, vI 0])]) 0 0 0 [vR 0] [] from hh s.heap [] _ hI0 va_S.rf (LR.entry (zd z) [vR 0] (nL := 1) (Nat.le_of_ble_eq_true rfl))
  have tail : PW p l e (rme 4 14 550) s m [Value.ref z].toArray below meth c (zd z) (AZ z) (MQ below (va_Qv (fun _ : Unit => True) (fun _ t => B6 D cA z t) (AZ z)) [Value.ref z].toArray s 14 550 (AZ z)) 1 (IO D cA SHm (zd z) sgz (fun _ => True)) 14 550 117 [vR 0] [] := by
    refine PW.aload_n X dX6_init_117 rfl ?_
    refine PW.callOK X hK hN.nws (injm z) (asm z) off_true (As := []) (vs := []) m_empty dX6_init_118 vl_X6_52 sm0 rfl rfl rfl (fun r σ' h => by obtain ⟨rfl, -⟩ := h; rfl) rfl rfl (Nat.le_of_ble_eq_true rfl) (Nat.le_of_ble_eq_true rfl) (Nat.le_of_ble_eq_true rfl) (Nat.le_of_ble_eq_true rfl) (Nat.le_of_ble_eq_true rfl) (fun r σ0 hq => ?_)
    obtain ⟨rfl, f1, f2, f3⟩ := hq
    have h0 : RX σ0 tm0 rwm0 := ⟨f3.1, f3.2.1, f2 0 (by decide)⟩
    clear f1 f2 f3
    refine PW.aload_n X dX6_init_121 rfl ?_
    refine PW.getfo X hK dX6_init_122 fl_X6_16 sm0 rfl ?_
    refine PW.iconst X dX6_init_125 ?_
    refine PW.bipush X dX6_init_126 rfl ?_
    refine PW.iasto (i := 0) (z := 12) X hK (injm z) (asm z) off_true sm3 (by decide) (by decide) ⟨by decide, by decide⟩ dX6_init_128 ?_
    have h1 : RX _ tm1 rwm0 := RX_3 (i := 0) (z := 12) h0
    refine PW.aload_n X dX6_init_129 rfl ?_
    refine PW.getfo X hK dX6_init_130 fl_X6_16 sm0 rfl ?_
    refine PW.iconst X dX6_init_133 ?_
    refine PW.bipush X dX6_init_134 rfl ?_
    refine PW.iasto (i := 2) (z := 7) X hK (injm z) (asm z) off_true sm3 (by decide) (by decide) ⟨by decide, by decide⟩ dX6_init_136 ?_
    have h2 : RX _ tm2 rwm0 := RX_3 (i := 2) (z := 7) h1
    refine PW.aload_n X dX6_init_137 rfl ?_
    refine PW.getfo X hK dX6_init_138 fl_X6_22 sm0 rfl ?_
    refine PW.iconst X dX6_init_141 ?_
    refine PW.bipush X dX6_init_142 rfl ?_
    refine PW.iasto (i := 0) (z := 6) X hK (injm z) (asm z) off_true sm5 (by decide) (by decide) ⟨by decide, by decide⟩ dX6_init_144 ?_
    have h3 : RX _ tm2 rwm3 := RX_5 (i := 0) (z := 6) h2
    refine PW.aload_n X dX6_init_145 rfl ?_
    refine PW.iconst X dX6_init_146 ?_
    refine PW.iconst X dX6_init_147 ?_
    refine PW.iconst X dX6_init_148 ?_
    refine PW.iconst X dX6_init_149 ?_
    refine PW.iconst X dX6_init_150 ?_
    refine PW.iconst X dX6_init_151 ?_
    refine PW.callOK X hK hN.nws (injm z) (asm z) off_true (As := [vI (0), vI (1), vI (5), vI (3), vI (4), vI (1)]) (vs := [vI (0), vI (1), vI (5), vI (3), vI (4), vI (1)]) (m_firstThing (i := 0) (by rw [h3.1 3 (by decide)]; decide +kernel) (by decide) ⟨by decide, by decide⟩ ⟨by decide, by decide⟩ ⟨by decide, by decide⟩ ⟨by decide, by decide⟩ ⟨by decide, by decide⟩ ⟨by decide, by decide⟩) dX6_init_152 vl_X6_55 sm0 rfl rfl rfl (fun r σ' h => by obtain ⟨rfl, -⟩ := h; rfl) rfl rfl (Nat.le_of_ble_eq_true rfl) (Nat.le_of_ble_eq_true rfl) (Nat.le_of_ble_eq_true rfl) (Nat.le_of_ble_eq_true rfl) (Nat.le_of_ble_eq_true rfl) (fun r σ4 hq => ?_)
    obtain ⟨rfl, f1, f2, f3⟩ := hq
    have h4 : RX σ4 tm4 rwm4 := RX_t h3 f1 f2 f3
    clear f1 f2 f3
    refine PW.aload_n X dX6_init_155 rfl ?_
    refine PW.iconst X dX6_init_156 ?_
    refine PW.iconst X dX6_init_157 ?_
    refine PW.bipush X dX6_init_158 rfl ?_
    refine PW.iconst X dX6_init_160 ?_
    refine PW.bipush X dX6_init_161 rfl ?_
    refine PW.iconst X dX6_init_163 ?_
    refine PW.callOK X hK hN.nws (injm z) (asm z) off_true (As := [vI (0), vI (1), vI (7), vI (4), vI (6), vI (0)]) (vs := [vI (0), vI (1), vI (7), vI (4), vI (6), vI (0)]) (m_firstThing (i := 1) (by rw [h4.1 3 (by decide)]; decide +kernel) (by decide) ⟨by decide, by decide⟩ ⟨by decide, by decide⟩ ⟨by decide, by decide⟩ ⟨by decide, by decide⟩ ⟨by decide, by decide⟩ ⟨by decide, by decide⟩) dX6_init_164 vl_X6_55 sm0 rfl rfl rfl (fun r σ' h => by obtain ⟨rfl, -⟩ := h; rfl) rfl rfl (Nat.le_of_ble_eq_true rfl) (Nat.le_of_ble_eq_true rfl) (Nat.le_of_ble_eq_true rfl) (Nat.le_of_ble_eq_true rfl) (Nat.le_of_ble_eq_true rfl) (fun r σ5 hq => ?_)
    obtain ⟨rfl, f1, f2, f3⟩ := hq
    have h5 : RX σ5 tm5 rwm5 := RX_t h4 f1 f2 f3
    clear f1 f2 f3
    refine PW.aload_n X dX6_init_167 rfl ?_
    refine PW.iconst X dX6_init_168 ?_
    refine PW.iconst X dX6_init_169 ?_
    refine PW.iconst X dX6_init_170 ?_
    refine PW.iconst X dX6_init_171 ?_
    refine PW.iconst X dX6_init_172 ?_
    refine PW.iconst X dX6_init_173 ?_
    refine PW.callOK X hK hN.nws (injm z) (asm z) off_true (As := [vI (1), vI (3), vI (4), vI (5), vI (0), vI (1)]) (vs := [vI (1), vI (3), vI (4), vI (5), vI (0), vI (1)]) (m_firstThing (i := 2) (by rw [h5.1 3 (by decide)]; decide +kernel) (by decide) ⟨by decide, by decide⟩ ⟨by decide, by decide⟩ ⟨by decide, by decide⟩ ⟨by decide, by decide⟩ ⟨by decide, by decide⟩ ⟨by decide, by decide⟩) dX6_init_174 vl_X6_55 sm0 rfl rfl rfl (fun r σ' h => by obtain ⟨rfl, -⟩ := h; rfl) rfl rfl (Nat.le_of_ble_eq_true rfl) (Nat.le_of_ble_eq_true rfl) (Nat.le_of_ble_eq_true rfl) (Nat.le_of_ble_eq_true rfl) (Nat.le_of_ble_eq_true rfl) (fun r σ6 hq => ?_)
    obtain ⟨rfl, f1, f2, f3⟩ := hq
    have h6 : RX σ6 tm6 rwm6 := RX_t h5 f1 f2 f3
    clear f1 f2 f3
    refine PW.aload_n X dX6_init_177 rfl ?_
    refine PW.iconst X dX6_init_178 ?_
    refine PW.iconst X dX6_init_179 ?_
    refine PW.iconst X dX6_init_180 ?_
    refine PW.iconst X dX6_init_181 ?_
    refine PW.bipush X dX6_init_182 rfl ?_
    refine PW.iconst X dX6_init_184 ?_
    refine PW.callOK X hK hN.nws (injm z) (asm z) off_true (As := [vI (2), vI (1), vI (2), vI (2), vI (7), vI (0)]) (vs := [vI (2), vI (1), vI (2), vI (2), vI (7), vI (0)]) (m_firstThing (i := 3) (by rw [h6.1 3 (by decide)]; decide +kernel) (by decide) ⟨by decide, by decide⟩ ⟨by decide, by decide⟩ ⟨by decide, by decide⟩ ⟨by decide, by decide⟩ ⟨by decide, by decide⟩ ⟨by decide, by decide⟩) dX6_init_185 vl_X6_55 sm0 rfl rfl rfl (fun r σ' h => by obtain ⟨rfl, -⟩ := h; rfl) rfl rfl (Nat.le_of_ble_eq_true rfl) (Nat.le_of_ble_eq_true rfl) (Nat.le_of_ble_eq_true rfl) (Nat.le_of_ble_eq_true rfl) (Nat.le_of_ble_eq_true rfl) (fun r σ7 hq => ?_)
    obtain ⟨rfl, f1, f2, f3⟩ := hq
    have h7 : RX σ7 tm7 rwm7 := RX_t h6 f1 f2 f3
    clear f1 f2 f3
    refine PW.aload_n X dX6_init_188 rfl ?_
    refine PW.iconst X dX6_init_189 ?_
    refine PW.iconst X dX6_init_190 ?_
    refine PW.iconst X dX6_init_191 ?_
    refine PW.bipush X dX6_init_192 rfl ?_
    refine PW.bipush X dX6_init_194 rfl ?_
    refine PW.iconst X dX6_init_196 ?_
    refine PW.callOK X hK hN.nws (injm z) (asm z) off_true (As := [vI (2), vI (1), vI (2), vI (6), vI (8), vI (0)]) (vs := [vI (2), vI (1), vI (2), vI (6), vI (8), vI (0)]) (m_firstThing (i := 4) (by rw [h7.1 3 (by decide)]; decide +kernel) (by decide) ⟨by decide, by decide⟩ ⟨by decide, by decide⟩ ⟨by decide, by decide⟩ ⟨by decide, by decide⟩ ⟨by decide, by decide⟩ ⟨by decide, by decide⟩) dX6_init_197 vl_X6_55 sm0 rfl rfl rfl (fun r σ' h => by obtain ⟨rfl, -⟩ := h; rfl) rfl rfl (Nat.le_of_ble_eq_true rfl) (Nat.le_of_ble_eq_true rfl) (Nat.le_of_ble_eq_true rfl) (Nat.le_of_ble_eq_true rfl) (Nat.le_of_ble_eq_true rfl) (fun r σ8 hq => ?_)
    obtain ⟨rfl, f1, f2, f3⟩ := hq
    have h8 : RX σ8 tm8 rwm8 := RX_t h7 f1 f2 f3
    clear f1 f2 f3
    refine PW.aload_n X dX6_init_200 rfl ?_
    refine PW.iconst X dX6_init_201 ?_
    refine PW.iconst X dX6_init_202 ?_
    refine PW.bipush X dX6_init_203 rfl ?_
    refine PW.iconst X dX6_init_205 ?_
    refine PW.bipush X dX6_init_206 rfl ?_
    refine PW.bipush X dX6_init_208 rfl ?_
    refine PW.callOK X hK hN.nws (injm z) (asm z) off_true (As := [vI (3), vI (2), vI (8), vI (3), vI (-4), vI (-4)]) (vs := [vI (3), vI (2), vI (8), vI (3), vI (-4), vI (-4)]) (m_firstThing (i := 5) (by rw [h8.1 3 (by decide)]; decide +kernel) (by decide) ⟨by decide, by decide⟩ ⟨by decide, by decide⟩ ⟨by decide, by decide⟩ ⟨by decide, by decide⟩ ⟨by decide, by decide⟩ ⟨by decide, by decide⟩) dX6_init_210 vl_X6_55 sm0 rfl rfl rfl (fun r σ' h => by obtain ⟨rfl, -⟩ := h; rfl) rfl rfl (Nat.le_of_ble_eq_true rfl) (Nat.le_of_ble_eq_true rfl) (Nat.le_of_ble_eq_true rfl) (Nat.le_of_ble_eq_true rfl) (Nat.le_of_ble_eq_true rfl) (fun r σ9 hq => ?_)
    obtain ⟨rfl, f1, f2, f3⟩ := hq
    have h9 : RX σ9 tm9 rwm9 := RX_t h8 f1 f2 f3
    clear f1 f2 f3
    refine PW.aload_n X dX6_init_213 rfl ?_
    refine PW.iconst X dX6_init_214 ?_
    refine PW.iconst X dX6_init_215 ?_
    refine PW.bipush X dX6_init_216 rfl ?_
    refine PW.iconst X dX6_init_218 ?_
    refine PW.bipush X dX6_init_219 rfl ?_
    refine PW.bipush X dX6_init_221 rfl ?_
    refine PW.callOK X hK hN.nws (injm z) (asm z) off_true (As := [vI (0), vI (2), vI (6), vI (1), vI (-4), vI (-4)]) (vs := [vI (0), vI (2), vI (6), vI (1), vI (-4), vI (-4)]) (m_firstThing (i := 6) (by rw [h9.1 3 (by decide)]; decide +kernel) (by decide) ⟨by decide, by decide⟩ ⟨by decide, by decide⟩ ⟨by decide, by decide⟩ ⟨by decide, by decide⟩ ⟨by decide, by decide⟩ ⟨by decide, by decide⟩) dX6_init_223 vl_X6_55 sm0 rfl rfl rfl (fun r σ' h => by obtain ⟨rfl, -⟩ := h; rfl) rfl rfl (Nat.le_of_ble_eq_true rfl) (Nat.le_of_ble_eq_true rfl) (Nat.le_of_ble_eq_true rfl) (Nat.le_of_ble_eq_true rfl) (Nat.le_of_ble_eq_true rfl) (fun r σ10 hq => ?_)
    obtain ⟨rfl, f1, f2, f3⟩ := hq
    have h10 : RX σ10 tm10 rwm10 := RX_t h9 f1 f2 f3
    clear f1 f2 f3
    refine PW.aload_n X dX6_init_226 rfl ?_
    refine PW.getfo X hK dX6_init_227 fl_X6_16 sm0 rfl ?_
    refine PW.bipush X dX6_init_230 rfl ?_
    refine PW.iconst X dX6_init_232 ?_
    refine PW.iasto (i := 34) (z := 4) X hK (injm z) (asm z) off_true sm3 (by decide) (by decide) ⟨by decide, by decide⟩ dX6_init_233 ?_
    have h11 : RX _ tm11 rwm10 := RX_3 (i := 34) (z := 4) h10
    refine PW.aload_n X dX6_init_234 rfl ?_
    refine PW.getfo X hK dX6_init_235 fl_X6_16 sm0 rfl ?_
    refine PW.bipush X dX6_init_238 rfl ?_
    refine PW.iconst X dX6_init_240 ?_
    refine PW.iasto (i := 35) (z := 4) X hK (injm z) (asm z) off_true sm3 (by decide) (by decide) ⟨by decide, by decide⟩ dX6_init_241 ?_
    have h12 : RX _ tm12 rwm10 := RX_3 (i := 35) (z := 4) h11
    refine PW.aload_n X dX6_init_242 rfl ?_
    refine PW.getfo X hK dX6_init_243 fl_X6_16 sm0 rfl ?_
    refine PW.bipush X dX6_init_246 rfl ?_
    refine PW.bipush X dX6_init_248 rfl ?_
    refine PW.iasto (i := 39) (z := 30) X hK (injm z) (asm z) off_true sm3 (by decide) (by decide) ⟨by decide, by decide⟩ dX6_init_250 ?_
    have h13 : RX _ tm13 rwm10 := RX_3 (i := 39) (z := 30) h12
    refine PW.aload_n X dX6_init_251 rfl ?_
    refine PW.callOK X hK hN.nws (injm z) (asm z) off_true (As := []) (vs := []) m_begin dX6_init_252 vl_X6_59 sm0 rfl rfl rfl (fun r σ' h => by obtain ⟨rfl, -⟩ := h; rfl) rfl rfl (Nat.le_of_ble_eq_true rfl) (Nat.le_of_ble_eq_true rfl) (Nat.le_of_ble_eq_true rfl) (Nat.le_of_ble_eq_true rfl) (Nat.le_of_ble_eq_true rfl) (fun r σf hq => ?_)
    obtain ⟨rfl, f1, f2, f3, f4, f5, f6, f7⟩ := hq
    have hrep : RepM σf FA := ⟨by rw [f2 0 (by decide) (by decide)]; exact h13.2.2, fun j hj => absurd hj (Nat.not_lt_zero j), fun k hk => by rw [f3 k hk, h13.1 k hk]; exact tm_ok k hk, fun k hk => by rw [f4 k hk, h13.2.1 k hk]; exact rm_ok k hk, ⟨f6, by decide, fun k row j hk _ => absurd (show ([] : List (Nat → Int))[k]? = some row from hk) (by simp)⟩, ⟨f7, by decide, fun k row j hk _ => absurd (show ([] : List (Nat → Int))[k]? = some row from hk) (by simp)⟩, fun t ht => f5 t ht⟩
    exact PW.vretN X hr hlk (fun t' h => ⟨σf, hrep, h.1, h.2.1⟩) dX6_init_255
  refine PW.aload_n X dX6_init_0 rfl ?_
  refine PW.objI X dX6_init_1 bx757 bx79 bx80 (by decide) (Nat.le_of_ble_eq_true rfl) (Nat.le_of_ble_eq_true rfl) ?_
  refine PW.aload_n X dX6_init_4 rfl ?_
  refine PW.sipush X dX6_init_5 rfl ?_
  refine PW.newarr (k := 200) X hK (by decide) bx150 (Nat.le_of_ble_eq_true rfl) (Nat.le_of_ble_eq_true rfl) dX6_init_8 (K' := [.inl (6, [vI 0, vN, vN, vN, vI 0, vN, vN, vN, vI 0, vN, vI 0, vN, vI 0, vN, vN, vN, vN, vN, vN, vI 0]), .inr 200]) rfl ?_
  refine PW.putfn X hK hnm fpf_X6_7 (x := 0) rfl (by decide) (fun _ => rfl) (fun _ => rfl) dX6_init_10 (K' := [.inl (6, [vI 0, vR 1, vN, vN, vI 0, vN, vN, vN, vI 0, vN, vI 0, vN, vI 0, vN, vN, vN, vN, vN, vN, vI 0]), .inr 200]) rfl ?_
  refine PW.aload_n X dX6_init_13 rfl ?_
  refine PW.bipush X dX6_init_14 rfl ?_
  refine PW.newarr (k := 56) X hK (by decide) bx150 (Nat.le_of_ble_eq_true rfl) (Nat.le_of_ble_eq_true rfl) dX6_init_16 (K' := [.inl (6, [vI 0, vR 1, vN, vN, vI 0, vN, vN, vN, vI 0, vN, vI 0, vN, vI 0, vN, vN, vN, vN, vN, vN, vI 0]), .inr 200, .inr 56]) rfl ?_
  refine PW.putfn X hK hnm fpf_X6_13 (x := 0) rfl (by decide) (fun _ => rfl) (fun _ => rfl) dX6_init_18 (K' := [.inl (6, [vI 0, vR 1, vR 2, vN, vI 0, vN, vN, vN, vI 0, vN, vI 0, vN, vI 0, vN, vN, vN, vN, vN, vN, vI 0]), .inr 200, .inr 56]) rfl ?_
  refine PW.aload_n X dX6_init_21 rfl ?_
  refine PW.bipush X dX6_init_22 rfl ?_
  refine PW.newarr (k := 56) X hK (by decide) bx150 (Nat.le_of_ble_eq_true rfl) (Nat.le_of_ble_eq_true rfl) dX6_init_24 (K' := [.inl (6, [vI 0, vR 1, vR 2, vN, vI 0, vN, vN, vN, vI 0, vN, vI 0, vN, vI 0, vN, vN, vN, vN, vN, vN, vI 0]), .inr 200, .inr 56, .inr 56]) rfl ?_
  refine PW.putfn X hK hnm fpf_X6_16 (x := 0) rfl (by decide) (fun _ => rfl) (fun _ => rfl) dX6_init_26 (K' := [.inl (6, [vI 0, vR 1, vR 2, vR 3, vI 0, vN, vN, vN, vI 0, vN, vI 0, vN, vI 0, vN, vN, vN, vN, vN, vN, vI 0]), .inr 200, .inr 56, .inr 56]) rfl ?_
  refine PW.aload_n X dX6_init_29 rfl ?_
  refine PW.bipush X dX6_init_30 rfl ?_
  refine PW.newarr (k := 16) X hK (by decide) bx150 (Nat.le_of_ble_eq_true rfl) (Nat.le_of_ble_eq_true rfl) dX6_init_32 (K' := [.inl (6, [vI 0, vR 1, vR 2, vR 3, vI 0, vN, vN, vN, vI 0, vN, vI 0, vN, vI 0, vN, vN, vN, vN, vN, vN, vI 0]), .inr 200, .inr 56, .inr 56, .inr 16]) rfl ?_
  refine PW.putfn X hK hnm fpf_X6_19 (x := 0) rfl (by decide) (fun _ => rfl) (fun _ => rfl) dX6_init_34 (K' := [.inl (6, [vI 0, vR 1, vR 2, vR 3, vI 0, vR 4, vN, vN, vI 0, vN, vI 0, vN, vI 0, vN, vN, vN, vN, vN, vN, vI 0]), .inr 200, .inr 56, .inr 56, .inr 16]) rfl ?_
  refine PW.aload_n X dX6_init_37 rfl ?_
  refine PW.bipush X dX6_init_38 rfl ?_
  refine PW.newarr (k := 16) X hK (by decide) bx150 (Nat.le_of_ble_eq_true rfl) (Nat.le_of_ble_eq_true rfl) dX6_init_40 (K' := [.inl (6, [vI 0, vR 1, vR 2, vR 3, vI 0, vR 4, vN, vN, vI 0, vN, vI 0, vN, vI 0, vN, vN, vN, vN, vN, vN, vI 0]), .inr 200, .inr 56, .inr 56, .inr 16, .inr 16]) rfl ?_
  refine PW.putfn X hK hnm fpf_X6_22 (x := 0) rfl (by decide) (fun _ => rfl) (fun _ => rfl) dX6_init_42 (K' := [.inl (6, [vI 0, vR 1, vR 2, vR 3, vI 0, vR 4, vR 5, vN, vI 0, vN, vI 0, vN, vI 0, vN, vN, vN, vN, vN, vN, vI 0]), .inr 200, .inr 56, .inr 56, .inr 16, .inr 16]) rfl ?_
  refine PW.aload_n X dX6_init_45 rfl ?_
  refine PW.sipush X dX6_init_46 rfl ?_
  refine PW.newarr (k := 128) X hK (by decide) bx150 (Nat.le_of_ble_eq_true rfl) (Nat.le_of_ble_eq_true rfl) dX6_init_49 (K' := [.inl (6, [vI 0, vR 1, vR 2, vR 3, vI 0, vR 4, vR 5, vN, vI 0, vN, vI 0, vN, vI 0, vN, vN, vN, vN, vN, vN, vI 0]), .inr 200, .inr 56, .inr 56, .inr 16, .inr 16, .inr 128]) rfl ?_
  refine PW.putfn X hK hnm fpf_X6_25 (x := 0) rfl (by decide) (fun _ => rfl) (fun _ => rfl) dX6_init_51 (K' := [.inl (6, [vI 0, vR 1, vR 2, vR 3, vI 0, vR 4, vR 5, vR 6, vI 0, vN, vI 0, vN, vI 0, vN, vN, vN, vN, vN, vN, vI 0]), .inr 200, .inr 56, .inr 56, .inr 16, .inr 16, .inr 128]) rfl ?_
  refine PW.aload_n X dX6_init_54 rfl ?_
  refine PW.bipush X dX6_init_55 rfl ?_
  refine PW.newarr (k := 32) X hK (by decide) bx150 (Nat.le_of_ble_eq_true rfl) (Nat.le_of_ble_eq_true rfl) dX6_init_57 (K' := [.inl (6, [vI 0, vR 1, vR 2, vR 3, vI 0, vR 4, vR 5, vR 6, vI 0, vN, vI 0, vN, vI 0, vN, vN, vN, vN, vN, vN, vI 0]), .inr 200, .inr 56, .inr 56, .inr 16, .inr 16, .inr 128, .inr 32]) rfl ?_
  refine PW.putfn X hK hnm fpf_X6_28 (x := 0) rfl (by decide) (fun _ => rfl) (fun _ => rfl) dX6_init_59 (K' := [.inl (6, [vI 0, vR 1, vR 2, vR 3, vI 0, vR 4, vR 5, vR 6, vI 0, vR 7, vI 0, vN, vI 0, vN, vN, vN, vN, vN, vN, vI 0]), .inr 200, .inr 56, .inr 56, .inr 16, .inr 16, .inr 128, .inr 32]) rfl ?_
  refine PW.aload_n X dX6_init_62 rfl ?_
  refine PW.bipush X dX6_init_63 rfl ?_
  refine PW.newarr (k := 7) X hK (by decide) bx150 (Nat.le_of_ble_eq_true rfl) (Nat.le_of_ble_eq_true rfl) dX6_init_65 (K' := [.inl (6, [vI 0, vR 1, vR 2, vR 3, vI 0, vR 4, vR 5, vR 6, vI 0, vR 7, vI 0, vN, vI 0, vN, vN, vN, vN, vN, vN, vI 0]), .inr 200, .inr 56, .inr 56, .inr 16, .inr 16, .inr 128, .inr 32, .inr 7]) rfl ?_
  refine PW.putfn X hK hnm fpf_X6_31 (x := 0) rfl (by decide) (fun _ => rfl) (fun _ => rfl) dX6_init_67 (K' := [.inl (6, [vI 0, vR 1, vR 2, vR 3, vI 0, vR 4, vR 5, vR 6, vI 0, vR 7, vI 0, vR 8, vI 0, vN, vN, vN, vN, vN, vN, vI 0]), .inr 200, .inr 56, .inr 56, .inr 16, .inr 16, .inr 128, .inr 32, .inr 7]) rfl ?_
  refine PW.aload_n X dX6_init_70 rfl ?_
  refine PW.iconst X dX6_init_71 ?_
  refine PW.newarr (k := 4) X hK (by decide) bx150 (Nat.le_of_ble_eq_true rfl) (Nat.le_of_ble_eq_true rfl) dX6_init_72 (K' := [.inl (6, [vI 0, vR 1, vR 2, vR 3, vI 0, vR 4, vR 5, vR 6, vI 0, vR 7, vI 0, vR 8, vI 0, vN, vN, vN, vN, vN, vN, vI 0]), .inr 200, .inr 56, .inr 56, .inr 16, .inr 16, .inr 128, .inr 32, .inr 7, .inr 4]) rfl ?_
  refine PW.putfn X hK hnm fpf_X6_34 (x := 0) rfl (by decide) (fun _ => rfl) (fun _ => rfl) dX6_init_74 (K' := [.inl (6, [vI 0, vR 1, vR 2, vR 3, vI 0, vR 4, vR 5, vR 6, vI 0, vR 7, vI 0, vR 8, vI 0, vR 9, vN, vN, vN, vN, vN, vI 0]), .inr 200, .inr 56, .inr 56, .inr 16, .inr 16, .inr 128, .inr 32, .inr 7, .inr 4]) rfl ?_
  refine PW.aload_n X dX6_init_77 rfl ?_
  refine PW.bipush X dX6_init_78 rfl ?_
  refine PW.newarr (k := 7) X hK (by decide) bx150 (Nat.le_of_ble_eq_true rfl) (Nat.le_of_ble_eq_true rfl) dX6_init_80 (K' := [.inl (6, [vI 0, vR 1, vR 2, vR 3, vI 0, vR 4, vR 5, vR 6, vI 0, vR 7, vI 0, vR 8, vI 0, vR 9, vN, vN, vN, vN, vN, vI 0]), .inr 200, .inr 56, .inr 56, .inr 16, .inr 16, .inr 128, .inr 32, .inr 7, .inr 4, .inr 7]) rfl ?_
  refine PW.putfn X hK hnm fpf_X6_37 (x := 0) rfl (by decide) (fun _ => rfl) (fun _ => rfl) dX6_init_82 (K' := [.inl (6, [vI 0, vR 1, vR 2, vR 3, vI 0, vR 4, vR 5, vR 6, vI 0, vR 7, vI 0, vR 8, vI 0, vR 9, vR 10, vN, vN, vN, vN, vI 0]), .inr 200, .inr 56, .inr 56, .inr 16, .inr 16, .inr 128, .inr 32, .inr 7, .inr 4, .inr 7]) rfl ?_
  refine PW.aload_n X dX6_init_85 rfl ?_
  refine PW.bipush X dX6_init_86 rfl ?_
  refine PW.newarr (k := 7) X hK (by decide) bx150 (Nat.le_of_ble_eq_true rfl) (Nat.le_of_ble_eq_true rfl) dX6_init_88 (K' := [.inl (6, [vI 0, vR 1, vR 2, vR 3, vI 0, vR 4, vR 5, vR 6, vI 0, vR 7, vI 0, vR 8, vI 0, vR 9, vR 10, vN, vN, vN, vN, vI 0]), .inr 200, .inr 56, .inr 56, .inr 16, .inr 16, .inr 128, .inr 32, .inr 7, .inr 4, .inr 7, .inr 7]) rfl ?_
  refine PW.putfn X hK hnm fpf_X6_40 (x := 0) rfl (by decide) (fun _ => rfl) (fun _ => rfl) dX6_init_90 (K' := [.inl (6, [vI 0, vR 1, vR 2, vR 3, vI 0, vR 4, vR 5, vR 6, vI 0, vR 7, vI 0, vR 8, vI 0, vR 9, vR 10, vR 11, vN, vN, vN, vI 0]), .inr 200, .inr 56, .inr 56, .inr 16, .inr 16, .inr 128, .inr 32, .inr 7, .inr 4, .inr 7, .inr 7]) rfl ?_
  refine PW.aload_n X dX6_init_93 rfl ?_
  refine PW.bipush X dX6_init_94 rfl ?_
  refine PW.newarr (k := 7) X hK (by decide) bx150 (Nat.le_of_ble_eq_true rfl) (Nat.le_of_ble_eq_true rfl) dX6_init_96 (K' := [.inl (6, [vI 0, vR 1, vR 2, vR 3, vI 0, vR 4, vR 5, vR 6, vI 0, vR 7, vI 0, vR 8, vI 0, vR 9, vR 10, vR 11, vN, vN, vN, vI 0]), .inr 200, .inr 56, .inr 56, .inr 16, .inr 16, .inr 128, .inr 32, .inr 7, .inr 4, .inr 7, .inr 7, .inr 7]) rfl ?_
  refine PW.putfn X hK hnm fpf_X6_43 (x := 0) rfl (by decide) (fun _ => rfl) (fun _ => rfl) dX6_init_98 (K' := [.inl (6, [vI 0, vR 1, vR 2, vR 3, vI 0, vR 4, vR 5, vR 6, vI 0, vR 7, vI 0, vR 8, vI 0, vR 9, vR 10, vR 11, vR 12, vN, vN, vI 0]), .inr 200, .inr 56, .inr 56, .inr 16, .inr 16, .inr 128, .inr 32, .inr 7, .inr 4, .inr 7, .inr 7, .inr 7]) rfl ?_
  refine PW.aload_n X dX6_init_101 rfl ?_
  refine PW.bipush X dX6_init_102 rfl ?_
  refine PW.newarr (k := 7) X hK (by decide) bx150 (Nat.le_of_ble_eq_true rfl) (Nat.le_of_ble_eq_true rfl) dX6_init_104 (K' := [.inl (6, [vI 0, vR 1, vR 2, vR 3, vI 0, vR 4, vR 5, vR 6, vI 0, vR 7, vI 0, vR 8, vI 0, vR 9, vR 10, vR 11, vR 12, vN, vN, vI 0]), .inr 200, .inr 56, .inr 56, .inr 16, .inr 16, .inr 128, .inr 32, .inr 7, .inr 4, .inr 7, .inr 7, .inr 7, .inr 7]) rfl ?_
  refine PW.putfn X hK hnm fpf_X6_46 (x := 0) rfl (by decide) (fun _ => rfl) (fun _ => rfl) dX6_init_106 (K' := [.inl (6, [vI 0, vR 1, vR 2, vR 3, vI 0, vR 4, vR 5, vR 6, vI 0, vR 7, vI 0, vR 8, vI 0, vR 9, vR 10, vR 11, vR 12, vR 13, vN, vI 0]), .inr 200, .inr 56, .inr 56, .inr 16, .inr 16, .inr 128, .inr 32, .inr 7, .inr 4, .inr 7, .inr 7, .inr 7, .inr 7]) rfl ?_
  refine PW.aload_n X dX6_init_109 rfl ?_
  refine PW.bipush X dX6_init_110 rfl ?_
  refine PW.newarr (k := 7) X hK (by decide) bx150 (Nat.le_of_ble_eq_true rfl) (Nat.le_of_ble_eq_true rfl) dX6_init_112 (K' := [.inl (6, [vI 0, vR 1, vR 2, vR 3, vI 0, vR 4, vR 5, vR 6, vI 0, vR 7, vI 0, vR 8, vI 0, vR 9, vR 10, vR 11, vR 12, vR 13, vN, vI 0]), .inr 200, .inr 56, .inr 56, .inr 16, .inr 16, .inr 128, .inr 32, .inr 7, .inr 4, .inr 7, .inr 7, .inr 7, .inr 7, .inr 7]) rfl ?_
  refine PW.putfn X hK hnm fpf_X6_49 (x := 0) rfl (by decide) (fun _ => rfl) (fun _ => rfl) dX6_init_114 (K' := [.inl (6, [vI 0, vR 1, vR 2, vR 3, vI 0, vR 4, vR 5, vR 6, vI 0, vR 7, vI 0, vR 8, vI 0, vR 9, vR 10, vR 11, vR 12, vR 13, vR 14, vI 0]), .inr 200, .inr 56, .inr 56, .inr 16, .inr 16, .inr 128, .inr 32, .inr 7, .inr 4, .inr 7, .inr 7, .inr 7, .inr 7, .inr 7]) rfl ?_
  exact PW.to (fun H h => io6 h) rfl rfl tail
