/-! the first text: a String constant and the methods of String -/
def FTB : List Int := [110, 49, 50, 44, 53, 59, 116, 48, 44, 49, 44, 53, 44, 51, 59, 116, 48, 44, 49, 44, 55, 44, 52, 59, 116, 49, 44, 51, 44, 52, 44, 53, 59, 116, 50, 44, 49, 44, 50, 44, 50, 59, 116, 50, 44, 49, 44, 50, 44, 54, 59, 116, 51, 44, 50, 44, 56, 44, 51, 59, 116, 48, 44, 50, 44, 54, 44, 49, 59, 112, 48, 44, 52, 44, 49, 59, 112, 49, 44, 54, 44, 48, 59, 112, 50, 44, 48, 44, 49, 59, 112, 51, 44, 55, 44, 48, 59, 112, 52, 44, 56, 44, 48, 59, 97, 55, 59, 119, 54, 59, 99, 50, 44, 52, 59, 99, 51, 44, 52, 59, 99, 55, 44, 51, 48, 59]
def FTx (j : Nat) : Int := FTB.getD j 0
def FTs : String := "n12,5;t0,1,5,3;t0,1,7,4;t1,3,4,5;t2,1,2,2;t2,1,2,6;t3,2,8,3;t0,2,6,1;p0,4,1;p1,6,0;p2,0,1;p3,7,0;p4,8,0;a7;w6;c2,4;c3,4;c7,30;"
def SF (q qv f : Nat) (A : Nat → Prop) (U : State) (H : Heap) : Prop :=
  va_Z "java/lang/String" "COMPACT_STRINGS" "Z" (.int 1) A U H ∧ (va_Z "jdk/internal/util/Preconditions" "SIOOBE_FORMATTER" "Ljava/util/function/BiFunction;" .null A U H ∨ va_Z "jdk/internal/util/Preconditions" "SIOOBE_FORMATTER" "Ljava/util/function/BiFunction;" (.ref f) A U H) ∧ va_O "java/lang/String" q A U H ∧ va_OF "java/lang/String" "coder" "B" (.int 0) q A U H ∧ va_OF "java/lang/String" "value" "[B" (.ref qv) q A U H ∧ va_T .byte qv 126 (fun j => .int (Int32.ofInt (FTx j))) A U H
theorem SF.moved {q qv f : Nat} {A : Nat → Prop} {u U : State} {H : Heap} (hvm : u.vm.Alike U.vm) (h : SF q qv f A u H) : SF q qv f A U H :=
  ⟨va_Z.moved hvm h.1, h.2.1.imp (va_Z.moved hvm) (va_Z.moved hvm), va_O.moved hvm h.2.2.1, va_OF.moved hvm h.2.2.2.1, va_OF.moved hvm h.2.2.2.2.1, va_T.moved hvm h.2.2.2.2.2⟩
theorem SF.kept {q qv f : Nat} {A : Nat → Prop} {U : State} {H H1 : Heap} (h : SF q qv f A U H) (hq : ∀ a : Nat, a < H.size → ¬ A a → H1[a]? = H[a]?) : SF q qv f A U H1 :=
  ⟨va_Z.kept h.1 hq, h.2.1.imp (fun h => va_Z.kept h hq) (fun h => va_Z.kept h hq), va_O.kept h.2.2.1 hq, va_OF.kept h.2.2.2.1 hq, va_OF.kept h.2.2.2.2.1 hq, va_T.kept h.2.2.2.2.2 hq⟩
theorem SF.narrow {q qv f : Nat} {A B : Nat → Prop} {U : State} {H : Heap} (h : SF q qv f A U H) (hAB : ∀ q, B q → A q) : SF q qv f B U H :=
  ⟨va_Z.narrow h.1 hAB, h.2.1.imp (fun h => va_Z.narrow h hAB) (fun h => va_Z.narrow h hAB), va_O.narrow h.2.2.1 hAB, va_OF.narrow h.2.2.2.1 hAB, va_OF.narrow h.2.2.2.2.1 hAB, va_T.narrow h.2.2.2.2.2 hAB⟩
def a3 (q qv f : Nat) : Nat → Nat := fun c => if c = 0 then q else if c = 1 then qv else f
def nA : Nat → Prop := fun _ => False
def QS (r : Option Int) : Array Value → State → Outcome → State → Prop := fun _ st o t => o = .returned (r.map fun x => .int (Int32.ofInt x)) ∧ va_F nA st t
def OKS (M : mth) (d : Nat) (vs : List pv) (r : Option Int) : Prop := ∀ (l : Launch) (q qv f : Nat), Met l M.1 (wsw M) (rmd d) (va_Pc (vs.map (toV (a3 q qv f))) (fun U => SF q qv f nA U U.heap)) (QS r) 0 0 nA

section PWS
variable {p : Program} {l : Launch} {e : Env} {R : Room} {s : State} {m : MethodId} {args : Array Value} {below : List Frame} {meth : Method} {c : Code} {ad : Nat → Nat} {A : Nat → Prop} {Qf : State → Prop} {nL : Nat} {I : Heap → Prop} {n t pc : Nat} {L st st0 As : List pv} {own : String} {cc : ByteArray} {N : mth} {d' : Nat} {q qv f : Nat} {r : Option Int}
theorem runS {H : Heap} {locs : List Loc} {ls : Array Slot} {st1 rest : List Value} {a : Array Value} (hr : va_Run p l e R s m args below meth c H locs n t 0 0 (F0 m pc ls st1) rest (QS r a) nA) (hS : va_S A s.heap H locs)
    (kk : ∀ (H1 : Heap) (locs1 : List Loc), H.size ≤ H1.size → (∀ q : Nat, q < H.size → H1[q]? = H[q]?) → va_S A s.heap H1 locs1 → W p l e R s m args below meth c H1 locs1 n t Qf (F0 m (pc + 3) ls ((r.map fun x => Value.int (Int32.ofInt x)).toList ++ rest))) : W p l e R s m args below meth c H locs n t Qf (F0 m pc ls st1) := by
  intro T hT X
  obtain ⟨v, st₀, t', T', L, h0, X', hL, e1, e2, ⟨hv, hz, hk⟩, st⟩ := hr T hT X
  have hv' : v = r.map fun x => Value.int (Int32.ofInt x) := by cases hv; rfl
  subst hv'
  rw [h0] at hz hk
  obtain ⟨t2, a1, b1⟩ := kk T'.heap (locs ++ L) (by rw [e1]; exact hz) (fun q hq => by rw [e1]; exact hk q hq (fun h => h))
    ⟨Nat.le_trans hS.1 (by rw [e1]; exact hz), fun q h1 h2 => by rw [e1, hk q (Nat.lt_of_lt_of_le h1 hS.1) (fun h => h)]; exact hS.2.1 q h1 h2, fun q hq => by
      rcases List.mem_append.mp hq with h | h
      · exact hS.2.2 q h
      · exact absurd (hL q h) (fun h => h)⟩ T' rfl X'
  exact ⟨t2, st t2 a1, b1⟩
theorem blindS (vs : List Value) (q qv f : Nat) : FrameBlind (va_Pc vs (fun U => SF q qv f nA U U.heap)) := fun a U g mk h => by
  obtain ⟨h0, h1⟩ := h
  exact ⟨h0, SF.moved (u := U) (U := U.calling g mk a) (Vm.Alike.refl U.vm) h1⟩
theorem map_opt (ad : Nat → Nat) (r : Option Int) (st : List pv) : (r.map fun x => Value.int (Int32.ofInt x)).toList ++ List.map (toV ad) st = List.map (toV ad) ((r.map vI).toList ++ st) := by
  cases r <;> rfl
/-- I holds of every heap that has all old cells -/
def stb (I : Heap → Prop) : Prop := ∀ H H1 : Heap, I H → H.size ≤ H1.size → (∀ q : Nat, q < H.size → H1[q]? = H[q]?) → I H1
theorem PW.callVS (X : CG own cc nL p s m args c) (hF : SF q qv f A s s.heap) (hstb : stb I) {idx x k : Nat} {vs : List pv} (hok : OKS N d' vs r) (hd : decode cc pc = .ok (.invokevirtual idx, 3)) (hw : VL own idx N k) (hcl : N.1.cls = "java/lang/String") (hvs : vs.map (toV (a3 q qv f)) = (vR x :: As).map (toV ad)) (hxq : ad x = q) (hs : st0 = As.reverse ++ vR x :: st) (hn : As.length = k) (hst : st.length ≤ 4) (hfr : d' + 1 ≤ R.frames) (hlo : 59 + 64 * d' ≤ R.locals) (hc : n ≤ R.cells) (hsl : t ≤ R.slots)
    (kk : PW p l e R s m args below meth c ad A Qf nL I n t (pc + 3) L ((r.map vI).toList ++ st)) : PW p l e R s m args below meth c ad A Qf nL I n t pc L st0 := by
  subst hs
  intro H locs ls hI hS hL
  obtain ⟨hx, hb, hml, hown, hts⟩ := X
  obtain ⟨w1, w2, w3, w4, w5, w6, w7⟩ := hw
  have hM := hok l q qv f
  rw [hvs] at hM
  rw [map_rev_app]
  have hG : GoodIn BW (wsV own idx N.1.cls N.1 (wsw N)) := by
    intro w hw
    unfold wsV at hw
    rcases List.mem_append.mp hw with h | h
    · simp only [List.mem_cons, List.mem_nil_iff, or_false] at h
      rcases h with rfl | rfl | rfl | rfl
      · exact ⟨w1, (BW_good _ w1).2⟩
      · exact ⟨w2, (BW_good _ w2).2⟩
      · exact ⟨w3, (BW_good _ w3).2⟩
      · exact ⟨w4, (BW_good _ w4).2⟩
    · exact bw_good w5 w h
  have hcw : CallW R s args own N.1.cls idx N.1 N.2.1 N.2.2.1 N.2.2.2 (wsw N) (rmd d') 0 0 k := cwV k hts hG rfl rfl rfl ⟨rfl, w6⟩ ⟨by show d' + 1 ≤ _; exact hfr, by show 8 + (N.2.2.1 + 11) + 64 * d' ≤ _; omega⟩
  have hrun := va_runV (g := F0 m pc ls ((List.map (toV ad) As).reverse ++ Value.ref (ad x) :: List.map (toV ad) st)) (H := H) (locs := locs) (cells := n) (slots := t) (below := below) (meth := meth) (e := e) (As := List.map (toV ad) As) (b := ad x) (rest := List.map (toV ad) st) ⟨hx, hb, hml, hown, hts⟩ hM hcw ⟨blindS _ q qv f, (by rw [hcl, hxq]; obtain ⟨cell, g1, g2, g3, -⟩ := hF.2.2.1.kept hS.2.1; exact ⟨cell, g1, g2, g3⟩), fun U hU hW => ⟨rfl, by show SF q qv f nA U U.heap; rw [hU]; exact ((hF.kept hS.2.1).moved hW.alike).narrow (fun _ h => absurd h (fun h => h))⟩⟩ rfl (by simpa using hn) hL.size rfl (lv_room (by have := cat_sum ad st; omega)) hd ⟨hc, hsl⟩
  exact runS hrun hS (fun H1 locs1 g1 g2 g3 => by
    have := kk H1 locs1 ls (hstb H H1 hI g1 g2) g3 hL
    rw [← map_opt] at this
    exact this)
theorem PW.callSS (X : CG own cc nL p s m args c) (hF : SF q qv f A s s.heap) (hstb : stb I) {idx k : Nat} {vs : List pv} (hok : OKS N d' vs r) (hd : decode cc pc = .ok (.invokestatic idx, 3)) (hw : SL own idx N k) (hvs : vs.map (toV (a3 q qv f)) = As.map (toV ad)) (hs : st0 = As.reverse ++ st) (hn : As.length = k) (hst : st.length ≤ 4) (hfr : d' + 1 ≤ R.frames) (hlo : 59 + 64 * d' ≤ R.locals) (hc : n ≤ R.cells) (hsl : t ≤ R.slots)
    (kk : PW p l e R s m args below meth c ad A Qf nL I n t (pc + 3) L ((r.map vI).toList ++ st)) : PW p l e R s m args below meth c ad A Qf nL I n t pc L st0 := by
  subst hs
  intro H locs ls hI hS hL
  obtain ⟨hx, hb, hml, hown, hts⟩ := X
  obtain ⟨w1, w2, w4, w5, w6, w7⟩ := hw
  have hM := hok l q qv f
  rw [hvs] at hM
  rw [map_rev_app]
  have hG : GoodIn BW (va_wsS own idx N.1 (wsw N)) := by
    intro w hw
    unfold va_wsS at hw
    rcases List.mem_append.mp hw with h | h
    · simp only [List.mem_cons, List.mem_nil_iff, or_false] at h
      rcases h with rfl | rfl | rfl
      · exact ⟨w1, (BW_good _ w1).2⟩
      · exact ⟨w2, (BW_good _ w2).2⟩
      · exact ⟨w4, (BW_good _ w4).2⟩
    · exact bw_good w5 w h
  have hcw := va_cwS (R := R) (rm := rmd d') (mc := 0) (ms := 0) k hts hG rfl rfl rfl w6 ⟨by show d' + 1 ≤ _; exact hfr, by show 8 + (N.2.2.1 + 11) + 64 * d' ≤ _; omega⟩
  have hrun := va_runS (g := F0 m pc ls ((List.map (toV ad) As).reverse ++ List.map (toV ad) st)) (H := H) (locs := locs) (cells := n) (slots := t) (below := below) (meth := meth) (e := e) (As := List.map (toV ad) As) (rest := List.map (toV ad) st) ⟨hx, hb, hml, hown, hts⟩ hM hcw ⟨blindS _ q qv f, fun U hU hW => ⟨rfl, by show SF q qv f nA U U.heap; rw [hU]; exact ((hF.kept hS.2.1).moved hW.alike).narrow (fun _ h => absurd h (fun h => h))⟩⟩ rfl (by simpa using hn) hL.size rfl (lv_room (by have := cat_sum ad st; omega)) hd ⟨hc, hsl⟩
  exact runS hrun hS (fun H1 locs1 g1 g2 g3 => by
    have := kk H1 locs1 ls (hstb H H1 hI g1 g2) g3 hL
    rw [← map_opt] at this
    exact this)
theorem PW.getst (X : CG own cc nL p s m args c) {C nm ds : String} {v : pv} {idx : Nat} (hZ : va_Z C nm ds (toV ad v) A s s.heap) (hw : Cond.fieldLink own idx C nm ds ∈ BW) (hd : decode cc pc = .ok (.getstatic idx, 3)) (k : PW p l e R s m args below meth c ad A Qf nL I n t (pc + 3) L (v :: st)) : PW p l e R s m args below meth c ad A Qf nL I n t pc L st := by
  intro H locs ls hI hS hL
  obtain ⟨hx, hb, hml, hown, hts⟩ := X
  exact va_gets hx hb hZ hS hown (hts _ hw) (fun _ h => h) hd (k H locs ls hI hS hL)
theorem PW.getof (X : CG own cc nL p s m args c) {C nm ds : String} {v : pv} {idx x : Nat} (hE : va_OF C nm ds (toV ad v) (ad x) A s s.heap) (hw : Cond.fieldLink own idx C nm ds ∈ BW) (hd : decode cc pc = .ok (.getfield idx, 3)) (k : PW p l e R s m args below meth c ad A Qf nL I n t (pc + 3) L (v :: st)) : PW p l e R s m args below meth c ad A Qf nL I n t pc L (vR x :: st) := by
  intro H locs ls hI hS hL
  obtain ⟨hx, hb, hml, hown, hts⟩ := X
  exact vk_getf hx hb hE hS hown (hts _ hw) (fun _ h => h) hd (k H locs ls hI hS hL)
theorem PW.talen (X : CG own cc nL p s m args c) {ty : FieldType} {k : Nat} {fn : Nat → Value} {x : Nat} (hT : va_T ty (ad x) k fn A s s.heap) (hd : decode cc pc = .ok (.arraylength, 1)) (kk : PW p l e R s m args below meth c ad A Qf nL I n t (pc + 1) L (vI (k : Int) :: st)) : PW p l e R s m args below meth c ad A Qf nL I n t pc L (vR x :: st) := by
  intro H locs ls hI hS hL
  obtain ⟨hx, hb, hml, hown, hts⟩ := X
  exact va_tlen hx hb hT hS (v := Int32.ofInt (k : Int)) (Int32.ofInt_eq_ofNat).symm hd (kk H locs ls hI hS hL)
theorem PW.tbald (X : CG own cc nL p s m args c) {k : Nat} {fn : Nat → Int} {x : Nat} {i : Int} (hT : va_T .byte (ad x) k (fun j => .int (Int32.ofInt (fn j))) A s s.heap) (hk : k < 2147483648) (h0 : 0 ≤ i) (h1 : i < k) (hd : decode cc pc = .ok (.baload, 1)) (kk : PW p l e R s m args below meth c ad A Qf nL I n t (pc + 1) L (vI (fn i.toNat) :: st)) : PW p l e R s m args below meth c ad A Qf nL I n t pc L (vI i :: vR x :: st) := by
  intro H locs ls hI hS hL
  obtain ⟨hx, hb, hml, hown, hts⟩ := X
  exact va_tb hx hb hT hS (vp_in_of_int h0 h1 hk) (by rw [clamp_of_int h0 (by omega)]; rfl) hd (kk H locs ls hI hS hL)
theorem PW.i2c (X : CG own cc nL p s m args c) {x : Int} (hv : ((Int32.ofInt x).toUInt32 % 65536).toInt32 = Int32.ofInt x) (hd : decode cc pc = .ok (.i2c, 1)) (kk : PW p l e R s m args below meth c ad A Qf nL I n t (pc + 1) L (vI x :: st)) : PW p l e R s m args below meth c ad A Qf nL I n t pc L (vI x :: st) := by
  intro H locs ls hI hS hL
  obtain ⟨hx, hb, hml, hown, hts⟩ := X
  exact lv_i2c hx hb hd hv (kk H locs ls hI hS hL)
theorem PW.ishrR (X : CG own cc nL p s m args c) {x y z : Int} (hz : Int32.ofInt x >>> (Int32.ofInt y &&& 31) = Int32.ofInt z) (hd : decode cc pc = .ok (.ishr, 1)) (kk : PW p l e R s m args below meth c ad A Qf nL I n t (pc + 1) L (vI z :: st)) : PW p l e R s m args below meth c ad A Qf nL I n t pc L (vI y :: vI x :: st) := by
  intro H locs ls hI hS hL
  obtain ⟨hx, hb, hml, hown, hts⟩ := X
  exact lv_ishr hx hb hd (by rw [hz]; exact kk H locs ls hI hS hL)

theorem PW.if_eq (X : CG own cc nL p s m args c) {x : Int} {off : Int} {tgt : Nat} (hx0 : R32 x) (hd : decode cc pc = .ok (.ifCond .eq off, 3)) (ht : (pc : Int) + off = (tgt : Int)) (k1 : x = 0 → PW p l e R s m args below meth c ad A Qf nL I n t tgt L st) (k2 : ¬ x = 0 → PW p l e R s m args below meth c ad A Qf nL I n t (pc + 3) L st) : PW p l e R s m args below meth c ad A Qf nL I n t pc L (vI x :: st) := by
  intro H locs ls hI hS hL
  obtain ⟨hx, hb, hml, hown, hts⟩ := X
  refine lv_if_eq hx hb hd ht (fun h => ?_) (fun h => ?_)
  · exact k1 ((i32eq hx0 R32_0).mp h) H locs ls hI hS hL
  · exact k2 (fun q => h ((i32eq hx0 R32_0).mpr q)) H locs ls hI hS hL
theorem PW.if_ne (X : CG own cc nL p s m args c) {x : Int} {off : Int} {tgt : Nat} (hx0 : R32 x) (hd : decode cc pc = .ok (.ifCond .ne off, 3)) (ht : (pc : Int) + off = (tgt : Int)) (k1 : ¬ x = 0 → PW p l e R s m args below meth c ad A Qf nL I n t tgt L st) (k2 : x = 0 → PW p l e R s m args below meth c ad A Qf nL I n t (pc + 3) L st) : PW p l e R s m args below meth c ad A Qf nL I n t pc L (vI x :: st) := by
  intro H locs ls hI hS hL
  obtain ⟨hx, hb, hml, hown, hts⟩ := X
  refine lv_if_ne hx hb hd ht (fun h => ?_) (fun h => ?_)
  · exact k1 (fun q => h ((i32eq hx0 R32_0).mpr q)) H locs ls hI hS hL
  · exact k2 ((i32eq hx0 R32_0).mp h) H locs ls hI hS hL
theorem PW.if_lt (X : CG own cc nL p s m args c) {x : Int} {off : Int} {tgt : Nat} (hx0 : R32 x) (hd : decode cc pc = .ok (.ifCond .lt off, 3)) (ht : (pc : Int) + off = (tgt : Int)) (k1 : x < 0 → PW p l e R s m args below meth c ad A Qf nL I n t tgt L st) (k2 : 0 ≤ x → PW p l e R s m args below meth c ad A Qf nL I n t (pc + 3) L st) : PW p l e R s m args below meth c ad A Qf nL I n t pc L (vI x :: st) := by
  intro H locs ls hI hS hL
  obtain ⟨hx, hb, hml, hown, hts⟩ := X
  refine lv_if_lt hx hb hd ht (fun h => ?_) (fun h => ?_)
  · exact k1 ((i32lt hx0 R32_0).mp h) H locs ls hI hS hL
  · exact k2 (by have := mt (i32lt hx0 R32_0).mpr h; omega) H locs ls hI hS hL
theorem PW.icmp_lt (X : CG own cc nL p s m args c) {x y : Int} {off : Int} {tgt : Nat} (hx0 : R32 x) (hy0 : R32 y) (hd : decode cc pc = .ok (.if_icmp .lt off, 3)) (ht : (pc : Int) + off = (tgt : Int)) (k1 : x < y → PW p l e R s m args below meth c ad A Qf nL I n t tgt L st) (k2 : y ≤ x → PW p l e R s m args below meth c ad A Qf nL I n t (pc + 3) L st) : PW p l e R s m args below meth c ad A Qf nL I n t pc L (vI y :: vI x :: st) := by
  intro H locs ls hI hS hL
  obtain ⟨hx, hb, hml, hown, hts⟩ := X
  refine lv_icmp_lt hx hb hd ht (fun h => ?_) (fun h => ?_)
  · exact k1 ((i32lt hx0 hy0).mp h) H locs ls hI hS hL
  · exact k2 (by have := mt (i32lt hx0 hy0).mpr h; omega) H locs ls hI hS hL
theorem PW.ldcS (X : CG own cc nL p s m args c) {tx : String} {idx x : Nat} (hZ : vk_R own idx tx (ad x) s) (hd : decode cc pc = .ok (.ldc idx, 2)) (k : PW p l e R s m args below meth c ad A Qf nL I n t (pc + 2) L (vR x :: st)) : PW p l e R s m args below meth c ad A Qf nL I n t pc L st := by
  intro H locs ls hI hS hL
  obtain ⟨hx, hb, hml, hown, hts⟩ := X
  exact va_ldcS hx hb hown hZ hd (k H locs ls hI hS hL)
theorem PW.sret (X : CG own cc nL p s m args c) {ty : FieldType} {x : Int} {I : Heap → Prop} (hr : meth.sig.returnType = some ty) (hlk : meth.locks = false) (hn : narrow ty (.int (Int32.ofInt x)) = .int (Int32.ofInt x)) (hd : decode cc pc = .ok (.ireturn, 1)) : PW p l e R s m args below meth c ad nA (MQ below (QS (some x)) args s n t nA) nL I n t pc L [vI x] := by
  intro H locs ls hI hS hL
  obtain ⟨hx, hb, hml, hown, hts⟩ := X
  exact W.zret hx hb hr hn (fun t' ht hW => ⟨rfl, hS.F ht⟩) hS.2.2 hd hlk
theorem PW.sretv (X : CG own cc nL p s m args c) {I : Heap → Prop} (hr : meth.sig.returnType = none) (hlk : meth.locks = false) (hd : decode cc pc = .ok (.return_, 1)) : PW p l e R s m args below meth c ad nA (MQ below (QS none) args s n t nA) nL I n t pc L [] := by
  intro H locs ls hI hS hL
  obtain ⟨hx, hb, hml, hown, hts⟩ := X
  exact W.vret hx hb hr (fun t' ht hW => ⟨rfl, hS.F ht⟩) hS.2.2 hd hlk
end PWS
theorem OKS.enter {M : mth} {d : Nat} {vs : List pv} {r : Option Int} {L' : List pv} (hpl : plainName M.1.cls = true) (hlen : (ent0 vs).length ≤ M.2.2.1) (hL' : L0 vs M.2.2.1 = L')
    (k : ∀ (p : Program) (l : Launch) (e : Env) (s : State) (m : MethodId) (args : Array Value) (below : List Frame) (meth : Method) (c : Code) (q qv f : Nat), CG M.1.cls M.2.1 M.2.2.1 p s m args c → meth.sig.returnType = M.2.2.2 → meth.locks = false → SF q qv f nA s s.heap →
      PW p l e (rmd d) s m args below meth c (a3 q qv f) nA (MQ below (QS r) args s 0 0 nA) M.2.2.1 (fun _ => True) 0 0 0 L' []) : OKS M d vs r := by
  subst hL'
  intro l q qv f
  refine Met.ofW (cc := M.2.1) (maxL := M.2.2.1) (ret := M.2.2.2) hpl rfl ?_
  intro p e s m args below meth c s₁ B hml hv
  obtain ⟨rfl, hF⟩ := hv
  have X : CG M.1.cls M.2.1 M.2.2.1 p s m (List.map (toV (a3 q qv f)) vs).toArray c := ⟨B.exec, B.bytes, hml, findClass_of_methodNamed B.named, fun w hw => atoms_spec (ws := wsw M) B.pre w (wsw_bw hw)⟩
  rw [lg_entry_eq]
  exact k p l e s m _ below meth c q qv f X B.returns B.notSynchronized hF s.heap [] _ trivial va_S.rf (LR.entry (a3 q qv f) vs hlen)
theorem stbT : stb (fun _ => True) := fun _ _ _ _ _ => trivial
theorem FT_ok : ∀ k : Nat, k < 126 → Int32.ofInt (FTx k) &&& Int32.ofInt 255 = Int32.ofInt (FTx k) ∧ ((Int32.ofInt (FTx k)).toUInt32 % 65536).toInt32 = Int32.ofInt (FTx k) := by decide +kernel
theorem FT_r : ∀ k : Nat, k < 126 → 0 ≤ FTx k ∧ FTx k < 128 := by decide +kernel

theorem bx277 : Cond.methodLink RJ0 335 yJ0_coder_7d493 ∈ BW := BW_mem 277 (by decide +kernel) rfl
theorem bx278 : Cond.instanceMethod yJ0_coder_7d493 ∈ BW := BW_mem 278 (by decide +kernel) rfl
theorem bx279 : Cond.selects RJ0 yJ0_coder_7d493 yJ0_coder_7d493 ∈ BW := BW_mem 279 (by decide +kernel) rfl
theorem bx280 : Cond.code yJ0_coder_7d493 cJ0_coder_7d493 1 (some .byte) ∈ BW := BW_mem 280 (by decide +kernel) rfl
theorem vl_J0_335 : VL RJ0 335 mJ0_coder 0 := ⟨bx277, bx278, bx279, bw65, bx280, by decide +kernel, by decide⟩
theorem bx290 : Cond.methodLink RJ0 492 yJ0_isLatin1_aae02 ∈ BW := BW_mem 290 (by decide +kernel) rfl
theorem bx291 : Cond.instanceMethod yJ0_isLatin1_aae02 ∈ BW := BW_mem 291 (by decide +kernel) rfl
theorem bx292 : Cond.selects RJ0 yJ0_isLatin1_aae02 yJ0_isLatin1_aae02 ∈ BW := BW_mem 292 (by decide +kernel) rfl
theorem bx293 : Cond.code yJ0_isLatin1_aae02 cJ0_isLatin1_aae02 1 (some .boolean) ∈ BW := BW_mem 293 (by decide +kernel) rfl
theorem vl_J0_492 : VL RJ0 492 mJ0_isLatin1 0 := ⟨bx290, bx291, bx292, bw65, bx293, by decide +kernel, by decide⟩
theorem bx294 : Cond.methodLink RJ0 495 yJ1_charAt_3b067 ∈ BW := BW_mem 294 (by decide +kernel) rfl
theorem bx295 : Cond.static yJ1_charAt_3b067 ∈ BW := BW_mem 295 (by decide +kernel) rfl
theorem bx66 : Cond.initialized RJ1 ∈ BW := BW_mem 66 (by decide +kernel) rfl
theorem bx296 : Cond.code yJ1_charAt_3b067 cJ1_charAt_3b067 2 (some .char) ∈ BW := BW_mem 296 (by decide +kernel) rfl
theorem sl_J0_495 : SL RJ0 495 mJ1_charAt 2 := ⟨bx294, bx295, bx66, bx296, by decide +kernel, by decide⟩
theorem bx297 : Cond.methodLink RJ1 9 yJ0_checkIndex_df160 ∈ BW := BW_mem 297 (by decide +kernel) rfl
theorem bx298 : Cond.static yJ0_checkIndex_df160 ∈ BW := BW_mem 298 (by decide +kernel) rfl
theorem bx299 : Cond.code yJ0_checkIndex_df160 cJ0_checkIndex_df160 2 none ∈ BW := BW_mem 299 (by decide +kernel) rfl
theorem sl_J1_9 : SL RJ1 9 mJ0_checkIndex 2 := ⟨bx297, bx298, bw65, bx299, by decide +kernel, by decide⟩
theorem bx302 : Cond.methodLink RJ0 1059 yJ3_checkIndex_8e157 ∈ BW := BW_mem 302 (by decide +kernel) rfl
theorem bx303 : Cond.static yJ3_checkIndex_8e157 ∈ BW := BW_mem 303 (by decide +kernel) rfl
theorem bx67 : Cond.initialized RJ3 ∈ BW := BW_mem 67 (by decide +kernel) rfl
theorem bx304 : Cond.code yJ3_checkIndex_8e157 cJ3_checkIndex_8e157 3 (some .int) ∈ BW := BW_mem 304 (by decide +kernel) rfl
theorem sl_J0_1059 : SL RJ0 1059 mJ3_checkIndex 3 := ⟨bx302, bx303, bx67, bx304, by decide +kernel, by decide⟩
theorem bx281 : Cond.fieldLink RJ0 38 "java/lang/String" "COMPACT_STRINGS" "Z" ∈ BW := BW_mem 281 (by decide +kernel) rfl
theorem bx1101 : Cond.fieldLink RJ0 15 "java/lang/String" "coder" "B" ∈ BW := BW_mem 1101 (by decide +kernel) rfl
theorem bx1100 : Cond.fieldLink RJ0 9 "java/lang/String" "value" "[B" ∈ BW := BW_mem 1100 (by decide +kernel) rfl
theorem bx300 : Cond.fieldLink RJ0 1053 "jdk/internal/util/Preconditions" "SIOOBE_FORMATTER" "Ljava/util/function/BiFunction;" ∈ BW := BW_mem 300 (by decide +kernel) rfl
theorem dJ3_checkIndex_8e157_0 : decode cJ3_checkIndex_8e157 0 = .ok (.iload_n 0, 1) := by decide +kernel
theorem dJ3_checkIndex_8e157_1 : decode cJ3_checkIndex_8e157 1 = .ok (.ifCond .lt 8, 3) := by decide +kernel
theorem dJ3_checkIndex_8e157_4 : decode cJ3_checkIndex_8e157 4 = .ok (.iload_n 0, 1) := by decide +kernel
theorem dJ3_checkIndex_8e157_5 : decode cJ3_checkIndex_8e157 5 = .ok (.iload_n 1, 1) := by decide +kernel
theorem dJ3_checkIndex_8e157_6 : decode cJ3_checkIndex_8e157 6 = .ok (.if_icmp .lt 10, 3) := by decide +kernel
theorem dJ3_checkIndex_8e157_9 : decode cJ3_checkIndex_8e157 9 = .ok (.aload_n 2, 1) := by decide +kernel
theorem dJ3_checkIndex_8e157_10 : decode cJ3_checkIndex_8e157 10 = .ok (.iload_n 0, 1) := by decide +kernel
theorem dJ3_checkIndex_8e157_11 : decode cJ3_checkIndex_8e157 11 = .ok (.iload_n 1, 1) := by decide +kernel
theorem dJ3_checkIndex_8e157_12 : decode cJ3_checkIndex_8e157 12 = .ok (.invokestatic 95, 3) := by decide +kernel
theorem dJ3_checkIndex_8e157_15 : decode cJ3_checkIndex_8e157 15 = .ok (.athrow, 1) := by decide +kernel
theorem dJ3_checkIndex_8e157_16 : decode cJ3_checkIndex_8e157 16 = .ok (.iload_n 0, 1) := by decide +kernel
theorem dJ3_checkIndex_8e157_17 : decode cJ3_checkIndex_8e157 17 = .ok (.ireturn, 1) := by decide +kernel
theorem s_coder : OKS mJ0_coder 1 [vR 0] (some 0) := by
  refine OKS.enter (by decide) (Nat.le_of_ble_eq_true rfl) rfl ?_
  intro p l e s m args below meth c q qv f X hr hlk hF
  refine PW.getst X (v := vI 1) hF.1 bx281 dJ0_coder_7d493_0 ?_
  refine PW.if_eq X ⟨by decide, by decide⟩ dJ0_coder_7d493_3 (tgt := 13) rfl (fun h => absurd h (by decide)) (fun _ => ?_)
  refine PW.aload_n X dJ0_coder_7d493_6 rfl ?_
  refine PW.getof X (v := vI 0) (x := 0) hF.2.2.2.1 bx1101 dJ0_coder_7d493_7 ?_
  refine PW.goto X dJ0_coder_7d493_10 (tgt := 14) rfl ?_
  exact PW.sret X hr hlk rfl dJ0_coder_7d493_14
theorem s_isLatin1 : OKS mJ0_isLatin1 1 [vR 0] (some 1) := by
  refine OKS.enter (by decide) (Nat.le_of_ble_eq_true rfl) rfl ?_
  intro p l e s m args below meth c q qv f X hr hlk hF
  refine PW.getst X (v := vI 1) hF.1 bx281 dJ0_isLatin1_aae02_0 ?_
  refine PW.if_eq X ⟨by decide, by decide⟩ dJ0_isLatin1_aae02_3 (tgt := 17) rfl (fun h => absurd h (by decide)) (fun _ => ?_)
  refine PW.aload_n X dJ0_isLatin1_aae02_6 rfl ?_
  refine PW.getof X (v := vI 0) (x := 0) hF.2.2.2.1 bx1101 dJ0_isLatin1_aae02_7 ?_
  refine PW.if_ne X ⟨by decide, by decide⟩ dJ0_isLatin1_aae02_10 (tgt := 17) rfl (fun h => absurd rfl h) (fun _ => ?_)
  refine PW.iconst X dJ0_isLatin1_aae02_13 ?_
  refine PW.goto X dJ0_isLatin1_aae02_14 (tgt := 18) rfl ?_
  exact PW.sret X hr hlk rfl dJ0_isLatin1_aae02_18
theorem s_length : OKS mJ0_length 2 [vR 0] (some 126) := by
  refine OKS.enter (by decide) (Nat.le_of_ble_eq_true rfl) rfl ?_
  intro p l e s m args below meth c q qv f X hr hlk hF
  refine PW.aload_n X dJ0_length_8abf5_0 rfl ?_
  refine PW.getof X (v := vR 1) (x := 0) hF.2.2.2.2.1 bx1100 dJ0_length_8abf5_1 ?_
  refine PW.talen X (x := 1) (k := 126) hF.2.2.2.2.2 dJ0_length_8abf5_4 ?_
  refine PW.aload_n X dJ0_length_8abf5_5 rfl ?_
  refine PW.callVS X hF stbT (As := []) s_coder dJ0_length_8abf5_6 vl_J0_335 rfl rfl rfl rfl rfl (by decide) (Nat.le_of_ble_eq_true rfl) (Nat.le_of_ble_eq_true rfl) (Nat.le_of_ble_eq_true rfl) (Nat.le_of_ble_eq_true rfl) ?_
  refine PW.ishrR X (z := 126) (by decide) dJ0_length_8abf5_9 ?_
  exact PW.sret X hr hlk rfl dJ0_length_8abf5_10
theorem s_check3 {k : Int} (h0 : 0 ≤ k) (h1 : k < 126) : OKS mJ3_checkIndex 1 [vI k, vI 126, vR 2] (some k) := by
  refine OKS.enter (by decide) (Nat.le_of_ble_eq_true rfl) rfl ?_
  intro p l e s m args below meth c q qv f X hr hlk hF
  refine PW.iload_n X dJ3_checkIndex_8e157_0 rfl ?_
  refine PW.if_lt X ⟨by omega, by omega⟩ dJ3_checkIndex_8e157_1 (tgt := 9) rfl (fun h => absurd h (by omega)) (fun _ => ?_)
  refine PW.iload_n X dJ3_checkIndex_8e157_4 rfl ?_
  refine PW.iload_n X dJ3_checkIndex_8e157_5 rfl ?_
  refine PW.icmp_lt X ⟨by omega, by omega⟩ ⟨by decide, by decide⟩ dJ3_checkIndex_8e157_6 (tgt := 16) rfl (fun _ => ?_) (fun h => absurd h (by omega))
  refine PW.iload_n X dJ3_checkIndex_8e157_16 rfl ?_
  exact PW.sret X hr hlk rfl dJ3_checkIndex_8e157_17
theorem s_check3n {k : Int} (h0 : 0 ≤ k) (h1 : k < 126) : OKS mJ3_checkIndex 1 [vI k, vI 126, vN] (some k) := by
  refine OKS.enter (by decide) (Nat.le_of_ble_eq_true rfl) rfl ?_
  intro p l e s m args below meth c q qv f X hr hlk hF
  refine PW.iload_n X dJ3_checkIndex_8e157_0 rfl ?_
  refine PW.if_lt X ⟨by omega, by omega⟩ dJ3_checkIndex_8e157_1 (tgt := 9) rfl (fun h => absurd h (by omega)) (fun _ => ?_)
  refine PW.iload_n X dJ3_checkIndex_8e157_4 rfl ?_
  refine PW.iload_n X dJ3_checkIndex_8e157_5 rfl ?_
  refine PW.icmp_lt X ⟨by omega, by omega⟩ ⟨by decide, by decide⟩ dJ3_checkIndex_8e157_6 (tgt := 16) rfl (fun _ => ?_) (fun h => absurd h (by omega))
  refine PW.iload_n X dJ3_checkIndex_8e157_16 rfl ?_
  exact PW.sret X hr hlk rfl dJ3_checkIndex_8e157_17
theorem s_check0 {k : Int} (h0 : 0 ≤ k) (h1 : k < 126) : OKS mJ0_checkIndex 2 [vI k, vI 126] (none) := by
  refine OKS.enter (by decide) (Nat.le_of_ble_eq_true rfl) rfl ?_
  intro p l e s m args below meth c q qv f X hr hlk hF
  refine PW.iload_n X dJ0_checkIndex_df160_0 rfl ?_
  refine PW.iload_n X dJ0_checkIndex_df160_1 rfl ?_
  rcases hF.2.1 with hz | hz
  · refine PW.getst X (v := vN) hz bx300 dJ0_checkIndex_df160_2 ?_
    refine PW.callSS X hF stbT (As := [vI k, vI 126, vN]) (s_check3n h0 h1) dJ0_checkIndex_df160_5 sl_J0_1059 rfl rfl rfl (Nat.le_of_ble_eq_true rfl) (Nat.le_of_ble_eq_true rfl) (Nat.le_of_ble_eq_true rfl) (Nat.le_of_ble_eq_true rfl) (Nat.le_of_ble_eq_true rfl) ?_
    refine PW.pop X rfl dJ0_checkIndex_df160_8 ?_
    exact PW.sretv X hr hlk dJ0_checkIndex_df160_9
  · refine PW.getst X (v := vR 2) hz bx300 dJ0_checkIndex_df160_2 ?_
    refine PW.callSS X hF stbT (As := [vI k, vI 126, vR 2]) (s_check3 h0 h1) dJ0_checkIndex_df160_5 sl_J0_1059 rfl rfl rfl (Nat.le_of_ble_eq_true rfl) (Nat.le_of_ble_eq_true rfl) (Nat.le_of_ble_eq_true rfl) (Nat.le_of_ble_eq_true rfl) (Nat.le_of_ble_eq_true rfl) ?_
    refine PW.pop X rfl dJ0_checkIndex_df160_8 ?_
    exact PW.sretv X hr hlk dJ0_checkIndex_df160_9
theorem s_charAt1 {k : Int} (h0 : 0 ≤ k) (h1 : k < 126) : OKS mJ1_charAt 3 [vR 1, vI k] (some (FTx k.toNat)) := by
  refine OKS.enter (by decide) (Nat.le_of_ble_eq_true rfl) rfl ?_
  intro p l e s m args below meth c q qv f X hr hlk hF
  refine PW.iload_n X dJ1_charAt_3b067_0 rfl ?_
  refine PW.aload_n X dJ1_charAt_3b067_1 rfl ?_
  refine PW.talen X (x := 1) (k := 126) hF.2.2.2.2.2 dJ1_charAt_3b067_2 ?_
  refine PW.callSS X hF stbT (As := [vI k, vI 126]) (s_check0 h0 h1) dJ1_charAt_3b067_3 sl_J1_9 rfl rfl rfl (by decide) (Nat.le_of_ble_eq_true rfl) (Nat.le_of_ble_eq_true rfl) (Nat.le_of_ble_eq_true rfl) (Nat.le_of_ble_eq_true rfl) ?_
  refine PW.aload_n X dJ1_charAt_3b067_6 rfl ?_
  refine PW.iload_n X dJ1_charAt_3b067_7 rfl ?_
  refine PW.tbald X (x := 1) (k := 126) hF.2.2.2.2.2 (by decide) h0 h1 dJ1_charAt_3b067_8 ?_
  refine PW.sipush X dJ1_charAt_3b067_9 rfl ?_
  refine PW.iandR X (FT_ok k.toNat (by omega)).1 dJ1_charAt_3b067_12 ?_
  refine PW.i2c X (FT_ok k.toNat (by omega)).2 dJ1_charAt_3b067_13 ?_
  refine PW.sret X hr hlk ?_ dJ1_charAt_3b067_14
  show Value.int _ = _
  exact congrArg Value.int (FT_ok k.toNat (by omega)).2
theorem s_charAt {k : Int} (h0 : 0 ≤ k) (h1 : k < 126) : OKS mJ0_charAt 4 [vR 0, vI k] (some (FTx k.toNat)) := by
  refine OKS.enter (by decide) (Nat.le_of_ble_eq_true rfl) rfl ?_
  intro p l e s m args below meth c q qv f X hr hlk hF
  refine PW.aload_n X dJ0_charAt_5068e_0 rfl ?_
  refine PW.callVS X hF stbT (As := []) s_isLatin1 dJ0_charAt_5068e_1 vl_J0_492 rfl rfl rfl rfl rfl (by decide) (Nat.le_of_ble_eq_true rfl) (Nat.le_of_ble_eq_true rfl) (Nat.le_of_ble_eq_true rfl) (Nat.le_of_ble_eq_true rfl) ?_
  refine PW.if_eq X ⟨by decide, by decide⟩ dJ0_charAt_5068e_4 (tgt := 16) rfl (fun h => absurd h (by decide)) (fun _ => ?_)
  refine PW.aload_n X dJ0_charAt_5068e_7 rfl ?_
  refine PW.getof X (v := vR 1) (x := 0) hF.2.2.2.2.1 bx1100 dJ0_charAt_5068e_8 ?_
  refine PW.iload_n X dJ0_charAt_5068e_11 rfl ?_
  refine PW.callSS X hF stbT (As := [vR 1, vI k]) (s_charAt1 h0 h1) dJ0_charAt_5068e_12 sl_J0_495 rfl rfl rfl (by decide) (Nat.le_of_ble_eq_true rfl) (Nat.le_of_ble_eq_true rfl) (Nat.le_of_ble_eq_true rfl) (Nat.le_of_ble_eq_true rfl) ?_
  refine PW.sret X hr hlk ?_ dJ0_charAt_5068e_15
  show Value.int _ = _
  exact congrArg Value.int (FT_ok k.toNat (by omega)).2
