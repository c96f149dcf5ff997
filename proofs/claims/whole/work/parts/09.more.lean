/-! more rules: exact answers, places as naturals, switches, loops -/
def RV (v : Int) (τ : Sg) : Option pv → Sg → Prop := fun r σ' => r = some (vI v) ∧ σ' = τ
def RN (τ : Sg) : Option pv → Sg → Prop := fun r σ' => r = none ∧ σ' = τ
section MOR
variable {SH : List shp} {M N : mth} {d d' pc idx n : Nat} {L st st0 As : List pv} {σ τ : Sg} {Q Qc : Option pv → Sg → Prop}
theorem PP.callVi {c ci : Nat} {fs : List (Option Nat)} {q : vw_C} {v : Int} (hok : OK SH N d' (vR c :: As) σ (RV v τ)) (hd : decode M.2.1 pc = .ok (.invokevirtual idx, 3)) (hw : VL M.1.cls idx N n) (hc : SH[c]? = some (.inl (ci, fs))) (hq : clsT[ci]? = some q) (hq1 : q.1 = N.1.cls) (hs : st0 = As.reverse ++ vR c :: st) (hn : As.length = n) (hst : st.length ≤ 4) (hdd : d' + 1 ≤ d)
    (k : PP SH M d (pc + 3) L (vI v :: st) τ Q) : PP SH M d pc L st0 σ Q :=
  PP.callV hok hd hw hc hq hq1 hs hn hst hdd (fun r σ' h => by obtain ⟨rfl, rfl⟩ := h; exact k)
theorem PP.callVn {c ci : Nat} {fs : List (Option Nat)} {q : vw_C} (hok : OK SH N d' (vR c :: As) σ (RN τ)) (hd : decode M.2.1 pc = .ok (.invokevirtual idx, 3)) (hw : VL M.1.cls idx N n) (hc : SH[c]? = some (.inl (ci, fs))) (hq : clsT[ci]? = some q) (hq1 : q.1 = N.1.cls) (hs : st0 = As.reverse ++ vR c :: st) (hn : As.length = n) (hst : st.length ≤ 4) (hdd : d' + 1 ≤ d)
    (k : PP SH M d (pc + 3) L st τ Q) : PP SH M d pc L st0 σ Q :=
  PP.callV hok hd hw hc hq hq1 hs hn hst hdd (fun r σ' h => by obtain ⟨rfl, rfl⟩ := h; exact k)
theorem PP.callSi {v : Int} (hok : OK SH N d' As σ (RV v τ)) (hd : decode M.2.1 pc = .ok (.invokestatic idx, 3)) (hw : SL M.1.cls idx N n) (hs : st0 = As.reverse ++ st) (hn : As.length = n) (hst : st.length ≤ 4) (hdd : d' + 1 ≤ d)
    (k : PP SH M d (pc + 3) L (vI v :: st) τ Q) : PP SH M d pc L st0 σ Q :=
  PP.callS hok hd hw hs hn hst hdd (fun r σ' h => by obtain ⟨rfl, rfl⟩ := h; exact k)
theorem PP.callSn (hok : OK SH N d' As σ (RN τ)) (hd : decode M.2.1 pc = .ok (.invokestatic idx, 3)) (hw : SL M.1.cls idx N n) (hs : st0 = As.reverse ++ st) (hn : As.length = n) (hst : st.length ≤ 4) (hdd : d' + 1 ≤ d)
    (k : PP SH M d (pc + 3) L st τ Q) : PP SH M d pc L st0 σ Q :=
  PP.callS hok hd hw hs hn hst hdd (fun r σ' h => by obtain ⟨rfl, rfl⟩ := h; exact k)
theorem PP.callNi {v : Int} (hok : OK SH N d' As σ (RV v τ)) (hd : decode M.2.1 pc = .ok (.invokestatic idx, 3)) (hw : NL M.1.cls idx N n) (hs : st0 = As.reverse ++ st) (hn : As.length = n) (hst : st.length ≤ 4) (hdd : d' + 1 ≤ d)
    (k : PP SH M d (pc + 3) L (vI v :: st) τ Q) : PP SH M d pc L st0 σ Q :=
  PP.callN hok hd hw hs hn hst hdd (fun r σ' h => by obtain ⟨rfl, rfl⟩ := h; exact k)
theorem PP.ialoadN {c len n : Nat} {i : Int} (hc : SH[c]? = some (.inr len)) (hl : len < 2147483648) (hi : i = (n : Int)) (h1 : n < len) (hd : decode M.2.1 pc = .ok (.iaload, 1)) (k : PP SH M d (pc + 1) L (vI (σ c n) :: st) σ Q) : PP SH M d pc L (vI i :: vR c :: st) σ Q := by
  subst hi
  exact PP.iaload hc hl (by omega) (by omega) hd k
theorem PP.iastoreN {c len n : Nat} {i z : Int} (hc : SH[c]? = some (.inr len)) (hl : len < 2147483648) (hi : i = (n : Int)) (h1 : n < len) (hz : R32 z) (hd : decode M.2.1 pc = .ok (.iastore, 1)) (k : PP SH M d (pc + 1) L st (up σ c n z) Q) : PP SH M d pc L (vI z :: vI i :: vR c :: st) σ Q := by
  subst hi
  exact PP.iastore hc hl (by omega) (by omega) hz hd k
theorem PP.tabI {dflt lo hi : Int} {offs : Array Int} {len i : Nat} {x off : Int} {tgt : Nat} (h1 : x = lo + (i : Int)) (h2 : x ≤ hi) (ho : offs[i]? = some off) (hx0 : R32 x) (hd : decode M.2.1 pc = .ok (.tableswitch dflt lo hi offs, len)) (he : offs = offs) (ht : (pc : Int) + off = (tgt : Int)) (k : PP SH M d tgt L st σ Q) : PP SH M d pc L (vI x :: st) σ Q := by
  intro p l e s m args below meth c D ad cA H locs ls X hP hS hR hL
  obtain ⟨hx, hb, hr, hml, hown, hts, hlk, hK, hI, hN⟩ := id X
  exact lv_tableIn hx hb hd (by rw [t32 hx0]; omega) (by rw [t32 hx0]; omega) (by rw [t32 hx0]; rw [show (x - lo).toNat = i by omega]; exact ho) ht (k p l e s m args below meth c D ad cA H locs ls X hP hS hR hL)
theorem PP.tabO {dflt lo hi : Int} {offs : Array Int} {len : Nat} {x : Int} {tgt : Nat} (h : x < lo ∨ hi < x) (hx0 : R32 x) (hd : decode M.2.1 pc = .ok (.tableswitch dflt lo hi offs, len)) (ht : (pc : Int) + dflt = (tgt : Int)) (k : PP SH M d tgt L st σ Q) : PP SH M d pc L (vI x :: st) σ Q := by
  intro p l e s m args below meth c D ad cA H locs ls X hP hS hR hL
  obtain ⟨hx, hb, hr, hml, hown, hts, hlk, hK, hI, hN⟩ := id X
  exact lv_tableOut hx hb hd (by rw [t32 hx0]; exact h) ht (k p l e s m args below meth c D ad cA H locs ls X hP hS hR hL)
theorem LR.frg {ad : Nat → Nat} {nL : Nat} {L : List pv} {ls : Array Slot} (i : Nat) (h : LR ad nL L ls) : LR ad nL (L.set i vN) ls := by
  obtain ⟨h0, l, h1, h2⟩ := h
  refine ⟨by simp [h0], l, h1, fun j v hj hv => ?_⟩
  by_cases e : i = j
  · subst e
    by_cases hl : i < L.length
    · rw [List.getElem?_set_self hl] at hj; cases hj; cases hv
    · rw [List.getElem?_eq_none (by simp; omega)] at hj; cases hj
  · rw [List.getElem?_set_ne e] at hj
    exact h2 j v hj hv
theorem PP.frg (i : Nat) {L' : List pv} (hl : L.set i vN = L') (k : PP SH M d pc L' st σ Q) : PP SH M d pc L st σ Q := by
  subst hl
  intro p l e s m args below meth c D ad cA H locs ls X hP hS hR hL
  exact k p l e s m args below meth c D ad cA H locs ls X hP hS hR (hL.frg i)
theorem PP.eqL {L' : List pv} (h : L = L') (k : PP SH M d pc L' st σ Q) : PP SH M d pc L st σ Q := h ▸ k
theorem PP.eqI {x y : Int} (h : x = y) (k : PP SH M d pc L (vI y :: st) σ Q) : PP SH M d pc L (vI x :: st) σ Q := h ▸ k
theorem PP.eqS {σ' : Sg} (h : σ = σ') (k : PP SH M d pc L st σ' Q) : PP SH M d pc L st σ Q := h ▸ k
end MOR
theorem loop_dn {P : Nat → Prop} (e : Nat) (h0 : P e) (hs : ∀ o, o < e → P (o + 1) → P o) : ∀ o, o ≤ e → P o := by
  have key : ∀ k o, o + k = e → P o := by
    intro k
    induction k with
    | zero => intro o h; rw [show o = e by omega]; exact h0
    | succ k ih => intro o h; exact hs o (by omega) (ih (o + 1) (by omega))
  intro o ho
  exact key (e - o) o (by omega)
def SHc : List shp := [.inl (5, [some 1, none, some 2, some 14, some 20, some 24, some 28, some 35, some 37, none, none]), .inr 200, .inl (3, [some 3, some 9, some 13, none, none]), .inl (0, [none, none, none, none, some 4, some 5, some 6, some 7, some 8]), .inr 7, .inr 7, .inr 7, .inr 7, .inr 24, .inl (2, [some 3, some 10, some 11, some 12, none, none]), .inr 7, .inr 7, .inr 7, .inr 4, .inl (0, [none, none, none, none, some 15, some 16, some 17, some 18, some 19]), .inr 7, .inr 7, .inr 7, .inr 7, .inr 24, .inl (2, [some 14, some 21, some 22, some 23, none, none]), .inr 7, .inr 7, .inr 7, .inl (2, [some 14, some 25, some 26, some 27, none, none]), .inr 7, .inr 7, .inr 7, .inl (1, [some 14, some 29, some 33, none, some 34, none, none, none, none, none]), .inl (2, [some 14, some 30, some 31, some 32, none, none]), .inr 7, .inr 7, .inr 7, .inr 7, .inr 7, .inl (4, [none, some 36, none]), .inr 128, .inl (4, [none, some 38, none]), .inr 32]
theorem sc0 : SHc[0]? = some (.inl (5, [some 1, none, some 2, some 14, some 20, some 24, some 28, some 35, some 37, none, none])) := rfl
theorem sc1 : SHc[1]? = some (.inr 200) := rfl
theorem sc2 : SHc[2]? = some (.inl (3, [some 3, some 9, some 13, none, none])) := rfl
theorem sc3 : SHc[3]? = some (.inl (0, [none, none, none, none, some 4, some 5, some 6, some 7, some 8])) := rfl
theorem sc4 : SHc[4]? = some (.inr 7) := rfl
theorem sc5 : SHc[5]? = some (.inr 7) := rfl
theorem sc6 : SHc[6]? = some (.inr 7) := rfl
theorem sc7 : SHc[7]? = some (.inr 7) := rfl
theorem sc8 : SHc[8]? = some (.inr 24) := rfl
theorem sc9 : SHc[9]? = some (.inl (2, [some 3, some 10, some 11, some 12, none, none])) := rfl
theorem sc10 : SHc[10]? = some (.inr 7) := rfl
theorem sc11 : SHc[11]? = some (.inr 7) := rfl
theorem sc12 : SHc[12]? = some (.inr 7) := rfl
theorem sc13 : SHc[13]? = some (.inr 4) := rfl
theorem sc14 : SHc[14]? = some (.inl (0, [none, none, none, none, some 15, some 16, some 17, some 18, some 19])) := rfl
theorem sc15 : SHc[15]? = some (.inr 7) := rfl
theorem sc16 : SHc[16]? = some (.inr 7) := rfl
theorem sc17 : SHc[17]? = some (.inr 7) := rfl
theorem sc18 : SHc[18]? = some (.inr 7) := rfl
theorem sc19 : SHc[19]? = some (.inr 24) := rfl
theorem sc20 : SHc[20]? = some (.inl (2, [some 14, some 21, some 22, some 23, none, none])) := rfl
theorem sc21 : SHc[21]? = some (.inr 7) := rfl
theorem sc22 : SHc[22]? = some (.inr 7) := rfl
theorem sc23 : SHc[23]? = some (.inr 7) := rfl
theorem sc24 : SHc[24]? = some (.inl (2, [some 14, some 25, some 26, some 27, none, none])) := rfl
theorem sc25 : SHc[25]? = some (.inr 7) := rfl
theorem sc26 : SHc[26]? = some (.inr 7) := rfl
theorem sc27 : SHc[27]? = some (.inr 7) := rfl
theorem sc28 : SHc[28]? = some (.inl (1, [some 14, some 29, some 33, none, some 34, none, none, none, none, none])) := rfl
theorem sc29 : SHc[29]? = some (.inl (2, [some 14, some 30, some 31, some 32, none, none])) := rfl
theorem sc30 : SHc[30]? = some (.inr 7) := rfl
theorem sc31 : SHc[31]? = some (.inr 7) := rfl
theorem sc32 : SHc[32]? = some (.inr 7) := rfl
theorem sc33 : SHc[33]? = some (.inr 7) := rfl
theorem sc34 : SHc[34]? = some (.inr 7) := rfl
theorem sc35 : SHc[35]? = some (.inl (4, [none, some 36, none])) := rfl
theorem sc36 : SHc[36]? = some (.inr 128) := rfl
theorem sc37 : SHc[37]? = some (.inl (4, [none, some 38, none])) := rfl
theorem sc38 : SHc[38]? = some (.inr 32) := rfl
def SHm : List shp := [.inl (6, [none, some 1, some 2, some 3, none, some 4, some 5, some 6, none, some 7, none, some 8, none, some 9, some 10, some 11, some 12, some 13, some 14, none]), .inr 200, .inr 56, .inr 56, .inr 16, .inr 16, .inr 128, .inr 32, .inr 7, .inr 4, .inr 7, .inr 7, .inr 7, .inr 7, .inr 7]
theorem sm0 : SHm[0]? = some (.inl (6, [none, some 1, some 2, some 3, none, some 4, some 5, some 6, none, some 7, none, some 8, none, some 9, some 10, some 11, some 12, some 13, some 14, none])) := rfl
theorem sm1 : SHm[1]? = some (.inr 200) := rfl
theorem sm2 : SHm[2]? = some (.inr 56) := rfl
theorem sm3 : SHm[3]? = some (.inr 56) := rfl
theorem sm4 : SHm[4]? = some (.inr 16) := rfl
theorem sm5 : SHm[5]? = some (.inr 16) := rfl
theorem sm6 : SHm[6]? = some (.inr 128) := rfl
theorem sm7 : SHm[7]? = some (.inr 32) := rfl
theorem sm8 : SHm[8]? = some (.inr 7) := rfl
theorem sm9 : SHm[9]? = some (.inr 4) := rfl
theorem sm10 : SHm[10]? = some (.inr 7) := rfl
theorem sm11 : SHm[11]? = some (.inr 7) := rfl
theorem sm12 : SHm[12]? = some (.inr 7) := rfl
theorem sm13 : SHm[13]? = some (.inr 7) := rfl
theorem sm14 : SHm[14]? = some (.inr 7) := rfl
