/-! THE PURE MACHINE: values, stores, worlds -/
def BW : List Cond := lw_tbl.filter goodWord
theorem BW_mem {w : Cond} (i : Nat) (h : lw_tbl[i]? = some w) (g : goodWord w = true) : w ∈ BW := List.mem_filter.mpr ⟨List.mem_of_getElem? h, g⟩
theorem BW_good : GoodIn lw_tbl BW := fun w h => ⟨(List.mem_filter.mp h).1, good_of_word (List.mem_filter.mp h).2⟩
abbrev mth : Type := MethodName × ByteArray × Nat × Option FieldType
def wsw (M : mth) : List Cond := .code M.1 M.2.1 M.2.2.1 M.2.2.2 :: BW
theorem wsw_bw {M : mth} {w : Cond} (h : w ∈ BW) : w ∈ wsw M := List.mem_cons_of_mem _ h
theorem wsw_good {M N : mth} (h : Cond.code N.1 N.2.1 N.2.2.1 N.2.2.2 ∈ BW) : GoodIn (wsw M) (wsw N) := by
  intro w hw
  rcases List.mem_cons.mp hw with rfl | hw
  · exact ⟨wsw_bw h, (BW_good _ h).2⟩
  · exact ⟨wsw_bw hw, (BW_good _ hw).2⟩
/-- a value: an int, a long, a cell, nothing -/
abbrev pv : Type := Int ⊕ (Int ⊕ Option Nat)
abbrev vI (z : Int) : pv := .inl z
abbrev vL (z : Int) : pv := .inr (.inl z)
abbrev vR (c : Nat) : pv := .inr (.inr (some c))
abbrev vN : pv := .inr (.inr none)
def toV (ad : Nat → Nat) : pv → Value
  | .inl z => .int (Int32.ofInt z)
  | .inr (.inl z) => .long (Int64.ofInt z)
  | .inr (.inr (some c)) => .ref (ad c)
  | .inr (.inr none) => .null
def isv : pv → Bool
  | .inr (.inr none) => false
  | _ => true
def isl : pv → Bool
  | .inr (.inl _) => true
  | _ => false
abbrev Sg : Type := Nat → Nat → Int
abbrev shp : Type := (Nat × List (Option Nat)) ⊕ Nat
def up (σ : Sg) (c j : Nat) (z : Int) : Sg := fun c' j' => if c' = c ∧ j' = j then z else σ c' j'
def cpy (σ : Sg) (c0 c1 sp dp n : Nat) : Sg := fun c' j' => if c' = c1 ∧ dp ≤ j' ∧ j' < dp + n then σ c0 (sp + (j' - dp)) else σ c' j'
def R32 (z : Int) : Prop := -2147483648 ≤ z ∧ z < 2147483648
def RG (σ : Sg) : Prop := ∀ c j, R32 (σ c j)
theorem RG_up {σ : Sg} (h : RG σ) {c j : Nat} {z : Int} (hz : R32 z) : RG (up σ c j z) := by
  intro c' j'
  unfold up
  by_cases q : c' = c ∧ j' = j
  · rw [if_pos q]; exact hz
  · rw [if_neg q]; exact h c' j'
theorem RG_cpy {σ : Sg} (h : RG σ) {c0 c1 sp dp n : Nat} : RG (cpy σ c0 c1 sp dp n) := by
  intro c' j'
  unfold cpy
  split
  · exact h _ _
  · exact h _ _

def fval (ad : Nat → Nat) (σ : Sg) (c j : Nat) : Option Nat → Value
  | none => .int (Int32.ofInt (σ c j))
  | some c' => .ref (ad c')
def ent (ad : Nat → Nat) (cA : ClassId) (σ : Sg) (c : Nat) : shp → va_E
  | .inl (ci, fs) => .inr (ci, fs.mapIdx fun j o => fval ad σ c j o)
  | .inr n => .inl (cA, n, .inl fun j => Int32.ofInt (σ c j))
def wsO (SH : List shp) (ad : Nat → Nat) (cA : ClassId) (σ : Sg) : va_W := SH.mapIdx fun c h => (ad c, ent ad cA σ c h)
theorem wsO_get {SH : List shp} {ad : Nat → Nat} {cA : ClassId} {σ : Sg} {c : Nat} {h : shp} (hc : SH[c]? = some h) : (wsO SH ad cA σ)[c]? = some (ad c, ent ad cA σ c h) := by
  simp [wsO, List.getElem?_mapIdx, hc]
theorem wsO_inv {SH : List shp} {ad : Nat → Nat} {cA : ClassId} {σ : Sg} {c : Nat} {q : Nat × va_E} (hc : (wsO SH ad cA σ)[c]? = some q) : c < SH.length ∧ q.1 = ad c := by
  simp only [wsO, List.getElem?_mapIdx] at hc
  cases h : SH[c]? with
  | none => rw [h] at hc; cases hc
  | some x =>
    rw [h] at hc
    cases hc
    exact ⟨(List.getElem?_eq_some_iff.mp h).1, rfl⟩
def AS (SH : List shp) (ad : Nat → Nat) : Nat → Prop := fun q => ∃ c, c < SH.length ∧ q = ad c
def Inj (SH : List shp) (ad : Nat → Nat) : Prop := ∀ c c', c < SH.length → c' < SH.length → ad c = ad c' → c = c'
theorem wsO_D {SH : List shp} {ad : Nat → Nat} (hi : Inj SH ad) (cA : ClassId) (σ : Sg) : va_D (AS SH ad) (wsO SH ad cA σ) := by
  refine ⟨fun i j p q hp hq e => ?_, fun k q hq => ?_⟩
  · have h1 := wsO_inv hp
    have h2 := wsO_inv hq
    exact hi i j h1.1 h2.1 (by rw [← h1.2, ← h2.2, e])
  · have h1 := wsO_inv hq
    exact ⟨k, h1.1, h1.2⟩
theorem wsO_ext {SH : List shp} {ad : Nat → Nat} {cA : ClassId} {σ σ' : Sg} {c : Nat} {h : shp} (hc : SH[c]? = some h) (hne : ∀ c', c' ≠ c → σ' c' = σ c') : (wsO SH ad cA σ).set c (ad c, ent ad cA σ' c h) = wsO SH ad cA σ' := by
  apply List.ext_getElem?
  intro i
  by_cases hi : i = c
  · subst hi
    rw [List.getElem?_set_self (by simp [wsO]; exact (List.getElem?_eq_some_iff.mp hc).1), wsO_get hc]
  · rw [List.getElem?_set_ne (Ne.symm hi)]
    simp only [wsO, List.getElem?_mapIdx]
    cases SH[i]? with
    | none => rfl
    | some x =>
      simp only [Option.map_some, Option.some.injEq, Prod.mk.injEq, true_and]
      have e : σ' i = σ i := hne i hi
      cases x with
      | inl o => simp only [ent]; congr 2; refine congrArg (fun f => List.mapIdx f o.2) ?_; funext j o'; cases o' <;> simp [fval, e]
      | inr n => simp only [ent, e]
theorem wsO_putf {SH : List shp} {ad : Nat → Nat} {cA : ClassId} {σ : Sg} {c ci j : Nat} {fs : List (Option Nat)} {z : Int} (hc : SH[c]? = some (.inl (ci, fs))) (hj : fs[j]? = some none) :
    (wsO SH ad cA σ).set c (ad c, .inr (ci, (fs.mapIdx fun j o => fval ad σ c j o).set j (.int (Int32.ofInt z)))) = wsO SH ad cA (up σ c j z) := by
  rw [← wsO_ext (σ := σ) (σ' := up σ c j z) hc (fun c' h => by funext j'; simp [up, h])]
  congr 1
  simp only [ent]
  congr 3
  apply List.ext_getElem?
  intro i
  by_cases hi : i = j
  · subst hi
    rw [List.getElem?_set_self (by simp; exact (List.getElem?_eq_some_iff.mp hj).1), List.getElem?_mapIdx, hj]
    simp [fval, up]
  · rw [List.getElem?_set_ne (Ne.symm hi), List.getElem?_mapIdx, List.getElem?_mapIdx]
    cases fs[i]? with
    | none => rfl
    | some o => cases o <;> simp [fval, up, hi]
theorem wsO_arr {SH : List shp} {ad : Nat → Nat} {cA : ClassId} {σ : Sg} {c n i : Nat} {z : Int} (hc : SH[c]? = some (.inr n)) :
    (wsO SH ad cA σ).set c (ad c, .inl (cA, n, .inl (upd (fun j => Int32.ofInt (σ c j)) i (Int32.ofInt z)))) = wsO SH ad cA (up σ c i z) := by
  rw [← wsO_ext (σ := σ) (σ' := up σ c i z) hc (fun c' h => by funext j'; simp [up, h])]
  congr 1
  simp only [ent]
  congr 4
  refine congrArg Sum.inl ?_
  funext j
  by_cases hj : j = i
  · subst hj; simp [upd, up]
  · simp [upd, up, hj]
theorem wsO_cpy {SH : List shp} {ad : Nat → Nat} {cA : ClassId} {σ : Sg} {c0 c1 n sp dp k : Nat} (hc : SH[c1]? = some (.inr n)) :
    (wsO SH ad cA σ).set c1 (ad c1, .inl (cA, n, .inl (va_cpy (fun j => Int32.ofInt (σ c0 j)) (fun j => Int32.ofInt (σ c1 j)) sp dp k))) = wsO SH ad cA (cpy σ c0 c1 sp dp k) := by
  rw [← wsO_ext (σ := σ) (σ' := cpy σ c0 c1 sp dp k) hc (fun c' h => by funext j'; simp [cpy, h])]
  congr 1
  simp only [ent]
  congr 4
  refine congrArg Sum.inl ?_
  funext j
  by_cases hj : dp ≤ j ∧ j < dp + k
  · simp [va_cpy, cpy, hj]
  · simp [va_cpy, cpy, hj]
