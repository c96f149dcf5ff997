/-! what an object is: letters, what is told, the rack, what can be undone, what is kept, what was seen -/
abbrev ST : Type := Nat × (Nat → Int) × (Nat → Int) × Nat × (Nat → Int) × List (Nat → Int) × List (Nat → Int) × (Nat → Int)
def snP (sn : Nat → Int) (t : Nat) : Bool := decide (0 ≤ sn t)
def snC (sn : Nat → Int) (t : Nat) : Bool := decide (sn t = 1)
def wsh (row : Nat → Int) (t : Nat) : Bool := (row 1).toNat.testBit t
abbrev rP (row : Nat → Int) : Nat → Int := fun t => row (2 + t)
abbrev rF (row : Nat → Int) : Nat → Int := fun t => row (9 + t)
theorem wsh_m {T : Nat → Int} {n : Nat} {row : Nat → Int} (h : wfR T n row) : row 1 = (msk (wsh row) n : Nat) := by
  obtain ⟨-, -, p, hp⟩ := h
  have : msk (wsh row) n = msk p n := by
    refine msk_cong (fun u hu => ?_)
    unfold wsh
    rw [hp, Int.toNat_natCast, msk_bit hu]
  rw [this, hp]
theorem wsh_of {n : Nat} {row : Nat → Int} {p : Nat → Bool} (hp : row 1 = (msk p n : Nat)) {t : Nat} (ht : t < n) : wsh row t = p t := by
  unfold wsh
  rw [hp, Int.toNat_natCast, msk_bit ht]
def WF (A : ST) : Prop := A.1 ≤ 200 ∧ (∀ j, j < A.1 → 32 ≤ A.2.1 j ∧ A.2.1 j ≤ 126) ∧ wfT A.2.2.1 A.2.2.2.1 ∧ 1 ≤ A.2.2.2.1 ∧ wfR A.2.2.1 A.2.2.2.1 A.2.2.2.2.1 ∧ (∀ r ∈ A.2.2.2.2.2.1, wfR A.2.2.1 A.2.2.2.1 r) ∧ (∀ r ∈ A.2.2.2.2.2.2.1, wfR A.2.2.1 A.2.2.2.1 r) ∧ (∀ t, A.2.2.2.2.2.2.2 t = -4 ∨ A.2.2.2.2.2.2.2 t = 0 ∨ A.2.2.2.2.2.2.2 t = 1) ∧ ∀ t, A.2.2.2.1 ≤ t → A.2.2.2.2.2.2.2 t = -4
def RepC (σ : Sg) (A : ST) : Prop := σ 0 1 = (A.1 : Int) ∧ (∀ j, j < A.1 → σ 1 j = A.2.1 j) ∧ DR σ 14 A.2.2.1 A.2.2.2.1 ∧ RW σ 20 A.2.2.1 A.2.2.2.2.1 ∧ SHR σ 35 8 A.2.2.2.2.2.1 ∧ SHR σ 37 2 A.2.2.2.2.2.2.1 ∧ σ 0 9 = (msk (snP A.2.2.2.2.2.2.2) A.2.2.2.1 : Nat) ∧ σ 0 10 = (msk (snC A.2.2.2.2.2.2.2) A.2.2.2.1 : Nat) ∧ CH σ A.2.2.1 A.2.2.2.1
theorem RES_cong {σ τ : Sg} {T : Nat → Int} {n : Nat} {wa : Nat → Bool} {w : Int} (h : RES σ T n wa w) (e1 : τ 28 = σ 28) (e2 : τ 34 = σ 34) : RES τ T n wa w := by
  obtain ⟨h1, h2, h3⟩ := h
  exact ⟨by rw [e1]; exact h1, by rw [e1]; exact h2, BL_cong h3 (fun i _ => by rw [e2])⟩
theorem CH_cong {σ τ : Sg} {T : Nat → Int} {n : Nat} (h : CH σ T n) (e1 : τ 28 = σ 28) (e2 : τ 34 = σ 34) : CH τ T n := by
  rcases h with h | ⟨h, wa, w, h1, h2, h3, h4⟩
  · exact Or.inl (by rw [e1]; exact h)
  · exact Or.inr ⟨by rw [e1]; exact h, wa, w, by rw [e1]; exact h1, by rw [e1]; exact h2, h3, RES_cong h4 e1 e2⟩
/-- only places of use to the reader, the trial and the search have changed -/
theorem RepC_cong {σ τ : Sg} {A : ST} (h : RepC σ A) (e : ∀ c, c < 2 ∨ (14 ≤ c ∧ c < 24) ∨ c = 28 ∨ 34 ≤ c → τ c = σ c) : RepC τ A := by
  obtain ⟨h1, h2, h3, h4, h5, h6, h7, h8, h9⟩ := h
  refine ⟨by rw [e 0 (by omega)]; exact h1, fun j hj => by rw [e 1 (by omega)]; exact h2 j hj, DR_cong h3 (fun c _ _ => e c (by omega)), RW_cong h4 (fun c _ _ => e c (by omega)), SHR_cong h5 (e _ (by omega)) (e _ (by omega)), SHR_cong h6 (e _ (by omega)) (e _ (by omega)), by rw [e 0 (by omega)]; exact h7, by rw [e 0 (by omega)]; exact h8, CH_cong h9 (e _ (by omega)) (e _ (by omega))⟩
/-! what each call answers -/
def spWrite (A : ST) (x : Int) : Int × ST := if ¬ (32 ≤ x ∧ x ≤ 126) then (-1, A) else if A.1 = 200 then (-3, A) else ((A.1 : Int) + 1, (A.1 + 1, uf A.2.1 A.1 x, A.2.2))
def spWipe (A : ST) : Int × ST := ((A.1 : Int), (0, A.2))
abbrev isT (A : ST) (t : Int) : Prop := 0 ≤ t ∧ t < A.2.2.2.1
abbrev isZ (x : Int) : Prop := x = 0 ∨ x = 1
def qThing (A : ST) (t what : Int) : Int :=
  if ¬ isT A t then -1 else if what = 0 then A.2.2.1 (4 + t.toNat) else if what = 1 then A.2.2.1 (11 + t.toNat) else if what = 2 then A.2.2.1 (18 + t.toNat) else if what = 3 then A.2.2.1 (25 + t.toNat) else if what = 4 then A.2.2.2.2.1 (2 + t.toNat) else if what = 5 then A.2.2.2.2.1 (9 + t.toNat) else if what = 6 then b2i (wsh A.2.2.2.2.1 t.toNat) else -1
def qSlot (A : ST) (s : Int) : Int := if ¬ (0 ≤ s ∧ s < A.2.2.1 0) then -1 else ownS A.2.2.1 (rP A.2.2.2.2.1) s 0 A.2.2.2.1
/-- the rack is another: what was can be had again -/
def act (A : ST) (row : Nat → Int) : ST := (A.1, A.2.1, A.2.2.1, A.2.2.2.1, row, pushL 8 A.2.2.2.2.2.1 A.2.2.2.2.1, A.2.2.2.2.2.2)
def outR (row : Nat → Int) (t : Nat) : Nat → Int := uf (uf row (2 + t) (-4)) (9 + t) (-4)
def spPutIn (A : ST) (t s f : Int) : Int × ST :=
  if ¬ (isT A t ∧ (0 ≤ s ∧ s < A.2.2.1 0) ∧ isZ f) then (-1, A)
  else if 0 ≤ A.2.2.2.2.1 (2 + t.toNat) ∨ wsh A.2.2.2.2.1 t.toNat = true ∨ fitS A.2.2.1 A.2.2.2.1 (rP A.2.2.2.2.1) t.toNat s = false then (-2, A)
  else ((cnt (inS (rP (uf (uf A.2.2.2.2.1 (2 + t.toNat) s) (9 + t.toNat) f))) A.2.2.2.1 : Nat), act A (uf (uf A.2.2.2.2.1 (2 + t.toNat) s) (9 + t.toNat) f))
def spTurn (A : ST) (t : Int) : Int × ST :=
  if ¬ isT A t then (-1, A) else if A.2.2.2.2.1 (2 + t.toNat) < 0 then (-2, A) else (1 - A.2.2.2.2.1 (9 + t.toNat), act A (uf A.2.2.2.2.1 (9 + t.toNat) (1 - A.2.2.2.2.1 (9 + t.toNat))))
def spTakeOut (A : ST) (t : Int) : Int × ST :=
  if ¬ isT A t then (-1, A) else if A.2.2.2.2.1 (2 + t.toNat) < 0 then (-2, A) else ((cnt (inS (rP (outR A.2.2.2.2.1 t.toNat))) A.2.2.2.1 : Nat), act A (outR A.2.2.2.2.1 t.toNat))
def wshR (row : Nat → Int) (n t : Nat) : Nat → Int := uf (outR row t) 1 ((msk (fun u => wsh row u || decide (u = t)) n : Nat) : Int)
def spWash (A : ST) (t : Int) : Int × ST :=
  if ¬ isT A t then (-1, A) else if wsh A.2.2.2.2.1 t.toNat = true then (-2, A) else ((cnt (fun u => wsh A.2.2.2.2.1 u || decide (u = t.toNat)) A.2.2.2.1 : Nat), act A (wshR A.2.2.2.2.1 A.2.2.2.1 t.toNat))
def spWater (A : ST) (p : Int) : Int × ST := if ¬ (1 ≤ p ∧ p ≤ 9) then (-1, A) else (A.2.2.2.2.1 0, act A (uf A.2.2.2.2.1 0 p))
def spUndo (A : ST) : Int × ST := match A.2.2.2.2.2.1.getLast? with
  | none => (-2, A)
  | some r => ((A.2.2.2.2.2.1.length : Int) - 1, (A.1, A.2.1, A.2.2.1, A.2.2.2.1, r, A.2.2.2.2.2.1.dropLast, A.2.2.2.2.2.2))
def qClean (A : ST) : Int := (msk (clS A.2.2.1 A.2.2.2.1 (rP A.2.2.2.2.1) (rF A.2.2.2.2.1) (A.2.2.2.2.1 0)) A.2.2.2.1 : Nat)
def qStands (A : ST) (t what : Int) : Int :=
  if ¬ (isT A t ∧ 0 ≤ what ∧ what ≤ 3) then -1 else if A.2.2.2.2.1 (2 + t.toNat) < 0 then -2
  else if what = 0 then (shS A.2.2.1 A.2.2.2.1 (rP A.2.2.2.2.1) t.toNat : Nat) else if what = 1 then b2i (lkS A.2.2.1 (rP A.2.2.2.2.1) (rF A.2.2.2.2.1) t.toNat) else if what = 2 then b2i (kstS A.2.2.1 t.toNat) else b2i (clS A.2.2.1 A.2.2.2.1 (rP A.2.2.2.2.1) (rF A.2.2.2.2.1) (A.2.2.2.2.1 0) t.toNat)
def qPooled (A : ST) : Int := (msk (fun t => inS (rP A.2.2.2.2.1) t && decide (A.2.2.1 (4 + t) = 1) && !lkS A.2.2.1 (rP A.2.2.2.2.1) (rF A.2.2.2.2.1) t) A.2.2.2.1 : Nat)
def qRoom (A : ST) (t : Int) : Int :=
  if ¬ isT A t then -1 else if 0 ≤ A.2.2.2.2.1 (2 + t.toNat) ∨ wsh A.2.2.2.2.1 t.toNat = true then -2 else (msk (fun s => fitS A.2.2.1 A.2.2.2.1 (rP A.2.2.2.2.1) t.toNat (s : Int)) (A.2.2.1 0).toNat : Nat)
/-- the best of the first c places: which, how many -/
def plB (T : Nat → Int) (n : Nat) (P F : Nat → Int) (w : Int) (t : Nat) : Nat → Int × Int
  | 0 => (-4, -4)
  | c + 1 => if fitS T n P t ((c / 2 : Nat) : Int) = true ∧ (plB T n P F w t c).2 < (cnt (clS T n (uf P t ((c / 2 : Nat) : Int)) (uf F t ((c % 2 : Nat) : Int)) w) n : Nat) then ((c : Int), (cnt (clS T n (uf P t ((c / 2 : Nat) : Int)) (uf F t ((c % 2 : Nat) : Int)) w) n : Nat)) else plB T n P F w t c
def qPlace (A : ST) (t what : Int) : Int :=
  if ¬ (isT A t ∧ isZ what) then -1 else if wsh A.2.2.2.2.1 t.toNat = true then -2
  else if what = 0 then (plB A.2.2.1 A.2.2.2.1 (rP A.2.2.2.2.1) (rF A.2.2.2.2.1) (A.2.2.2.2.1 0) t.toNat (2 * (A.2.2.1 0).toNat)).1 else (plB A.2.2.1 A.2.2.2.1 (rP A.2.2.2.2.1) (rF A.2.2.2.2.1) (A.2.2.2.2.1 0) t.toNat (2 * (A.2.2.1 0).toNat)).2
/-- the best of the first c to be washed by hand -/
def hdB (T : Nat → Int) (n : Nat) (P F : Nat → Int) (w : Int) : Nat → Int × Int
  | 0 => (-4, -4)
  | c + 1 => if (0 ≤ P c ∧ clS T n P F w c = false) ∧ (hdB T n P F w c).2 < (cnt (clS T n (uf P c (-4)) (uf F c (-4)) w) n : Nat) then ((c : Int), (cnt (clS T n (uf P c (-4)) (uf F c (-4)) w) n : Nat)) else hdB T n P F w c
def qByHand (A : ST) (what : Int) : Int :=
  if ¬ isZ what then -1 else if what = 0 then (hdB A.2.2.1 A.2.2.2.1 (rP A.2.2.2.2.1) (rF A.2.2.2.2.1) (A.2.2.2.2.1 0) A.2.2.2.1).1 else (hdB A.2.2.1 A.2.2.2.1 (rP A.2.2.2.2.1) (rF A.2.2.2.2.1) (A.2.2.2.2.1 0) A.2.2.2.1).2
def qBest (A : ST) : Int × List Nat := boO A.2.2.1 A.2.2.2.1 (wsh A.2.2.2.2.1) (A.2.2.2.2.1 0)
def qOrder (A : ST) (k : Int) : Int := if k < -1 then -1 else if k = -1 then (qBest A).1 else match (qBest A).2[k.toNat]? with
  | some u => (u : Int)
  | none => -4
def qWays (A : ST) (who : Int) : Int := if ¬ isZ who then -1 else if who = 0 then (rcl A.2.2.1 A.2.2.2.1 (A.2.2.2.2.1 0) ((List.range A.2.2.2.1).filter (fun t => !wsh A.2.2.2.2.1 t)) : Nat) else (rcl A.2.2.1 A.2.2.2.1 (A.2.2.2.2.1 0) (hlT A.2.2.1 A.2.2.2.1 (wsh A.2.2.2.2.1) 9) : Nat)
/-- the least water from p on, k waters being left -/
def wkS (T : Nat → Int) (n : Nat) (P F : Nat → Int) : Nat → Int → Int
  | 0, _ => -4
  | k + 1, p => if ¬ msk (inS P) n = 0 ∧ msk (clS T n P F p) n = msk (inS P) n then p else wkS T n P F k (p + 1)
def qWeakest (A : ST) : Int := wkS A.2.2.1 A.2.2.2.1 (rP A.2.2.2.2.1) (rF A.2.2.2.2.1) 9 1
def spSeen (A : ST) (t c : Int) : Int × ST :=
  if ¬ (isT A t ∧ isZ c) then (-1, A) else if A.2.2.2.2.1 (2 + t.toNat) < 0 ∨ 0 ≤ A.2.2.2.2.2.2.2 t.toNat then (-2, A)
  else ((cnt (snP (uf A.2.2.2.2.2.2.2 t.toNat c)) A.2.2.2.1 : Nat), (A.1, A.2.1, A.2.2.1, A.2.2.2.1, A.2.2.2.2.1, A.2.2.2.2.2.1, A.2.2.2.2.2.2.1, uf A.2.2.2.2.2.2.2 t.toNat c))
def spForget (A : ST) : Int × ST := ((cnt (snP A.2.2.2.2.2.2.2) A.2.2.2.1 : Nat), (A.1, A.2.1, A.2.2.1, A.2.2.2.1, A.2.2.2.2.1, A.2.2.2.2.2.1, A.2.2.2.2.2.2.1, fun _ => -4))
def sgS (T : Nat → Int) (n : Nat) (P F sn : Nat → Int) (p : Nat) : Bool := decide (1 ≤ p) && !anyB (fun t => snP sn t && inS P t && (clS T n P F (p : Int) t != snC sn t)) n
def qStrong (A : ST) : Int := (msk (sgS A.2.2.1 A.2.2.2.1 (rP A.2.2.2.2.1) (rF A.2.2.2.2.1) A.2.2.2.2.2.2.2) 10 : Nat)
/-- the hour that costs least of k hours from h on -/
def hrS (T : Nat → Int) (h : Nat) : Nat → Nat
  | 0 => h % 24
  | k + 1 => if T (32 + (h + (k + 1)) % 24) < T (32 + hrS T h k) then (h + (k + 1)) % 24 else hrS T h k
def isHN (h n : Int) : Prop := (0 ≤ h ∧ h < 24) ∧ (1 ≤ n ∧ n ≤ 24)
def qRun (A : ST) (h n what : Int) : Int :=
  if ¬ ((0 ≤ h ∧ h < 24) ∧ (1 ≤ n ∧ n ≤ 24) ∧ isZ what) then -1 else if what = 0 then (hrS A.2.2.1 h.toNat (n.toNat - 1) : Nat) else A.2.2.1 (32 + hrS A.2.2.1 h.toNat (n.toNat - 1))
def qHalf (A : ST) (h n : Int) : Int :=
  if ¬ ((0 ≤ h ∧ h < 24) ∧ (1 ≤ n ∧ n ≤ 24)) then -1
  else if 0 < cnt (clS A.2.2.1 A.2.2.2.1 (rP A.2.2.2.2.1) (rF A.2.2.2.2.1) (A.2.2.2.2.1 0)) A.2.2.2.1 ∧ ((qBest A).1 = 0 ∨ A.2.2.1 (32 + hrS A.2.2.1 h.toNat (n.toNat - 1)) * (qBest A).1 < A.2.2.1 (32 + hrS A.2.2.1 (h.toNat + n.toNat) (n.toNat - 1)) * (cnt (clS A.2.2.1 A.2.2.2.1 (rP A.2.2.2.2.1) (rF A.2.2.2.2.1) (A.2.2.2.2.1 0)) A.2.2.2.1 : Nat)) then 1 else 0
def qIsClean (x s u c part : Int) : Int :=
  if ¬ ((0 ≤ x ∧ x ≤ 10) ∧ (0 ≤ s ∧ s ≤ 10) ∧ (0 ≤ u ∧ u ≤ 10) ∧ (0 ≤ c ∧ c ≤ 10) ∧ isZ part) then -1
  else if 10 * x * s + (10 - x) * u * c = 0 then -4
  else if part = 0 then (10 * x * s) / (Nat.gcd (10 * x * s).toNat (10 * x * s + (10 - x) * u * c).toNat : Nat) else (10 * x * s + (10 - x) * u * c) / (Nat.gcd (10 * x * s).toNat (10 * x * s + (10 - x) * u * c).toNat : Nat)
def dwS (z k : Nat) : Nat := (7919 * z + 6151 * k + 1) * (7919 * z + 6151 * k + 1) % 65521 / 2
/-- a rack after k draws -/
def dyS (T : Nat → Int) (n : Nat) (wa : Nat → Bool) (z : Nat) : Nat → (Nat → Int) × (Nat → Int)
  | 0 => (fun _ => -4, fun _ => -4)
  | k + 1 => if wa (dwS z k % n) = false ∧ (dyS T n wa z k).1 (dwS z k % n) < 0 ∧ fitS T n (dyS T n wa z k).1 (dwS z k % n) ((dwS z k / 8 % (T 0).toNat : Nat) : Int) = true then (uf (dyS T n wa z k).1 (dwS z k % n) ((dwS z k / 8 % (T 0).toNat : Nat) : Int), uf (dyS T n wa z k).2 (dwS z k % n) ((dwS z k / 128 % 2 : Nat) : Int)) else dyS T n wa z k
def qDay (A : ST) (z n what : Int) : Int :=
  if ¬ ((0 ≤ z ∧ z ≤ 9999) ∧ (1 ≤ n ∧ n ≤ 30) ∧ isZ what) then -1
  else if what = 0 then (msk (inS (dyS A.2.2.1 A.2.2.2.1 (wsh A.2.2.2.2.1) z.toNat n.toNat).1) A.2.2.2.1 : Nat) else (msk (clS A.2.2.1 A.2.2.2.1 (dyS A.2.2.1 A.2.2.2.1 (wsh A.2.2.2.2.1) z.toNat n.toNat).1 (dyS A.2.2.1 A.2.2.2.1 (wsh A.2.2.2.2.1) z.toNat n.toNat).2 (A.2.2.2.2.1 0)) A.2.2.2.1 : Nat)
def spKeep (A : ST) : Int × ST := if A.2.2.2.2.2.2.1.length = 2 then (-3, A) else ((A.2.2.2.2.2.2.1.length : Int) + 1, (A.1, A.2.1, A.2.2.1, A.2.2.2.1, A.2.2.2.2.1, A.2.2.2.2.2.1, A.2.2.2.2.2.2.1 ++ [A.2.2.2.2.1], A.2.2.2.2.2.2.2))
def spBack (A : ST) : Int × ST := match A.2.2.2.2.2.2.1.getLast? with
  | none => (-2, A)
  | some r => ((A.2.2.2.2.2.2.1.length : Int) - 1, (A.1, A.2.1, A.2.2.1, A.2.2.2.1, r, [], A.2.2.2.2.2.2.1.dropLast, A.2.2.2.2.2.2.2))
def qCount (A : ST) (what : Int) : Int :=
  if what = 0 then (A.2.2.2.1 : Nat) else if what = 1 then A.2.2.1 0 else if what = 2 then A.2.2.1 1 else if what = 3 then A.2.2.1 2 else if what = 4 then A.2.2.2.2.1 0
  else if what = 5 then (cnt (inS (rP A.2.2.2.2.1)) A.2.2.2.1 : Nat) else if what = 6 then (cnt (wsh A.2.2.2.2.1) A.2.2.2.1 : Nat) else if what = 7 then (cnt (snP A.2.2.2.2.2.2.2) A.2.2.2.1 : Nat)
  else if what = 8 then (A.2.2.2.2.2.1.length : Nat) else if what = 9 then (A.2.2.2.2.2.2.1.length : Nat) else if what = 10 then (A.1 : Nat) else -1
