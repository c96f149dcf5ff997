/-! bits, counts, and what the words of the document mean -/
theorem nI_ofInt (a : Nat) : Int32.ofInt (a : Int) = nI a := Int32.ofInt_eq_ofNat
theorem fa_and (a b : Nat) : nI a &&& nI b = nI (a &&& b) := by
  apply Int32.toBitVec_inj.1
  show BitVec.ofNat 32 a &&& BitVec.ofNat 32 b = BitVec.ofNat 32 (a &&& b)
  apply BitVec.eq_of_getLsbD_eq
  intro i hi
  simp [hi]
theorem fa_or (a b : Nat) : nI a ||| nI b = nI (a ||| b) := by
  apply Int32.toBitVec_inj.1
  show BitVec.ofNat 32 a ||| BitVec.ofNat 32 b = BitVec.ofNat 32 (a ||| b)
  apply BitVec.eq_of_getLsbD_eq
  intro i hi
  simp [hi]
theorem s_l : ∀ n, n < 32 → ((nI n &&& 31).toBitVec.smod 32).toNat = n := by decide +kernel
theorem iand_n (a b : Nat) : Int32.ofInt (a : Int) &&& Int32.ofInt (b : Int) = Int32.ofInt ((a &&& b : Nat) : Int) := by
  rw [nI_ofInt, nI_ofInt, nI_ofInt, fa_and]
theorem ior_n (a b : Nat) : Int32.ofInt (a : Int) ||| Int32.ofInt (b : Int) = Int32.ofInt ((a ||| b : Nat) : Int) := by
  rw [nI_ofInt, nI_ofInt, nI_ofInt, fa_or]
theorem ishl_n {a t : Nat} (ht : t < 32) (h : a * 2 ^ t < 2 ^ 32) : Int32.ofInt (a : Int) <<< (Int32.ofInt (t : Int) &&& 31) = Int32.ofInt ((a * 2 ^ t : Nat) : Int) := by
  rw [nI_ofInt, nI_ofInt, nI_ofInt]
  exact pk_shlN _ t (s_l t ht) h
theorem ishr_n {a t : Nat} (ht : t < 32) (h : a < 2 ^ 31) : Int32.ofInt (a : Int) >>> (Int32.ofInt (t : Int) &&& 31) = Int32.ofInt ((a / 2 ^ t : Nat) : Int) := by
  rw [nI_ofInt, nI_ofInt, nI_ofInt]
  exact pk_shrN h _ t (s_l t ht)
theorem ixor_m (x : Int) : Int32.ofInt x ^^^ Int32.ofInt (-1) = Int32.ofInt (-x - 1) := by
  apply Int32.toBitVec_inj.1
  have e : Int32.ofInt (-x - 1) = -(Int32.ofInt x) - 1 := by rw [Int32.ofInt_sub, Int32.ofInt_neg]; rfl
  rw [e]
  show (Int32.ofInt x).toBitVec ^^^ BitVec.allOnes 32 = -(Int32.ofInt x).toBitVec - 1#32
  rw [BitVec.xor_allOnes, BitVec.not_eq_neg_add]
theorem iandn_128 : ∀ a, a < 128 → ∀ b, b < 128 → Int32.ofInt ((a : Nat) : Int) &&& Int32.ofInt (-(b : Nat) - 1) = Int32.ofInt ((a - (a &&& b) : Nat) : Int) := by decide +kernel
def b2i (b : Bool) : Int := if b then 1 else 0
theorem b2i_t : b2i true = 1 := rfl
theorem b2i_f : b2i false = 0 := rfl
theorem b2i_01 (b : Bool) : b2i b = 0 ∨ b2i b = 1 := by cases b <;> simp [b2i]
def msk (p : Nat → Bool) : Nat → Nat
  | 0 => 0
  | n + 1 => msk p n + (if p n then 2 ^ n else 0)
def cnt (p : Nat → Bool) : Nat → Nat
  | 0 => 0
  | n + 1 => cnt p n + (if p n then 1 else 0)
def anyB (p : Nat → Bool) : Nat → Bool
  | 0 => false
  | n + 1 => anyB p n || p n
theorem anyB_t {p : Nat → Bool} {n : Nat} : anyB p n = true ↔ ∃ u, u < n ∧ p u = true := by
  induction n with
  | zero => simp [anyB]
  | succ n ih =>
    simp only [anyB, Bool.or_eq_true, ih]
    constructor
    · rintro (⟨u, h1, h2⟩ | h)
      · exact ⟨u, by omega, h2⟩
      · exact ⟨n, by omega, h⟩
    · rintro ⟨u, h1, h2⟩
      by_cases e : u = n
      · subst e; exact Or.inr h2
      · exact Or.inl ⟨u, by omega, h2⟩
theorem anyB_f {p : Nat → Bool} {n : Nat} : anyB p n = false ↔ ∀ u, u < n → p u = false := by
  rw [← Bool.not_eq_true, anyB_t]
  constructor
  · intro h u hu
    cases hp : p u with
    | false => rfl
    | true => exact absurd ⟨u, hu, hp⟩ h
  · rintro h ⟨u, hu, hp⟩
    rw [h u hu] at hp
    cases hp
theorem anyB_cong {p q : Nat → Bool} {n : Nat} (h : ∀ u, u < n → p u = q u) : anyB p n = anyB q n := by
  induction n with
  | zero => rfl
  | succ n ih => simp only [anyB]; rw [ih (fun u hu => h u (by omega)), h n (by omega)]
theorem cnt_le (p : Nat → Bool) : ∀ n, cnt p n ≤ n
  | 0 => Nat.le_refl 0
  | n + 1 => by have := cnt_le p n; simp only [cnt]; split <;> omega
theorem cnt_cong {p q : Nat → Bool} {n : Nat} (h : ∀ u, u < n → p u = q u) : cnt p n = cnt q n := by
  induction n with
  | zero => rfl
  | succ n ih => simp only [cnt]; rw [ih (fun u hu => h u (by omega)), h n (by omega)]
theorem msk_cong {p q : Nat → Bool} {n : Nat} (h : ∀ u, u < n → p u = q u) : msk p n = msk q n := by
  induction n with
  | zero => rfl
  | succ n ih => simp only [msk]; rw [ih (fun u hu => h u (by omega)), h n (by omega)]
theorem msk_lt (p : Nat → Bool) : ∀ n, msk p n < 2 ^ n
  | 0 => by simp [msk]
  | n + 1 => by
    have := msk_lt p n
    simp only [msk, Nat.pow_succ]
    split <;> omega
theorem msk_bit {p : Nat → Bool} {n t : Nat} (ht : t < n) : (msk p n).testBit t = p t := by
  induction n with
  | zero => omega
  | succ n ih =>
    have hl := msk_lt p n
    simp only [msk]
    by_cases e : t = n
    · subst e
      cases hp : p t with
      | true =>
        rw [if_pos rfl, Nat.add_comm, Nat.testBit_two_pow_add_eq, Nat.testBit_lt_two_pow hl]; rfl
      | false => simp [Nat.testBit_lt_two_pow hl]
    · have h2 : t < n := by omega
      cases hp : p n with
      | true => rw [if_pos rfl, Nat.add_comm, Nat.testBit_two_pow_add_gt h2, ih h2]
      | false => simp [ih h2]
theorem msk_bit0 {p : Nat → Bool} {n t : Nat} (ht : n ≤ t) : (msk p n).testBit t = false :=
  Nat.testBit_lt_two_pow (Nat.lt_of_lt_of_le (msk_lt p n) (Nat.pow_le_pow_right (by decide) ht))
theorem bit_mod (a t : Nat) : a / 2 ^ t &&& 1 = if a.testBit t then 1 else 0 := by
  rw [Nat.and_one_is_mod, Nat.testBit_eq_decide_div_mod_eq]
  by_cases h : a / 2 ^ t % 2 = 1
  · simp [h]
  · have : a / 2 ^ t % 2 = 0 := by omega
    simp [this]
theorem msk_or {p : Nat → Bool} {n : Nat} : msk p n ||| 2 ^ n = msk p n + 2 ^ n := by
  have := Nat.two_pow_add_eq_or_of_lt (msk_lt p n) 1
  rw [Nat.mul_one] at this
  rw [Nat.or_comm, ← this, Nat.add_comm]
theorem msk_upd {p : Nat → Bool} {n t : Nat} (ht : t < n) : msk p n ||| 2 ^ t = msk (fun u => p u || decide (u = t)) n := by
  apply Nat.eq_of_testBit_eq
  intro i
  rw [Nat.testBit_or, Nat.testBit_two_pow]
  by_cases hi : i < n
  · rw [msk_bit hi, msk_bit hi]
    by_cases e : t = i
    · subst e; simp
    · simp [e, Ne.symm e]
  · rw [msk_bit0 (by omega), msk_bit0 (by omega)]
    simp; omega
theorem msk_and {p q : Nat → Bool} {n : Nat} : msk p n &&& msk q n = msk (fun u => p u && q u) n := by
  apply Nat.eq_of_testBit_eq
  intro i
  rw [Nat.testBit_and]
  by_cases hi : i < n
  · rw [msk_bit hi, msk_bit hi, msk_bit hi]
  · rw [msk_bit0 (by omega), msk_bit0 (by omega), msk_bit0 (by omega)]; rfl
theorem msk_inj {p q : Nat → Bool} {n : Nat} (h : msk p n = msk q n) : ∀ u, u < n → p u = q u := fun u hu => by
  rw [← msk_bit (p := p) hu, ← msk_bit (p := q) hu, h]
theorem msk_split (p q : Nat → Bool) : ∀ n, msk p n = msk (fun u => p u && q u) n + msk (fun u => p u && !q u) n
  | 0 => rfl
  | n + 1 => by
    have := msk_split p q n
    simp only [msk]
    rcases Bool.eq_false_or_eq_true (p n) with h1 | h1 <;> rcases Bool.eq_false_or_eq_true (q n) with h2 | h2 <;> simp only [h1, h2, Bool.and_true, Bool.and_false, Bool.not_true, Bool.not_false, Bool.false_and, Bool.true_and, if_true, if_false] <;> simp <;> omega
theorem msk_andn {p q : Nat → Bool} {n : Nat} : msk p n - (msk p n &&& msk q n) = msk (fun u => p u && !q u) n := by
  rw [msk_and]
  have := msk_split p q n
  omega
theorem msk_zero {p : Nat → Bool} {n : Nat} : msk p n = 0 ↔ ∀ u, u < n → p u = false := by
  constructor
  · intro h u hu
    rw [← msk_bit (p := p) hu, h]; simp
  · intro h
    have : msk p n = msk (fun _ => false) n := msk_cong h
    rw [this]
    clear this h
    induction n with
    | zero => rfl
    | succ n ih => simp [msk, ih]
theorem msk_ext {p : Nat → Bool} {n m : Nat} (h : ∀ u, n ≤ u → u < m → p u = false) (hn : n ≤ m) : msk p m = msk p n := by
  obtain ⟨k, rfl⟩ : ∃ k, m = n + k := ⟨m - n, by omega⟩
  clear hn
  induction k with
  | zero => rfl
  | succ k ih =>
    rw [show n + (k + 1) = n + k + 1 by omega]
    simp only [msk]
    rw [ih (fun u h1 h2 => h u h1 (by omega)), h (n + k) (by omega) (by omega)]
    simp
theorem cnt_ext {p : Nat → Bool} {n m : Nat} (h : ∀ u, n ≤ u → u < m → p u = false) (hn : n ≤ m) : cnt p m = cnt p n := by
  obtain ⟨k, rfl⟩ : ∃ k, m = n + k := ⟨m - n, by omega⟩
  clear hn
  induction k with
  | zero => rfl
  | succ k ih =>
    rw [show n + (k + 1) = n + k + 1 by omega]
    simp only [cnt]
    rw [ih (fun u h1 h2 => h u h1 (by omega)), h (n + k) (by omega) (by omega)]
    simp
/-- how many bits, of a number below 128 -/
def pc7 (a : Nat) : Nat := a % 2 + a / 2 % 2 + a / 4 % 2 + a / 8 % 2 + a / 16 % 2 + a / 32 % 2 + a / 64 % 2
theorem pc7_msk {p : Nat → Bool} {n : Nat} (hn : n ≤ 7) : pc7 (msk p n) = cnt p n := by
  have h1 : msk p n = msk (fun u => decide (u < n) && p u) 7 := by
    rw [msk_ext (n := n) (m := 7) (fun u h1 h2 => by simp; omega) hn]
    exact msk_cong (fun u hu => by simp [hu])
  have h2 : cnt p n = cnt (fun u => decide (u < n) && p u) 7 := by
    rw [cnt_ext (n := n) (m := 7) (fun u h1 h2 => by simp; omega) hn]
    exact cnt_cong (fun u hu => by simp [hu])
  rw [h1, h2]
  generalize (fun u => decide (u < n) && p u) = g
  simp only [msk, cnt, pc7]
  cases g 0 <;> cases g 1 <;> cases g 2 <;> cases g 3 <;> cases g 4 <;> cases g 5 <;> cases g 6 <;> rfl
/-! the document's words: T the dishes as told, P where each begins (less than 0: out), F how it is turned -/
def sdS (T P : Nat → Int) (t : Nat) : Int := if P t < 0 then -4 else if P t + T (11 + t) - 1 < T 1 then -1 else if T 1 < P t then 1 else 0
def lkS (T P F : Nat → Int) (t : Nat) : Bool := decide (sdS T P t = 0) || (decide (sdS T P t = -1) && decide (F t = 1)) || (decide (sdS T P t = 1) && decide (F t = 0))
def btS (T P : Nat → Int) (t u : Nat) : Bool := decide (¬ sdS T P t = 0) && decide (0 ≤ P u) && (decide (sdS T P u = 0) || (decide (sdS T P u = sdS T P t) && (if sdS T P t < 0 then decide (P t < P u) else decide (P u < P t))))
def hiS (T : Nat → Int) (t u : Nat) : Bool := decide (T (18 + t) < T (18 + u)) || (decide (T (18 + u) = T (18 + t)) && decide (T (4 + t) = 2))
def scS (T : Nat → Int) (n : Nat) (P : Nat → Int) (t : Nat) : Nat := cnt (fun u => btS T P t u && hiS T t u) n
def shS (T : Nat → Int) (n : Nat) (P : Nat → Int) (t : Nat) : Nat := if T (4 + t) = 3 then scS T n P t / 2 else scS T n P t
def kstS (T : Nat → Int) (t : Nat) : Bool := decide (T (4 + t) = 3) && decide (T 2 < T (18 + t))
def stS (T P : Nat → Int) (t : Nat) : Bool := kstS T t && decide (0 ≤ P t)
def skS (T : Nat → Int) (n : Nat) (P : Nat → Int) (t : Nat) : Bool := anyB (fun u => stS T P u && (decide (u = t) || (decide (¬ sdS T P t = 0) && (decide (sdS T P u = 0) || decide (sdS T P u = - sdS T P t))))) n
def tcS (T : Nat → Int) (n : Nat) (P : Nat → Int) (t : Nat) : Bool := anyB (fun u => decide (¬ u = t) && decide (T (4 + u) = 2) && decide (0 ≤ P u) && (decide (P u + T (11 + u) = P t) || decide (P t + T (11 + t) = P u))) n
def neS (T P F : Nat → Int) (t : Nat) : Int := T (25 + t) + (if T (4 + t) = 0 ∧ lkS T P F t = false then 1 else 0)
def clS (T : Nat → Int) (n : Nat) (P F : Nat → Int) (w : Int) (t : Nat) : Bool :=
  decide (0 ≤ P t) && decide (neS T P F t ≤ w - shS T n P t) && !((decide (T (4 + t) = 1) && !lkS T P F t) || (decide (T (4 + t) = 2) && tcS T n P t)) && !skS T n P t
def inS (P : Nat → Int) (t : Nat) : Bool := decide (0 ≤ P t)
/-- there is room for t from s on -/
def fitS (T : Nat → Int) (n : Nat) (P : Nat → Int) (t : Nat) (s : Int) : Bool := decide (s + T (11 + t) ≤ T 0) && !anyB (fun u => decide (¬ u = t) && decide (0 ≤ P u) && decide (P u < s + T (11 + t)) && decide (s < P u + T (11 + u))) n
def wfT (T : Nat → Int) (n : Nat) : Prop := T 3 = n ∧ n ≤ 7 ∧ (3 ≤ T 0 ∧ T 0 ≤ 14) ∧ (0 ≤ T 1 ∧ T 1 < T 0) ∧ (1 ≤ T 2 ∧ T 2 ≤ 9) ∧ (∀ t, t < n → (0 ≤ T (4 + t) ∧ T (4 + t) ≤ 3) ∧ (1 ≤ T (11 + t) ∧ T (11 + t) ≤ 4) ∧ (1 ≤ T (18 + t) ∧ T (18 + t) ≤ 9) ∧ (1 ≤ T (25 + t) ∧ T (25 + t) ≤ 9)) ∧ ∀ h, h < 24 → 1 ≤ T (32 + h) ∧ T (32 + h) ≤ 99
/-- where the things stand: in range, each out or in -/
def wfP (T : Nat → Int) (n : Nat) (P F : Nat → Int) : Prop := (∀ t, t < n → (P t = -4 ∧ F t = -4) ∨ (0 ≤ P t ∧ P t + T (11 + t) ≤ T 0 ∧ (F t = 0 ∨ F t = 1))) ∧ ∀ t, n ≤ t → t < 7 → P t = -4 ∧ F t = -4
