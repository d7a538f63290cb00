/-! where a place goes by a step -/
def dlB (n q p : Nat) : Nat := (p % q) * (n / q) + min (p % q) (n % q)
def dlI (n q p : Nat) : Nat := if p % q < n % q then n / q + 1 else n / q
def dlq (n q p : Nat) (o : Nat) : Nat := (if o = 0 then n - dlB n q p - dlI n q p else dlB n q p) + dlI n q p - 1 - p / q
def mv (n kd nm p : Nat) : Nat :=
  if kd = 1 then (if p < nm % n then p + n - nm % n else p - nm % n)
  else if kd = 2 then dlq n (max 1 (min nm n)) p 0
  else if kd = 3 then (if p < min nm n then min nm n - 1 - p else p)
  else if kd = 4 then dlq n (max 1 (min nm n)) p 1
  else (if p = 0 then min nm (n - 1) else if p ≤ min nm (n - 1) then p - 1 else p)
set_option maxRecDepth 100000 in
theorem dl_ok' : ∀ n, n < 13 → ∀ q, q < 13 → ∀ p, p < 13 → (1 ≤ q ∧ p < n) → (dlB n q p + dlI n q p ≤ n ∧ p / q + 1 ≤ dlI n q p) := by decide +kernel
theorem dl_ok {n q p : Nat} (hn : n ≤ 12) (hq : q ≤ 12) (h1 : 1 ≤ q) (hp : p < n) : dlB n q p + dlI n q p ≤ n ∧ p / q + 1 ≤ dlI n q p := dl_ok' n (by omega) q (by omega) p (by omega) ⟨h1, hp⟩
set_option maxRecDepth 100000 in
theorem mv_lt' : ∀ n, n < 13 → ∀ kd, kd < 5 → ∀ nm, nm < 10 → ∀ p, p < 13 → (p < n) → mv n kd nm p < n := by decide +kernel
theorem mv_lt {n kd nm p : Nat} (hn : n ≤ 12) (hk : kd ≤ 4) (hm : nm ≤ 9) (hp : p < n) : mv n kd nm p < n := mv_lt' n (by omega) kd (by omega) nm (by omega) p (by omega) hp
/-- no two of the first n places go to one -/
def injB (f : Nat → Nat) (n : Nat) : Bool := (List.range n).all fun p => (List.range p).all fun q => f q != f p
theorem injB_of {f : Nat → Nat} {n : Nat} (h : injB f n = true) {p q : Nat} (hp : p < n) (hq : q < p) : f q ≠ f p := by
  have h1 := List.all_eq_true.mp h p (List.mem_range.mpr hp)
  have h2 := List.all_eq_true.mp h1 q (List.mem_range.mpr hq)
  simpa using h2
set_option maxRecDepth 100000 in
theorem mv_inj' : ∀ n, n < 13 → ∀ kd, kd < 5 → ∀ nm, nm < 10 → injB (mv n kd nm) n = true := by decide +kernel
theorem mv_inj {n kd nm p q : Nat} (hn : n ≤ 12) (hk : kd ≤ 4) (hm : nm ≤ 9) (hp : p < n) (hq : q < p) : mv n kd nm q ≠ mv n kd nm p := injB_of (mv_inj' n (by omega) kd (by omega) nm (by omega)) hp hq
/-! the greatest common divisor by a bounded number of rounds -/
def gd : Nat → Nat → Nat → Nat
  | 0, g, _ => g
  | f + 1, g, l => if l = 0 then g else gd f l (g % l)
theorem gd_0 (f g : Nat) : gd f g 0 = g := by cases f <;> simp [gd]
theorem gd_s {f g l : Nat} (h : 0 < l) : gd (f + 1) g l = gd f l (g % l) := by rw [gd, if_neg (by omega)]
theorem gd_gcd : ∀ (k g l : Nat), l < 2 ^ k → ∀ f, 2 * k ≤ f → gd f g l = Nat.gcd g l
  | 0, g, l, h, f, _ => by
    have e : l = 0 := by simpa using h
    subst e
    rw [gd_0, Nat.gcd_zero_right]
  | k + 1, g, l, h, f, hf => by
    obtain ⟨f, rfl⟩ : ∃ x, f = x + 2 := ⟨f - 2, by omega⟩
    by_cases h0 : l = 0
    · subst h0; rw [gd_0, Nat.gcd_zero_right]
    have hl : 0 < l := Nat.pos_of_ne_zero h0
    rw [gd_s hl]
    have e1 : Nat.gcd g l = Nat.gcd l (g % l) := by rw [Nat.gcd_comm g l, Nat.gcd_rec l g, Nat.gcd_comm]
    rw [e1]
    by_cases h1 : g % l = 0
    · rw [h1, gd_0, Nat.gcd_zero_right]
    have hr : 0 < g % l := Nat.pos_of_ne_zero h1
    have hrl : g % l < l := Nat.mod_lt _ hl
    rw [gd_s hr]
    have e2 : Nat.gcd l (g % l) = Nat.gcd (g % l) (l % (g % l)) := by rw [Nat.gcd_comm l (g % l), Nat.gcd_rec (g % l) l, Nat.gcd_comm]
    rw [e2]
    refine gd_gcd k _ _ ?_ f (by omega)
    have h3 : l % (g % l) < g % l := Nat.mod_lt _ hr
    have h4 : l = (g % l) * (l / (g % l)) + l % (g % l) := (Nat.div_add_mod l (g % l)).symm
    have h5 : 1 ≤ l / (g % l) := Nat.div_pos (Nat.le_of_lt hrl) hr
    have h6 : g % l ≤ (g % l) * (l / (g % l)) := Nat.le_mul_of_pos_right _ h5
    have h7 : 2 ^ (k + 1) = 2 * 2 ^ k := by rw [Nat.pow_succ]; omega
    omega
theorem gd_64 {g l : Nat} (h : l < 2147483648) : gd 64 g l = Nat.gcd g l := by
  have e : (2 : Nat) ^ 32 = 4294967296 := by decide
  exact gd_gcd 32 g l (by omega) 64 (by omega)
