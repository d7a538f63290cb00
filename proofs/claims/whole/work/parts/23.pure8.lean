theorem b01_01 (p : Prop) [Decidable p] : b01 p = 0 ∨ b01 p = 1 := by unfold b01; split <;> omega
theorem b01_c {p q : Prop} [Decidable p] [Decidable q] (h : p ↔ q) : b01 p = b01 q := by
  by_cases hp : p
  · rw [b01_t hp, b01_t (h.mp hp)]
  · rw [b01_f hp, b01_f (fun hq => hp (h.mpr hq))]
theorem mod_cut {p n c : Nat} (hc : c < n) (hp : p < n) : (p + n - c) % n = if p < c then p + n - c else p - c := by
  by_cases h : p < c
  · rw [if_pos h]; exact Nat.mod_eq_of_lt (by omega)
  · rw [if_neg h, show p + n - c = (p - c) + n by omega, Nat.add_mod_right]; exact Nat.mod_eq_of_lt (by omega)
def kdB (c : Int) : Int := if c = 115 then 0 else if c = 99 then 1 else if c = 100 then 2 else if c = 116 then 3 else if c = 111 then 4 else -1
def plM (n q x : Nat) : Nat := (n - x + q - 1) / q
def dsm (n q r o : Nat) : Nat → Nat
  | 0 => 0
  | i + 1 => dsm n q r o i + (if (if o = 0 then r < i else i < r) then plM n q i else 0)
theorem dsm_t {n q r o i : Nat} (h : (o = 0 ∧ r < i) ∨ (o ≠ 0 ∧ i < r)) : dsm n q r o (i + 1) = dsm n q r o i + plM n q i := by
  rw [dsm]; congr 1
  rcases h with ⟨h1, h2⟩ | ⟨h1, h2⟩
  · rw [if_pos (by rw [if_pos h1]; exact h2)]
  · rw [if_pos (by rw [if_neg h1]; exact h2)]
theorem dsm_f {n q r o i : Nat} (h : (o = 0 ∧ i ≤ r) ∨ (o ≠ 0 ∧ r ≤ i)) : dsm n q r o (i + 1) = dsm n q r o i := by
  rw [dsm]
  rcases h with ⟨h1, h2⟩ | ⟨h1, h2⟩
  · rw [if_neg (by rw [if_pos h1]; omega)]; rfl
  · rw [if_neg (by rw [if_neg h1]; omega)]; rfl
def dlMb (n q p : Nat) : Bool := decide (¬ (1 ≤ q ∧ q ≤ n ∧ p < n)) || (decide (p / q + 1 ≤ plM n q (p % q)) && (decide (plM n q (p % q) - 1 - p / q + dsm n q (p % q) 0 q = dlq n q p 0) && decide (plM n q (p % q) - 1 - p / q + dsm n q (p % q) 1 q = dlq n q p 1)))
set_option maxRecDepth 100000 in
theorem dlM' : ∀ n, n < 13 → ∀ q, q < 13 → ∀ p, p < 13 → dlMb n q p = true := by decide +kernel
theorem dlM_ok {n q p o : Nat} (hn : n ≤ 12) (hq : 1 ≤ q) (hqn : q ≤ n) (hp : p < n) (ho : o ≤ 1) : p / q + 1 ≤ plM n q (p % q) ∧ plM n q (p % q) - 1 - p / q + dsm n q (p % q) o q = dlq n q p o := by
  have h := dlM' n (by omega) q (by omega) p (by omega)
  simp only [dlMb, Bool.or_eq_true, Bool.and_eq_true, decide_eq_true_eq] at h
  rcases h with h | ⟨h1, h2, h3⟩
  · exact absurd ⟨hq, hqn, hp⟩ h
  · refine ⟨h1, ?_⟩
    rcases (show o = 0 ∨ o = 1 by omega) with rfl | rfl
    · exact h2
    · exact h3
theorem rl_one {φ : Nat → Nat} {n p : Nat} (hp : p < n) (hn : 2 ≤ n) : rl φ n p = 1 ↔ φ p = p := by
  constructor
  · intro h
    have h1 : fa_first (fun m => decide (it φ (m + 1) p = p)) (n - 1) = 0 := by unfold rl at h; omega
    have h2 := fa_first_yes (fun m => decide (it φ (m + 1) p = p)) (n - 1) (by omega)
    rw [h1] at h2
    exact of_decide_eq_true h2
  · intro h
    exact (rl_is (m := 0) (fun j hj => by omega) (Or.inr ⟨by omega, by simp [it, h]⟩)).symm
theorem gcd_step {x y : Nat} : Nat.gcd y (x % y) = Nat.gcd x y := by rw [Nat.gcd_comm x y, Nat.gcd_rec y x, Nat.gcd_comm]
