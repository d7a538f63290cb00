theorem zcp_0 (f g : Nat → Int) : zcp f g 0 = g := by
  funext j; exact if_neg (Nat.not_lt_zero j)
theorem zcp_s {f g : Nat → Int} {i : Nat} {v : Int} (h : v = f i) : zup (zcp f g i) i v = zcp f g (i + 1) := by
  funext j
  by_cases h1 : j = i
  · subst h1; rw [zup_s, zcp_lt (Nat.lt_succ_self _), h]
  · rw [zup_n h1]
    by_cases h2 : j < i
    · rw [zcp_lt h2, zcp_lt (by omega)]
    · rw [zcp_ge (by omega), zcp_ge (by omega)]
/-- 1 or 0 -/
def b01 (p : Prop) [Decidable p] : Int := if p then 1 else 0
theorem b01_t {p : Prop} [Decidable p] (h : p) : b01 p = 1 := if_pos h
theorem b01_f {p : Prop} [Decidable p] (h : ¬ p) : b01 p = 0 := if_neg h
theorem b01_r (p : Prop) [Decidable p] : 0 ≤ b01 p ∧ b01 p ≤ 1 := by unfold b01; split <;> omega
theorem b01_ne {p : Prop} [Decidable p] (h : b01 p ≠ 0) : p := by
  unfold b01 at h; split at h
  · assumption
  · exact absurd rfl h
theorem b01_eq {p : Prop} [Decidable p] (h : b01 p = 0) : ¬ p := by
  unfold b01 at h; split at h
  · exact absurd h (by decide)
  · assumption
theorem ct_t {p : Nat → Bool} {i : Nat} (h : p i = true) : fb_ct p (i + 1) = fb_ct p i + 1 := by rw [fb_ct_succ, h]; rfl
theorem ct_f {p : Nat → Bool} {i : Nat} (h : p i = false) : fb_ct p (i + 1) = fb_ct p i := by rw [fb_ct_succ, h]; rfl
theorem zup_lt {g A : Nat → Int} {i : Nat} {v : Int} (h : ∀ j, j < i → g j = A j) (hv : v = A i) : ∀ j, j < i + 1 → zup g i v j = A j := by
  intro j hj
  by_cases h1 : j = i
  · subst h1; rw [zup_s, hv]
  · rw [zup_n h1]; exact h j (by omega)
theorem zup_ge {g f : Nat → Int} {i n : Nat} {v : Int} (h : ∀ j, i ≤ j → j < n → g j = f j) : ∀ j, i + 1 ≤ j → j < n → zup g i v j = f j := by
  intro j hj hn
  rw [zup_n (by omega)]; exact h j (by omega) hn
