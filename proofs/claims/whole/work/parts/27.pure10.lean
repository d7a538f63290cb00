/-- the model's rows, by what they mean -/
def MI (n k d v : Nat) (g0 g1 g3 gq : Nat → Int) (κ ν π ss sf st : Nat → Nat) : Prop :=
  ((n = 0 ∧ k = 0) ∨ (2 ≤ n ∧ n ≤ 12 ∧ 1 ≤ k ∧ k ≤ 6)) ∧ d ≤ 9999 ∧ v ≤ 6 ∧
  (∀ j, j < k → g0 j = ((κ j : Nat) : Int)) ∧ (∀ j, j < k → κ j ≤ 4) ∧ (∀ j, j < k → g1 j = ((ν j : Nat) : Int)) ∧ (∀ j, j < k → ν j ≤ 9) ∧
  (∀ j, j < n → g3 j = ((π j : Nat) : Int)) ∧ (∀ j, j < n → π j < n) ∧ inj π n ∧
  (∀ j, j < v → gq (3 * j) = ((ss j : Nat) : Int)) ∧ (∀ j, j < v → ss j < k) ∧ (∀ j, j < v → gq (3 * j + 1) = ((sf j : Nat) : Int)) ∧ (∀ j, j < v → sf j < n) ∧ (∀ j, j < v → gq (3 * j + 2) = ((st j : Nat) : Int)) ∧ (∀ j, j < v → st j < n)
theorem agB_ff {n kd nm : Nat} {ss sf st : Nat → Nat} {j0 v : Nat} (h : agB n kd nm ss sf st j0 v = false) : agB n kd nm ss sf st j0 (v + 1) = false := by rw [agB, h]; rfl
theorem z_or0 (y : Int) : zI y ||| zI 0 = zI y := Int32.or_zero
/-! far: the flat walk over places and steps -/
def pT (μ : Nat → Nat → Nat) (k g0 d q a : Nat) : Int := if dT μ k g0 d q = -1 ∧ fsI (fun s => decide (dT μ k g0 d (μ s q) = (d : Int))) a ≠ -1 then (d : Int) + 1 else dT μ k g0 d q
theorem pT_k (μ : Nat → Nat → Nat) (k g0 d q : Nat) : pT μ k g0 d q k = dT μ k g0 (d + 1) q := rfl
theorem fsI_0 (P : Nat → Bool) : fsI P 0 = -1 := by unfold fsI; rw [if_neg (by omega)]
theorem pT_0 (μ : Nat → Nat → Nat) (k g0 d q : Nat) : pT μ k g0 d q 0 = dT μ k g0 d q := by
  unfold pT; rw [if_neg (fun h => h.2 (fsI_0 _))]
theorem fsI_s {P : Nat → Bool} {a : Nat} : fsI P (a + 1) = -1 ↔ (fsI P a = -1 ∧ P a = false) := by
  constructor
  · intro h
    have h1 := fsI_no h
    refine ⟨?_, h1 a (by omega)⟩
    apply Classical.byContradiction
    intro h2
    obtain ⟨b, hb, hp⟩ := fsI_yes h2
    rw [h1 b (by omega)] at hp
    exact absurd hp (by decide)
  · rintro ⟨h1, h2⟩
    apply Classical.byContradiction
    intro h3
    obtain ⟨b, hb, hp⟩ := fsI_yes h3
    rcases Nat.lt_or_ge b a with h4 | h4
    · rw [fsI_no h1 b h4] at hp; exact absurd hp (by decide)
    · rw [show b = a by omega, h2] at hp; exact absurd hp (by decide)
theorem pT_t {μ : Nat → Nat → Nat} {k g0 d q a : Nat} (h1 : pT μ k g0 d q a = -1) (h2 : dT μ k g0 d (μ a q) = (d : Int)) : pT μ k g0 d q (a + 1) = (d : Int) + 1 := by
  have hd : dT μ k g0 d q = -1 := by
    unfold pT at h1; split at h1
    · omega
    · exact h1
  unfold pT
  rw [if_pos ⟨hd, fun h => by have := (fsI_s.mp h).2; simp [h2] at this⟩]
theorem pT_f {μ : Nat → Nat → Nat} {k g0 d q a : Nat} (h : pT μ k g0 d q a ≠ -1 ∨ dT μ k g0 d (μ a q) ≠ (d : Int)) : pT μ k g0 d q (a + 1) = pT μ k g0 d q a := by
  unfold pT at h ⊢
  by_cases h1 : dT μ k g0 d q = -1
  · by_cases h2 : fsI (fun s => decide (dT μ k g0 d (μ s q) = (d : Int))) a = -1
    · have h3 : dT μ k g0 d (μ a q) ≠ (d : Int) := by
        rcases h with h | h
        · rw [if_neg (fun h9 => h9.2 h2)] at h; exact absurd h1 h
        · exact h
      rw [if_neg (fun h9 => h9.2 (fsI_s.mpr ⟨h2, by simp [h3]⟩)), if_neg (fun h9 => h9.2 h2)]
    · rw [if_pos ⟨h1, fun h9 => h2 (fsI_s.mp h9).1⟩, if_pos ⟨h1, h2⟩]
  · rw [if_neg (fun h9 => h1 h9.1), if_neg (fun h9 => h1 h9.1)]
theorem pT_d (μ : Nat → Nat → Nat) (k g0 d q a : Nat) : pT μ k g0 d q a = (d : Int) ↔ dT μ k g0 d q = (d : Int) := by
  unfold pT
  constructor
  · intro h; split at h
    · omega
    · exact h
  · intro h; rw [if_neg (fun h2 => by omega)]; exact h
theorem pT_r (μ : Nat → Nat → Nat) (k g0 d q a : Nat) : -1 ≤ pT μ k g0 d q a ∧ pT μ k g0 d q a ≤ (d : Int) + 1 := by
  have := dT_r μ k g0 d q
  unfold pT; split <;> omega
theorem flat_ne {k t x : Nat} (hk : 0 < k) (h : x ≠ t / k) : min k (t + 1 - x * k) = min k (t - x * k) := by
  have h1 := Nat.div_add_mod t k
  have h2 := Nat.mod_lt t hk
  rw [Nat.mul_comm] at h1
  rcases Nat.lt_or_gt_of_ne h with h3 | h3
  · have h4 : x * k + k ≤ t / k * k := by rw [← Nat.succ_mul]; exact Nat.mul_le_mul_right k h3
    omega
  · have h4 : t / k * k + k ≤ x * k := by rw [← Nat.succ_mul]; exact Nat.mul_le_mul_right k h3
    omega
theorem flat_eq {k t : Nat} (hk : 0 < k) : min k (t - t / k * k) = t % k ∧ min k (t + 1 - t / k * k) = t % k + 1 := by
  have h1 := Nat.div_add_mod t k
  have h2 := Nat.mod_lt t hk
  rw [Nat.mul_comm] at h1
  omega
theorem flat_end {n k x : Nat} (h : x < n) : min k (n * k - x * k) = k := by
  have h4 : x * k + k ≤ n * k := by rw [← Nat.succ_mul]; exact Nat.mul_le_mul_right k h
  omega
/-- a place so far has one nearer -/
theorem dT_chain {μ : Nat → Nat → Nat} {k g0 n : Nat} (hμ : ∀ a i, a < k → i < n → μ a i < n) : ∀ d q, q < n → ∀ e : Nat, dT μ k g0 d q = (e : Int) + 1 → ∃ a, a < k ∧ dT μ k g0 d (μ a q) = (e : Int)
  | 0, q, _, e, h => by rw [dT] at h; split at h <;> omega
  | d + 1, q, hq, e, h => by
    have keep : ∀ x, x < n → ∀ f : Nat, dT μ k g0 d x = (f : Int) → dT μ k g0 (d + 1) x = (f : Int) := by
      intro x _ f hf
      rw [dT_f (Or.inl (by omega))]; exact hf
    by_cases h1 : dT μ k g0 d q = -1 ∧ fsI (fun a => decide (dT μ k g0 d (μ a q) = (d : Int))) k ≠ -1
    · rw [dT_t h1.1 h1.2] at h
      obtain ⟨a, ha, hp⟩ := fsI_yes h1.2
      have e1 : e = d := by omega
      subst e1
      exact ⟨a, ha, keep _ (hμ a q ha hq) e (by simpa using hp)⟩
    · have h2 : dT μ k g0 (d + 1) q = dT μ k g0 d q := by rw [dT, if_neg h1]
      rw [h2] at h
      obtain ⟨a, ha, hp⟩ := dT_chain hμ d q hq e h
      exact ⟨a, ha, keep _ (hμ a q ha hq) e hp⟩
theorem dT_down {μ : Nat → Nat → Nat} {k g0 n : Nat} (hμ : ∀ a i, a < k → i < n → μ a i < n) {d : Nat} : ∀ (e q : Nat), q < n → dT μ k g0 d q = ((e : Nat) : Int) → ∀ f : Nat, f ≤ e → ∃ x, x < n ∧ dT μ k g0 d x = ((f : Nat) : Int)
  | 0, q, hq, h, f, hf => ⟨q, hq, by rw [h]; omega⟩
  | e + 1, q, hq, h, f, hf => by
    by_cases h1 : f = e + 1
    · exact ⟨q, hq, by rw [h, h1]⟩
    · obtain ⟨a, ha, hp⟩ := dT_chain hμ d q hq e (by rw [h]; omega)
      exact dT_down hμ e _ (hμ a q ha hq) hp f (by omega)
theorem dT_lt {μ : Nat → Nat → Nat} {k g0 n d q : Nat} (hμ : ∀ a i, a < k → i < n → μ a i < n) (hq : q < n) : dT μ k g0 d q < (n : Int) := by
  apply Classical.byContradiction
  intro h
  have hr := dT_r μ k g0 d q
  obtain ⟨e, he⟩ : ∃ e : Nat, dT μ k g0 d q = (e : Int) := ⟨(dT μ k g0 d q).toNat, by omega⟩
  have hx : ∀ f : Nat, f ≤ e → ∃ x, x < n ∧ dT μ k g0 d x = (f : Int) := dT_down hμ e q hq he
  have hc : ∀ f : Nat, ∃ x, f ≤ e → (x < n ∧ dT μ k g0 d x = (f : Int)) := by
    intro f
    by_cases hf : f ≤ e
    · obtain ⟨x, h1⟩ := hx f hf; exact ⟨x, fun _ => h1⟩
    · exact ⟨0, fun h => absurd h hf⟩
  obtain ⟨F, hF⟩ := Classical.skolem.mp hc
  have := fb_holes n (e + 1) F (fun i hi => (hF i (by omega)).1) (fun i j hij hj e2 => by
    have h1 := (hF i (by omega)).2
    have h2 := (hF j (by omega)).2
    rw [e2] at h1; omega)
  omega
theorem dT_last {μ : Nat → Nat → Nat} {k g0 n q : Nat} (h0 : 0 < n) (hμ : ∀ a i, a < k → i < n → μ a i < n) (hq : q < n) : dT μ k g0 n q = dT μ k g0 (n - 1) q := by
  obtain ⟨m, rfl⟩ : ∃ m, n = m + 1 := ⟨n - 1, by omega⟩
  rw [Nat.add_sub_cancel]
  have h := dT_lt (g0 := g0) (d := m + 1) hμ hq
  by_cases h1 : dT μ k g0 m q = -1 ∧ fsI (fun a => decide (dT μ k g0 m (μ a q) = (m : Int))) k ≠ -1
  · rw [dT_t h1.1 h1.2] at h; omega
  · rw [dT, if_neg h1]
/-! twos that lie the wrong way -/
theorem crossed_eq (π : Nat → Nat) (n : Nat) : fb_sm (fun a => fb_sm (fun b => if a < b ∧ π b < π a then 1 else 0) n) n = fb_sm (fun b => fb_ct (fun a => decide (π b < π a)) b) n := by
  rw [sm_swap]
  refine fb_sm_cong (fun b hb => ?_)
  rw [ct_sm]
  have key : ∀ m, b ≤ m → fb_sm (fun a => if a < b ∧ π b < π a then 1 else 0) m = fb_sm (fun a => if decide (π b < π a) = true then 1 else 0) b := by
    intro m hm
    induction m with
    | zero => rw [show b = 0 by omega]; rfl
    | succ m ih =>
      rcases Nat.lt_or_ge m b with h1 | h1
      · have e : b = m + 1 := by omega
        refine Eq.trans ?_ (by rw [e])
        refine fb_sm_cong (fun a ha => ?_)
        by_cases h2 : π b < π a
        · rw [if_pos ⟨by omega, h2⟩, if_pos (by rw [← e]; simpa using h2)]
        · rw [if_neg (fun h3 => h2 h3.2), if_neg (by rw [← e]; simpa using h2)]
      · rw [fb_sm_succ, ih h1, if_neg (by omega)]; rfl
  exact key n (by omega)
