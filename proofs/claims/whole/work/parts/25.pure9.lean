theorem sm_swap (g : Nat → Nat → Nat) (n : Nat) : ∀ m, fb_sm (fun t => fb_sm (fun p => g t p) n) m = fb_sm (fun p => fb_sm (fun t => g t p) m) n
  | 0 => (sm_zero n).symm
  | m + 1 => by
    rw [fb_sm_succ, sm_swap g n m, ← fb_sm_add]
    exact fb_sm_cong (fun p _ => rfl)
theorem sm_bij {C : Nat → Bool} {e F : Nat → Nat} {M n : Nat} (he : ∀ t, t < M → C t = true → e t < n) (hon : ∀ p, p < n → ∃ t, t < M ∧ C t = true ∧ e t = p) (hin : ∀ t u, t < M → u < M → C t = true → C u = true → e t = e u → t = u) : fb_sm (fun t => if C t then F (e t) else 0) M = fb_sm F n := by
  have e1 : fb_sm (fun t => if C t then F (e t) else 0) M = fb_sm (fun t => fb_sm (fun p => if C t = true ∧ p = e t then F p else 0) n) M := by
    refine fb_sm_cong (fun t ht => ?_)
    by_cases hC : C t = true
    · rw [if_pos hC, ← sm_one (n := n) F (he t ht hC)]
      refine fb_sm_cong (fun p _ => ?_)
      by_cases hp : p = e t
      · rw [if_pos hp, if_pos ⟨hC, hp⟩]
      · rw [if_neg hp, if_neg (fun h => hp h.2)]
    · rw [if_neg hC]
      exact (Eq.trans (fb_sm_cong (g := fun _ => 0) (fun p _ => if_neg (fun (h : C t = true ∧ p = e t) => hC h.1))) (sm_zero n)).symm
  rw [e1, sm_swap]
  refine fb_sm_cong (fun p hp => ?_)
  obtain ⟨t0, h1, h2, h3⟩ := hon p hp
  refine Eq.trans (fb_sm_cong (fun t ht => ?_)) (sm_one (n := n) (fun _ => F p) h1)
  by_cases h4 : t = t0
  · subst h4; rw [if_pos ⟨h2, h3.symm⟩, if_pos rfl]
  · rw [if_neg h4, if_neg (fun h => h4 (hin t t0 ht h1 h.1 h2 (h.2.symm.trans h3.symm)))]
theorem ct_sm (p : Nat → Bool) : ∀ n, fb_ct p n = fb_sm (fun i => if p i then 1 else 0) n
  | 0 => rfl
  | n + 1 => by rw [fb_ct_succ, fb_sm_succ, ct_sm p n]
/-- a count over all places is one over where they go -/
theorem ct_perm {φ : Nat → Nat} {n : Nat} (hφ : ∀ j, j < n → φ j < n) (hi : inj φ n) (p : Nat → Bool) : fb_ct (fun j => p (φ j)) n = fb_ct p n := by
  rw [ct_sm, ct_sm]
  have h := sm_bij (C := fun _ => true) (e := φ) (F := fun q => if p q then 1 else 0) (M := n) (n := n) (fun t ht _ => hφ t ht) (fun q hq => by
    obtain ⟨i, h1, h2⟩ := fb_onto hφ hi hq
    exact ⟨i, h1, rfl, h2⟩) (fun t u ht hu _ _ e => inj_eq hi ht hu e)
  rw [← h]
  exact fb_sm_cong (fun i _ => rfl)
theorem ct_pa {φ π : Nat → Nat} {n : Nat} (hφ : ∀ j, j < n → φ j < n) (hi : inj φ n) : fb_ct (fun q => decide (pa φ n π q = q)) n = fb_ct (fun j => decide (π j = φ j)) n := by
  rw [← ct_perm hφ hi]
  refine fb_ct_cong (fun j hj => ?_)
  simp only [pa_at hi hj]
/-! rings -/
theorem it_comm (φ : Nat → Nat) (a b p : Nat) : it φ a (it φ b p) = it φ b (it φ a p) := by rw [← it_add, ← it_add, Nat.add_comm]
theorem rl_orbit {φ : Nat → Nat} {n q m : Nat} (hφ : ∀ j, j < n → φ j < n) (hi : inj φ n) (hq : q < n) : rl φ n (it φ m q) = rl φ n q := by
  unfold rl
  have e : (fun j => decide (it φ (j + 1) (it φ m q) = it φ m q)) = (fun j => decide (it φ (j + 1) q = q)) := by
    funext j
    have h : it φ (j + 1) (it φ m q) = it φ m q ↔ it φ (j + 1) q = q := by
      rw [it_comm]
      exact ⟨fun h => it_back hφ hi m (it_lt hφ _ hq) hq h, fun h => by rw [h]⟩
    simp only [h]
  rw [e]
theorem it_mod {φ : Nat → Nat} {n p : Nat} (hφ : ∀ j, j < n → φ j < n) (hi : inj φ n) (hp : p < n) (j : Nat) : it φ j p = it φ (j % rl φ n p) p := by
  have h := rl_it hφ hi hp
  have key : ∀ c r, it φ (c * rl φ n p + r) p = it φ r p := by
    intro c
    induction c with
    | zero => intro r; rw [Nat.zero_mul, Nat.zero_add]
    | succ c ih => intro r; rw [Nat.succ_mul, show c * rl φ n p + rl φ n p + r = rl φ n p + (c * rl φ n p + r) by omega, it_add, h, ih r]
  have e : j / rl φ n p * rl φ n p + j % rl φ n p = j := by rw [Nat.mul_comm]; exact Nat.div_add_mod _ _
  have h2 := key (j / rl φ n p) (j % rl φ n p)
  rw [e] at h2
  exact h2
theorem rl_dvd {φ : Nat → Nat} {n p : Nat} (hn : n ≤ 12) (hp : p < n) : rl φ n p * (27720 / rl φ n p) = 27720 :=
  Nat.mul_div_cancel' (d27720 _ (by have := rl_le (φ := φ) hp; omega) (rl_pos _ _ _))
theorem sm_grid (G : Nat → Nat → Nat) {n : Nat} (hn : 0 < n) : ∀ m, fb_sm (fun t => G (t / n) (t % n)) (m * n) = fb_sm (fun q => fb_sm (fun a => G q a) n) m
  | 0 => by rw [Nat.zero_mul]; rfl
  | m + 1 => by
    rw [Nat.succ_mul, fb_sm_split, sm_grid G hn m, fb_sm_succ]
    congr 1
    refine fb_sm_cong (fun a ha => ?_)
    have e1 : (m * n + a) / n = m := by rw [Nat.mul_comm, Nat.mul_add_div hn, Nat.div_eq_of_lt ha]; rfl
    have e2 : (m * n + a) % n = a := by rw [Nat.mul_comm, Nat.mul_add_mod]; exact Nat.mod_eq_of_lt ha
    rw [e1, e2]
theorem sm_cut (c : Nat) {r : Nat} : ∀ {n : Nat}, r ≤ n → fb_sm (fun a => if a < r then c else 0) n = r * c
  | 0, h => by have : r = 0 := by omega
               subst this; rw [Nat.zero_mul]; rfl
  | n + 1, h => by
    rw [fb_sm_succ]
    by_cases h1 : r ≤ n
    · rw [sm_cut c h1, if_neg (by omega)]; rfl
    · have e : r = n + 1 := by omega
      subst e
      have e2 : fb_sm (fun a => if a < n + 1 then c else 0) n = fb_sm (fun _ => c) n := fb_sm_cong (fun a ha => if_pos (by omega))
      rw [e2, fb_sm_const, if_pos (by omega), Nat.succ_mul]
theorem rings_sum {φ : Nat → Nat} {n : Nat} (hn : n ≤ 12) (h0 : 0 < n) (hφ : ∀ j, j < n → φ j < n) (hi : inj φ n) : fb_sm (fun p => 27720 / rl φ n p) n = 27720 * fb_ct (fun j => lrB φ n j) n := by
  have h := sm_bij (C := fun t => lrB φ n (t / n) && decide (t % n < rl φ n (t / n))) (e := fun t => it φ (t % n) (t / n)) (F := fun p => 27720 / rl φ n p) (M := n * n) (n := n) ?_ ?_ ?_
  · rw [← h]
    have e1 := sm_grid (fun q a => if lrB φ n q && decide (a < rl φ n q) then 27720 / rl φ n (it φ a q) else 0) h0 n
    rw [e1]
    have e2 : fb_sm (fun q => fb_sm (fun a => if lrB φ n q && decide (a < rl φ n q) then 27720 / rl φ n (it φ a q) else 0) n) n = fb_sm (fun q => (if lrB φ n q then 1 else 0) * 27720) n := by
      refine fb_sm_cong (fun q hq => ?_)
      by_cases hl : lrB φ n q = true
      · have e3 : fb_sm (fun a => if lrB φ n q && decide (a < rl φ n q) then 27720 / rl φ n (it φ a q) else 0) n = fb_sm (fun a => if a < rl φ n q then 27720 / rl φ n q else 0) n := by
          refine fb_sm_cong (fun a _ => ?_)
          rw [rl_orbit hφ hi hq, hl]
          simp
        rw [e3, sm_cut _ (rl_le (φ := φ) hq), rl_dvd (φ := φ) hn hq, if_pos hl, Nat.one_mul]
      · rw [if_neg hl, Nat.zero_mul]
        refine Eq.trans (fb_sm_cong (g := fun _ => 0) (fun a _ => ?_)) (sm_zero n)
        have hl2 : lrB φ n q = false := by simpa using hl
        rw [hl2]; rfl
    rw [e2, ct_sm]
    have key : ∀ (f : Nat → Nat) m, fb_sm (fun q => f q * 27720) m = 27720 * fb_sm f m := by
      intro f m
      induction m with
      | zero => rfl
      | succ m ih => rw [fb_sm_succ, fb_sm_succ, ih]; omega
    exact key _ n
  · intro t ht _
    exact it_lt hφ _ (Nat.div_lt_of_lt_mul ht)
  · intro p hp
    obtain ⟨i, h1, h2, -⟩ := fb_low (fun j => ((it φ j p : Nat) : Int)) h0
    have hr0 := rl_pos φ n p
    have hrn := rl_le (φ := φ) hp
    have hrp := rl_it hφ hi hp
    obtain ⟨r, hr⟩ : ∃ r, r = i % rl φ n p := ⟨_, rfl⟩
    have hrl : r < rl φ n p := by rw [hr]; exact Nat.mod_lt _ hr0
    have hq : it φ i p = it φ r p := by rw [hr]; exact it_mod hφ hi hp i
    have hqn : it φ r p < n := it_lt hφ r hp
    have hle : ∀ j, it φ r p ≤ it φ j p := by
      intro j
      rw [it_mod hφ hi hp j]
      have h3 := h2 (j % rl φ n p) (Nat.lt_of_lt_of_le (Nat.mod_lt _ hr0) hrn)
      simp only [hq] at h3
      omega
    obtain ⟨m, hm⟩ : ∃ m, m = (rl φ n p - r) % rl φ n p := ⟨_, rfl⟩
    have hml : m < rl φ n p := by rw [hm]; exact Nat.mod_lt _ hr0
    have hmp : it φ m (it φ r p) = p := by
      rw [← it_add]
      by_cases h4 : r = 0
      · have : m = 0 := by rw [hm, h4, Nat.sub_zero, Nat.mod_self]
        rw [this, h4]; rfl
      · have : m = rl φ n p - r := by rw [hm]; exact Nat.mod_eq_of_lt (by omega)
        rw [this, show r + (rl φ n p - r) = rl φ n p by omega, hrp]
    refine ⟨it φ r p * n + m, ?_, ?_, ?_⟩
    · have : it φ r p * n + n ≤ n * n := by
        rw [← Nat.succ_mul]; exact Nat.mul_le_mul_right n hqn
      omega
    · have e1 : (it φ r p * n + m) / n = it φ r p := by rw [Nat.mul_comm, Nat.mul_add_div h0, Nat.div_eq_of_lt (by omega)]; rfl
      have e2 : (it φ r p * n + m) % n = m := by rw [Nat.mul_comm, Nat.mul_add_mod]; exact Nat.mod_eq_of_lt (by omega)
      rw [e1, e2, rl_orbit hφ hi hp]
      simp only [Bool.and_eq_true, decide_eq_true_eq, lrB]
      refine ⟨fun a _ => ?_, hml⟩
      rw [← it_add]; exact hle _
    · have e1 : (it φ r p * n + m) / n = it φ r p := by rw [Nat.mul_comm, Nat.mul_add_div h0, Nat.div_eq_of_lt (by omega)]; rfl
      have e2 : (it φ r p * n + m) % n = m := by rw [Nat.mul_comm, Nat.mul_add_mod]; exact Nat.mod_eq_of_lt (by omega)
      rw [e1, e2]; exact hmp
  · intro t u ht hu hC hD e
    simp only [Bool.and_eq_true, decide_eq_true_eq] at hC hD
    obtain ⟨q, hq0⟩ : ∃ q, q = t / n := ⟨_, rfl⟩
    obtain ⟨q', hq1⟩ : ∃ q, q = u / n := ⟨_, rfl⟩
    obtain ⟨a, ha0⟩ : ∃ q, q = t % n := ⟨_, rfl⟩
    obtain ⟨a', ha1⟩ : ∃ q, q = u % n := ⟨_, rfl⟩
    have hq : q < n := by rw [hq0]; exact Nat.div_lt_of_lt_mul ht
    have hq' : q' < n := by rw [hq1]; exact Nat.div_lt_of_lt_mul hu
    rw [← hq0, ← ha0] at hC
    rw [← hq1, ← ha1] at hD
    change it φ (t % n) (t / n) = it φ (u % n) (u / n) at e
    rw [← hq0, ← ha0, ← hq1, ← ha1] at e
    have back : ∀ {x a}, x < n → a < rl φ n x → it φ (rl φ n x - a) (it φ a x) = x := by
      intro x a hx hax
      rw [← it_add, show a + (rl φ n x - a) = rl φ n x by omega]
      exact rl_it hφ hi hx
    have low : ∀ {x}, x < n → lrB φ n x = true → ∀ j, x ≤ it φ j x := by
      intro x hx hl j
      rw [it_mod hφ hi hx j]
      simp only [lrB, decide_eq_true_eq] at hl
      rcases Nat.eq_zero_or_pos (j % rl φ n x) with h9 | h9
      · rw [h9]; exact Nat.le_refl _
      · have h8 := Nat.mod_lt j (show 0 < rl φ n x from rl_pos _ _ _)
        have h7 := rl_le (φ := φ) hx
        have h6 := hl (j % rl φ n x - 1) (by omega)
        rw [show j % rl φ n x - 1 + 1 = j % rl φ n x by omega] at h6
        exact h6
    have h1 : q ≤ q' := by
      have h2 := back hq' hD.2
      rw [← e, ← it_add] at h2
      rw [← h2]; exact low hq hC.1 _
    have h3 : q' ≤ q := by
      have h2 := back hq hC.2
      rw [e, ← it_add] at h2
      rw [← h2]; exact low hq' hD.1 _
    have hqq : q = q' := by omega
    subst hqq
    have haa : a = a' := by
      rcases Nat.lt_trichotomy a a' with h4 | h4 | h4
      · exfalso
        have e3 : it φ a q = it φ a (it φ (a' - a) q) := by rw [← it_add φ (a' - a) a, show a' - a + a = a' by omega]; exact e
        have e4 := it_back hφ hi a hq (it_lt hφ _ hq) e3
        exact rl_no (φ := φ) (n := n) (p := q) (m := a' - a - 1) (by omega) (by rw [show a' - a - 1 + 1 = a' - a by omega]; exact e4.symm)
      · exact h4
      · exfalso
        have e3 : it φ a' q = it φ a' (it φ (a - a') q) := by rw [← it_add φ (a - a') a', show a - a' + a' = a by omega]; exact e.symm
        have e4 := it_back hφ hi a' hq (it_lt hφ _ hq) e3
        exact rl_no (φ := φ) (n := n) (p := q) (m := a - a' - 1) (by omega) (by rw [show a - a' - 1 + 1 = a - a' by omega]; exact e4.symm)
    rw [← Nat.div_add_mod t n, ← Nat.div_add_mod u n, ← hq0, ← hq1, ← ha0, ← ha1, haa]
