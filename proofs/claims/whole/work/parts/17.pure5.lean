/-- a number that names one of the first k, or not -/
def chk {α : Type} (x : Int) (k : Nat) (f : Nat → α) (e : α) : α := if 0 ≤ x ∧ x < (k : Int) then f x.toNat else e
theorem chk_t {α : Type} {x k : Nat} {f : Nat → α} {e : α} (h : x < k) : chk (x : Int) k f e = f x := by
  unfold chk; rw [if_pos (by omega), Int.toNat_natCast]
theorem chk_f {α : Type} {x : Int} {k : Nat} {f : Nat → α} {e : α} (h : ¬ (0 ≤ x ∧ x < (k : Int))) : chk x k f e = e := by
  unfold chk; rw [if_neg h]
def mus (n : Nat) (κ ν : Nat → Nat) (q i : Nat) : Nat := mv n (κ q) (ν q) i
/-- a table's rows, by what they mean -/
def TI (n k d v : Nat) (g0 g1 g2 g3 g4 g5 g6 : Nat → Int) (κ ν π ss sf st : Nat → Nat) : Prop :=
  ((n = 0 ∧ k = 0) ∨ (2 ≤ n ∧ n ≤ 12 ∧ 1 ≤ k ∧ k ≤ 6)) ∧ d ≤ 9999 ∧ v ≤ 6 ∧
  (∀ j, j < k → g0 j = ((κ j : Nat) : Int)) ∧ (∀ j, j < k → κ j ≤ 4) ∧ (∀ j, j < k → g1 j = ((ν j : Nat) : Int)) ∧ (∀ j, j < k → ν j ≤ 9) ∧
  (∀ q i, q < k → i < n → g2 (q * 12 + i) = ((mus n κ ν q i : Nat) : Int)) ∧
  (∀ j, j < n → g3 j = ((π j : Nat) : Int)) ∧ (∀ j, j < n → π j < n) ∧ inj π n ∧
  (∀ j, j < v → g4 j = ((ss j : Nat) : Int)) ∧ (∀ j, j < v → ss j < k) ∧ (∀ j, j < v → g5 j = ((sf j : Nat) : Int)) ∧ (∀ j, j < v → sf j < n) ∧ (∀ j, j < v → g6 j = ((st j : Nat) : Int)) ∧ (∀ j, j < v → st j < n)
theorem mus_lt {n k : Nat} {κ ν : Nat → Nat} (hn : n ≤ 12) (hκ : ∀ j, j < k → κ j ≤ 4) (hν : ∀ j, j < k → ν j ≤ 9) : ∀ q i, q < k → i < n → mus n κ ν q i < n := fun q _ hq hi => mv_lt hn (hκ q hq) (hν q hq) hi
theorem mus_inj {n k : Nat} {κ ν : Nat → Nat} (hn : n ≤ 12) (hκ : ∀ j, j < k → κ j ≤ 4) (hν : ∀ j, j < k → ν j ≤ 9) : ∀ q, q < k → inj (mus n κ ν q) n := fun q hq _ _ hij hj => mv_inj hn (hκ q hq) (hν q hq) hj hij
theorem rdc_inj {μ : Nat → Nat → Nat} {n k : Nat} (hμ : ∀ a i, a < k → i < n → μ a i < n) (hi : ∀ a, a < k → inj (μ a) n) : ∀ {q : Nat}, q ≤ k → inj (rdc μ q) n
  | 0, _ => fun _ _ hij _ e => by simp [rdc] at e; omega
  | q + 1, h => fun a b hab hb e => rdc_inj hμ hi (q := q) (by omega) a b hab hb (inj_eq (hi q (by omega)) (rdc_lt hμ (by omega) (by omega)) (rdc_lt hμ (by omega) hb) e)
/-- how a pack lies behind a way -/
def pa (φ : Nat → Nat) (n : Nat) (π : Nat → Nat) (q : Nat) : Nat := π (fa_first (fun i => decide (φ i = q)) n)
theorem fa_inv {φ : Nat → Nat} {n i : Nat} (hi : inj φ n) (h : i < n) : fa_first (fun a => decide (φ a = φ i)) n = i :=
  fa_is (fun a ha => by simp; exact hi a i ha h) (Or.inr ⟨h, by simp⟩)
theorem pa_at {φ π : Nat → Nat} {n i : Nat} (hi : inj φ n) (h : i < n) : pa φ n π (φ i) = π i := by unfold pa; rw [fa_inv hi h]
/-- a row that is so behind each place is the pack behind the way -/
theorem pa_is {φ π : Nat → Nat} {n : Nat} {o : Nat → Int} (hφ : ∀ j, j < n → φ j < n) (hi : inj φ n) (h : ∀ j, j < n → o (φ j) = ((π j : Nat) : Int)) : ∀ j, j < n → o j = ((pa φ n π j : Nat) : Int) := by
  intro j hj
  obtain ⟨i, h1, h2⟩ := fb_onto hφ hi hj
  rw [← h2, pa_at hi h1]; exact h i h1
theorem pa_lt {φ π : Nat → Nat} {n : Nat} (hφ : ∀ j, j < n → φ j < n) (hi : inj φ n) (hπ : ∀ j, j < n → π j < n) : ∀ j, j < n → pa φ n π j < n := by
  intro j hj
  obtain ⟨i, h1, h2⟩ := fb_onto hφ hi hj
  rw [← h2, pa_at hi h1]; exact hπ i h1
theorem pa_inj {φ π : Nat → Nat} {n : Nat} (hφ : ∀ j, j < n → φ j < n) (hi : inj φ n) (hπ : inj π n) : inj (pa φ n π) n := by
  intro a b hab hb e
  obtain ⟨i, h1, h2⟩ := fb_onto hφ hi (show a < n by omega)
  obtain ⟨i2, h3, h4⟩ := fb_onto hφ hi hb
  rw [← h2, ← h4, pa_at hi h1, pa_at hi h3] at e
  have := inj_eq hπ h1 h3 e
  subst this
  omega
theorem pa_comp {φ ψ π : Nat → Nat} {n : Nat} (hφ : ∀ j, j < n → φ j < n) (hi : inj φ n) (hψ : ∀ j, j < n → ψ j < n) (hi2 : inj ψ n) : ∀ j, j < n → pa ψ n (pa φ n π) j = pa (fun i => ψ (φ i)) n π j := by
  intro j hj
  have hc : inj (fun i => ψ (φ i)) n := fun a b hab hb e => by
    have h1 := inj_eq hi2 (hφ a (by omega)) (hφ b hb) e
    exact hi a b hab hb h1
  obtain ⟨i, h1, h2⟩ := fb_onto hψ hi2 hj
  obtain ⟨i2, h3, h4⟩ := fb_onto hφ hi h1
  rw [← h2, pa_at hi2 h1, ← h4, pa_at hi h3]
  exact (pa_at (φ := fun i => ψ (φ i)) hc h3).symm
/-- two places exchanged -/
def sw (π : Nat → Nat) (a b : Nat) : Nat → Nat := fun j => if j = b then π a else if j = a then π b else π j
theorem sw_lt {π : Nat → Nat} {n a b : Nat} (ha : a < n) (hb : b < n) (hπ : ∀ j, j < n → π j < n) : ∀ j, j < n → sw π a b j < n := by
  intro j hj; unfold sw
  split
  · exact hπ a ha
  · split
    · exact hπ b hb
    · exact hπ j hj
theorem sw_inj {π : Nat → Nat} {n a b : Nat} (ha : a < n) (hb : b < n) (hi : inj π n) : inj (sw π a b) n := by
  intro x y hxy hy e
  unfold sw at e
  have key : ∀ {u w : Nat}, u < n → w < n → π u = π w → u = w := fun hu hw e => inj_eq hi hu hw e
  by_cases h1 : x = b
  · rw [if_pos h1] at e
    by_cases h2 : y = b
    · omega
    · rw [if_neg h2] at e
      by_cases h3 : y = a
      · rw [if_pos h3] at e; have := key ha hb e; omega
      · rw [if_neg h3] at e; have := key ha hy e; omega
  · rw [if_neg h1] at e
    by_cases h4 : x = a
    · rw [if_pos h4] at e
      by_cases h2 : y = b
      · rw [if_pos h2] at e; have := key hb ha e; omega
      · rw [if_neg h2] at e
        by_cases h3 : y = a
        · omega
        · rw [if_neg h3] at e; have := key hb hy e; omega
    · rw [if_neg h4] at e
      by_cases h2 : y = b
      · rw [if_pos h2] at e; have := key (by omega) ha e; omega
      · rw [if_neg h2] at e
        by_cases h3 : y = a
        · rw [if_pos h3] at e; have := key (by omega) hb e; omega
        · rw [if_neg h3] at e; have := key (by omega) hy e; omega
/-! what the calls answer -/
def fAt (n : Nat) (π : Nat → Nat) (x : Int) : Int := chk x n (fun i => ((π i : Nat) : Int)) (-101)
def fGoes (n k : Nat) (κ ν : Nat → Nat) (x y : Int) : Int := chk x k (fun q => chk y n (fun i => ((mus n κ ν q i : Nat) : Int)) (-101)) (-101)
def fRound (n k : Nat) (κ ν : Nat → Nat) (x : Int) : Int := chk x n (fun i => ((rdc (mus n κ ν) k i : Nat) : Int)) (-101)
def fAfter (n k : Nat) (κ ν : Nat → Nat) (x y : Int) : Int := chk x n (fun i => chk y 1000000001 (fun t => ((it (rdc (mus n κ ν) k) (t % rl (rdc (mus n κ ν) k) n i) i : Nat) : Int)) (-102)) (-101)
def fAs (k : Nat) (κ : Nat → Nat) (x y : Int) : Int := chk x k (fun q => chk y 5 (fun w => if w = 0 ∨ w = κ q ∨ (w = 2 ∧ κ q = 4) then ((q : Nat) : Int) else -1) (-102)) (-101)
def fStp (n : Nat) (κ ν : Nat → Nat) (v : Nat) (ss sf st : Nat → Nat) (q : Nat) (w : Int) : Int :=
  if w = 0 then ((κ q : Nat) : Int) else if w = 1 then ((ν q : Nat) : Int) else if w = 2 then ((fb_ct (fun j => decide (mus n κ ν q j = j)) n : Nat) : Int) else if w = 3 then ((odN (mus n κ ν q) n n : Nat) : Int)
  else if w = 4 then ((btN (fun nm => agB n (κ q) nm ss sf st q v) 10 : Nat) : Int) else if w = 5 then (if btN (fun nm => agB n (κ q) nm ss sf st q v) 10 = 0 then (-1 : Int) else ((wbN (lw n (κ q) (fun nm => agB n (κ q) nm ss sf st q v)) n : Nat) : Int)) else -102
def fStep (n k : Nat) (κ ν : Nat → Nat) (v : Nat) (ss sf st : Nat → Nat) (x w : Int) : Int := chk x k (fun q => fStp n κ ν v ss sf st q w) (-101)
def fRng (n : Nat) (φ : Nat → Nat) (w : Nat) : Int := if w = 0 then ((odN φ n n : Nat) : Int) else if w = 1 then ((fb_ct (fun j => lrB φ n j) n : Nat) : Int) else if w = 2 then ((mx (rl φ n) n : Nat) : Int) else ((fb_ct (fun j => decide (φ j = j)) n : Nat) : Int)
def fRings (n k : Nat) (κ ν : Nat → Nat) (x : Int) : Int := chk x 4 (fun w => if k = 0 then -103 else fRng n (rdc (mus n κ ν) k) w) (-102)
def fBri (μ : Nat → Nat → Nat) (n k : Nat) (π : Nat → Nat) (c p w : Nat) : Int := if w = 0 then dT μ k p (n - 1) (plo π n c) else (if 0 < dT μ k p (n - 1) (plo π n c) then fsI (fun a => decide (dT μ k p (n - 1) (μ a (plo π n c)) = dT μ k p (n - 1) (plo π n c) - 1)) k else -1)
def fBring (n k : Nat) (κ ν π : Nat → Nat) (x y w : Int) : Int := chk x n (fun c => chk y n (fun p => chk w 2 (fun w => fBri (mus n κ ν) n k π c p w) (-102)) (-101)) (-101)
def fHm (μ : Nat → Nat → Nat) (n k : Nat) (π : Nat → Nat) (w : Nat) : Nat → Nat → Int
  | 0, _ => -1
  | f + 1, L => if fa_first (fun q => homB μ (dg k L q) π L n) (k ^ L) < k ^ L then (if w = 0 then ((L : Nat) : Int) else ((dgs (dg k L (fa_first (fun q => homB μ (dg k L q) π L n) (k ^ L))) L : Nat) : Int)) else fHm μ n k π w f (L + 1)
def fHome (n k : Nat) (κ ν π : Nat → Nat) (hc : Nat) (x : Int) : Int := chk x 2 (fun w => if k = 0 ∨ 30 ≤ hc then -103 else fHm (mus n κ ν) n k π w 5 0) (-102)
def fOd (μ : Nat → Nat → Nat) (n k : Nat) (π : Nat → Nat) (c p m w : Nat) : Int := (((if w = 0 then wy μ n k (plo π n c) m p else k ^ m) / Nat.gcd (k ^ m) (wy μ n k (plo π n c) m p) : Nat) : Int)
def fOdds (n k : Nat) (κ ν π : Nat → Nat) (x y z w : Int) : Int := chk x n (fun c => chk y n (fun p => if 1 ≤ z ∧ z ≤ 8 ∧ 0 ≤ w ∧ w ≤ 1 then fOd (mus n κ ν) n k π c p z.toNat w.toNat else -102) (-101)) (-101)
def fRn (μ : Nat → Nat → Nat) (n k : Nat) (π : Nat → Nat) (t s w : Nat) : Int := if w = 0 then ((fb_ct (fun j => decide (π j = wq μ k s t j)) n : Nat) : Int) else if w = 1 then ((pa (wq μ k s t) n π 0 : Nat) : Int) else ((sdN s t : Nat) : Int)
def fRuns (n k : Nat) (κ ν π : Nat → Nat) (x y w : Int) : Int := if 1 ≤ x ∧ x ≤ 99 ∧ 0 ≤ y ∧ 0 ≤ w ∧ w ≤ 2 then (if k = 0 then -103 else fRn (mus n κ ν) n k π x.toNat y.toNat w.toNat) else -102
def fCount (n k d v : Nat) (π : Nat → Nat) (pl rr hc : Nat) (x : Int) : Int :=
  if x = 0 then (n : Int) else if x = 1 then (k : Int) else if x = 2 then ((fb_ct (fun j => decide (π j = j)) n : Nat) : Int) else if x = 3 then ((fb_sm (fun b => fb_ct (fun a => decide (π b < π a)) b) n : Nat) : Int)
  else if x = 4 then (d : Int) else if x = 5 then (v : Int) else if x = 6 then (pl : Int) else if x = 7 then (rr : Int) else if x = 8 then (hc : Int) else -102
theorem wbN_le (f : Nat → Nat) : ∀ i, wbN f i ≤ i
  | 0 => Nat.le_refl _
  | i + 1 => by have := wbN_le f i; rw [wbN]; split <;> omega
