/-! sums over all places -/
theorem sm_one {n q : Nat} (f : Nat → Nat) : ∀ {m : Nat}, q < m → fb_sm (fun i => if i = q then f i else 0) m = f q
  | 0, h => absurd h (Nat.not_lt_zero _)
  | m + 1, h => by
    rw [fb_sm_succ]
    by_cases h1 : q = m
    · subst h1
      rw [if_pos rfl, fb_sm_cong (g := fun _ => 0) (fun i hi => if_neg (by omega)), fb_sm_const]
      omega
    · rw [sm_one (n := n) f (m := m) (by omega), if_neg (by omega)]
      rfl
/-- how many ways there are in all -/
theorem sm_zero : ∀ n, fb_sm (fun _ => 0) n = 0
  | 0 => rfl
  | n + 1 => by rw [fb_sm_succ, sm_zero n]
theorem ac_sum {μ : Nat → Nat → Nat} {n k : Nat} {w : Nat → Nat} (hk : 0 < k) (hμ : ∀ a i, a < k → i < n → μ a i < n) : ∀ t, t ≤ n * k → fb_sm (fun q => ac μ k w q t) n = fb_sm (fun a => w (a / k)) t
  | 0, _ => sm_zero n
  | t + 1, h => by
    have h1 : t / k < n := Nat.div_lt_of_lt_mul (by rw [Nat.mul_comm]; omega)
    have h2 := hμ (t % k) (t / k) (Nat.mod_lt _ hk) h1
    have e1 : fb_sm (fun q => ac μ k w q (t + 1)) n = fb_sm (fun q => ac μ k w q t + (if q = μ (t % k) (t / k) then w (t / k) else 0)) n := by
      refine fb_sm_cong (fun q _ => ?_)
      rw [ac]; congr 1
      by_cases h3 : μ (t % k) (t / k) = q
      · rw [if_pos h3, if_pos h3.symm]
      · rw [if_neg h3, if_neg (fun h4 => h3 h4.symm)]
    have e2 : fb_sm (fun q => if q = μ (t % k) (t / k) then w (t / k) else 0) n = w (t / k) := sm_one (n := n) (fun _ => w (t / k)) h2
    rw [e1, fb_sm_add, ac_sum hk hμ t (by omega), e2, fb_sm_succ]
theorem sm_block {k : Nat} (hk : 0 < k) (w : Nat → Nat) : ∀ m, fb_sm (fun a => w (a / k)) (m * k) = fb_sm w m * k
  | 0 => by rw [Nat.zero_mul]; simp [fb_sm]
  | m + 1 => by
    have e1 : fb_sm (fun a => w ((m * k + a) / k)) k = fb_sm (fun _ => w m) k := by
      refine fb_sm_cong (fun a ha => ?_)
      have e2 : (m * k + a) / k = m := by rw [Nat.mul_comm, Nat.mul_add_div hk, Nat.div_eq_of_lt ha]; rfl
      rw [e2]
    rw [Nat.succ_mul, fb_sm_split, sm_block hk w m, e1, fb_sm_const, fb_sm_succ, Nat.add_mul, Nat.mul_comm k]
theorem wy_sum {μ : Nat → Nat → Nat} {n k p0 : Nat} (hk : 0 < k) (hp : p0 < n) (hμ : ∀ a i, a < k → i < n → μ a i < n) : ∀ m, fb_sm (wy μ n k p0 m) n = k ^ m
  | 0 => sm_one (n := n) (fun _ => 1) hp
  | m + 1 => by
    have e1 : fb_sm (wy μ n k p0 (m + 1)) n = fb_sm (fun q => ac μ k (wy μ n k p0 m) q (n * k)) n := rfl
    rw [e1, ac_sum hk hμ _ (Nat.le_refl _), sm_block hk, wy_sum hk hp hμ m, Nat.pow_succ]
theorem wy_le {μ : Nat → Nat → Nat} {n k p0 q m : Nat} (hk : 0 < k) (hp : p0 < n) (hq : q < n) (hμ : ∀ a i, a < k → i < n → μ a i < n) : wy μ n k p0 m q ≤ k ^ m := by
  rw [← wy_sum hk hp hμ m]
  have := fb_sm_part (wy μ n k p0 m) hq
  omega
set_option maxRecDepth 100000 in
theorem pw8' : ∀ k, k < 7 → ∀ m, m < 9 → k ^ m ≤ 1679616 := by decide +kernel
theorem pw8 {k m : Nat} (hk : k ≤ 6) (hm : m ≤ 8) : k ^ m ≤ 1679616 := pw8' k (by omega) m (by omega)
/-! the way of drawn steps -/
theorem wq_lt {μ : Nat → Nat → Nat} {n k s0 : Nat} (hk : 0 < k) (hμ : ∀ a i, a < k → i < n → μ a i < n) : ∀ m i, i < n → wq μ k s0 m i < n
  | 0, _, h => h
  | m + 1, i, h => hμ _ _ (Nat.mod_lt _ hk) (wq_lt hk hμ m i h)
theorem wq_inj {μ : Nat → Nat → Nat} {n k s0 : Nat} (hk : 0 < k) (hμ : ∀ a i, a < k → i < n → μ a i < n) (hi : ∀ a, a < k → inj (μ a) n) : ∀ m, inj (wq μ k s0 m) n
  | 0 => fun _ _ hij _ e => by simp [wq] at e; omega
  | m + 1 => fun a b hab hb e => wq_inj hk hμ hi m a b hab hb (inj_eq (hi _ (Nat.mod_lt _ hk)) (wq_lt hk hμ m a (by omega)) (wq_lt hk hμ m b hb) e)
/-! home: bounds of the digits -/
theorem dgs_le {δ : Nat → Nat} : ∀ {L : Nat}, (∀ j, j < L → δ j < 6) → dgs δ L + 1 ≤ 10 ^ L
  | 0, _ => Nat.le_refl _
  | L + 1, h => by
    have h1 := dgs_le (δ := δ) (L := L) (fun j hj => h j (by omega))
    have h2 := h L (by omega)
    rw [dgs, Nat.pow_succ]; omega
theorem p10 : ∀ L, L < 5 → 10 ^ L ≤ 10000 := by decide
/-! the digest -/
def hJ (h z : Int) : Int := 31 * h + z
def hF (f : Nat → Int) : Nat → Int → Int
  | 0, h => h
  | m + 1, h => hJ (hF f m h) (f m)
def hS6 (f : Nat → Nat → Int) : Nat → Int → Int
  | 0, h => h
  | m + 1, h => hF (f m) 6 (hS6 f m h)
def hP3 (f0 f1 f2 : Nat → Int) : Nat → Int → Int
  | 0, h => h
  | m + 1, h => hJ (hJ (hJ (hP3 f0 f1 f2 m h) (f0 m)) (f1 m)) (f2 m)
def fDs (n k : Nat) (κ ν : Nat → Nat) (v : Nat) (ss sf st : Nat → Nat) (h : Int) : Int := hS6 (fun q w => fStep n k κ ν v ss sf st (q : Int) (w : Int)) k h
def fDp (n k : Nat) (κ ν π : Nat → Nat) (h : Int) : Int := hP3 (fun i => fAt n π (i : Int)) (fun i => fRound n k κ ν (i : Int)) (fun i => fAfter n k κ ν (i : Int) 7) n h
def fDr (n k : Nat) (κ ν π : Nat → Nat) (h : Int) : Int := if k = 0 then h else hF (fun w => fOdds n k κ ν π 0 1 3 (w : Int)) 2 (hF (fun w => fBring n k κ ν π 0 1 (w : Int)) 2 (hF (fun w => fRings n k κ ν (w : Int)) 4 h))
def fDigest (n k d v : Nat) (κ ν π ss sf st : Nat → Nat) (pl : Nat) (lt : Nat → Nat) (rr hc : Nat) : Int :=
  hF (fun w => fCount n k d v π pl rr hc (w : Int)) 9 (hF (fun i => ((lt i : Nat) : Int)) pl (fDr n k κ ν π (fDp n k κ ν π (fDs n k κ ν v ss sf st 1321))))
theorem sm_ct_le {π : Nat → Nat} : ∀ n, n ≤ 12 → fb_sm (fun b => fb_ct (fun a => decide (π b < π a)) b) n ≤ 12 * n
  | 0, _ => Nat.le_refl _
  | n + 1, h => by
    have h1 := sm_ct_le (π := π) n (by omega)
    have h2 := fb_ct_le (fun a => decide (π n < π a)) n
    rw [fb_sm_succ]; omega
