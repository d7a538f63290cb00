theorem fa_is {P : Nat → Bool} {n m : Nat} (h : ∀ j, j < m → P j = false) (hm : m = n ∨ (m < n ∧ P m = true)) : fa_first P n = m := by
  have h1 := fa_first_le P n
  rcases Nat.lt_trichotomy (fa_first P n) m with h2 | h2 | h2
  · have h3 : fa_first P n < n := by omega
    have h4 := fa_first_yes P n h3
    rw [h _ h2] at h4
    exact absurd h4 (by decide)
  · exact h2
  · rcases hm with h3 | ⟨h3, h4⟩
    · omega
    · have h5 := fa_first_no P n m h2
      rw [h4] at h5
      exact absurd h5 (by decide)
/-- where a card lies -/
def plo (π : Nat → Nat) (n x : Nat) : Nat := fa_first (fun j => decide (π j = x)) n % n
/-- a place by so many times a way -/
def it (φ : Nat → Nat) : Nat → Nat → Nat
  | 0, p => p
  | m + 1, p => φ (it φ m p)
theorem it_0 (φ : Nat → Nat) (p : Nat) : it φ 0 p = p := rfl
theorem it_s (φ : Nat → Nat) (m p : Nat) : it φ (m + 1) p = φ (it φ m p) := rfl
theorem it_lt {φ : Nat → Nat} {n : Nat} (hφ : ∀ j, j < n → φ j < n) : ∀ (m : Nat) {p : Nat}, p < n → it φ m p < n
  | 0, _, h => h
  | m + 1, _, h => hφ _ (it_lt hφ m h)
theorem it_add (φ : Nat → Nat) (a : Nat) : ∀ (b p : Nat), it φ (a + b) p = it φ b (it φ a p)
  | 0, p => rfl
  | b + 1, p => by rw [← Nat.add_assoc, it_s, it_s, it_add φ a b p]
/-- no two places go to one -/
def inj (φ : Nat → Nat) (n : Nat) : Prop := ∀ i j, i < j → j < n → φ i ≠ φ j
theorem inj_eq {φ : Nat → Nat} {n i j : Nat} (h : inj φ n) (hi : i < n) (hj : j < n) (e : φ i = φ j) : i = j := by
  rcases Nat.lt_trichotomy i j with h1 | h1 | h1
  · exact absurd e (h i j h1 hj)
  · exact h1
  · exact absurd e.symm (h j i h1 hi)
theorem it_back {φ : Nat → Nat} {n : Nat} (hφ : ∀ j, j < n → φ j < n) (hi : inj φ n) : ∀ (a : Nat) {p q : Nat}, p < n → q < n → it φ a p = it φ a q → p = q
  | 0, _, _, _, _, e => e
  | a + 1, p, q, hp, hq, e => it_back hφ hi a hp hq (inj_eq hi (it_lt hφ a hp) (it_lt hφ a hq) e)
theorem ring_ex {φ : Nat → Nat} {n p : Nat} (hφ : ∀ j, j < n → φ j < n) (hi : inj φ n) (hp : p < n) : ∃ m, m < n ∧ it φ (m + 1) p = p := by
  obtain ⟨i, j, hij, hj, e⟩ := fb_twice (m := n) (n := n + 1) (f := fun m => it φ m p) (fun i _ => it_lt hφ i hp) (Nat.lt_succ_self n)
  refine ⟨j - i - 1, by omega, ?_⟩
  have e1 : it φ j p = it φ i (it φ (j - i) p) := by rw [← it_add]; congr 1; omega
  have e2 : p = it φ (j - i) p := it_back hφ hi i hp (it_lt hφ _ hp) (e.trans e1)
  rw [show j - i - 1 + 1 = j - i by omega]
  exact e2.symm
/-- how long the ring of a place is -/
def rl (φ : Nat → Nat) (n p : Nat) : Nat := fa_first (fun m => decide (it φ (m + 1) p = p)) (n - 1) + 1
theorem rl_pos (φ : Nat → Nat) (n p : Nat) : 1 ≤ rl φ n p := Nat.succ_le_succ (Nat.zero_le _)
theorem rl_le {φ : Nat → Nat} {n p : Nat} (hp : p < n) : rl φ n p ≤ n := by
  have := fa_first_le (fun m => decide (it φ (m + 1) p = p)) (n - 1)
  unfold rl; omega
theorem rl_no {φ : Nat → Nat} {n p m : Nat} (h : m + 1 < rl φ n p) : it φ (m + 1) p ≠ p := by
  have h1 := fa_first_no (fun m => decide (it φ (m + 1) p = p)) (n - 1) m (by unfold rl at h; omega)
  simpa using h1
theorem rl_it {φ : Nat → Nat} {n p : Nat} (hφ : ∀ j, j < n → φ j < n) (hi : inj φ n) (hp : p < n) : it φ (rl φ n p) p = p := by
  obtain ⟨m, hm, e⟩ := ring_ex hφ hi hp
  have h0 := fa_first_le (fun m => decide (it φ (m + 1) p = p)) (n - 1)
  by_cases h1 : fa_first (fun m => decide (it φ (m + 1) p = p)) (n - 1) < n - 1
  · have h2 := fa_first_yes _ _ h1
    simpa [rl] using h2
  · have h3 : m = n - 1 := by
      apply Classical.byContradiction
      intro h4
      have h5 := fa_first_no (fun m => decide (it φ (m + 1) p = p)) (n - 1) m (by omega)
      simp [e] at h5
    have h6 : rl φ n p = m + 1 := by unfold rl; omega
    rw [h6]; exact e
theorem rl_is {φ : Nat → Nat} {n p m : Nat} (h : ∀ j, j < m → it φ (j + 1) p ≠ p) (hm : m = n - 1 ∨ (m < n - 1 ∧ it φ (m + 1) p = p)) : m + 1 = rl φ n p := by
  unfold rl
  rw [fa_is (m := m) (fun j hj => by simp [h j hj]) (by rcases hm with h1 | ⟨h1, h2⟩
                                                        · exact Or.inl h1
                                                        · exact Or.inr ⟨h1, by simp [h2]⟩)]
/-- whether a place is the least of its ring -/
def lrB (φ : Nat → Nat) (n p : Nat) : Bool := decide (∀ m, m < n → p ≤ it φ (m + 1) p)
theorem lrB_t {φ : Nat → Nat} {n p i : Nat} (h : ∀ m, m < i → p ≤ it φ (m + 1) p) (e : it φ (i + 1) p = p) : lrB φ n p = true := by
  have key : ∀ m, p ≤ it φ m p := by
    intro m
    induction m using Nat.strongRecOn with
    | _ m ih =>
      by_cases h1 : m ≤ i
      · cases m with
        | zero => exact Nat.le_refl _
        | succ m => exact h m (by omega)
      · have e2 : it φ m p = it φ (m - (i + 1)) p := by
          rw [show m = (i + 1) + (m - (i + 1)) by omega, it_add, e]; congr 1; omega
        rw [e2]; exact ih _ (by omega)
  simp only [lrB, decide_eq_true_eq]
  intro m _; exact key _
theorem lrB_f {φ : Nat → Nat} {n p i : Nat} (hi : i < n) (e : it φ (i + 1) p < p) : lrB φ n p = false := by
  simp only [lrB, decide_eq_false_iff_not]
  intro h
  have := h i hi
  omega
/-- behind how few a pack lies as before -/
def odN (φ : Nat → Nat) (n : Nat) : Nat → Nat
  | 0 => 1
  | i + 1 => Nat.lcm (odN φ n i) (rl φ n i)
theorem od_step {a b : Nat} : a / max 1 (Nat.gcd a b) * b = Nat.lcm a b ∨ Nat.gcd a b = 0 := by
  by_cases h : Nat.gcd a b = 0
  · exact Or.inr h
  · refine Or.inl ?_
    rw [show max 1 (Nat.gcd a b) = Nat.gcd a b by omega]
    unfold Nat.lcm
    exact (Nat.div_mul_right_comm (Nat.gcd_dvd_left a b) b)
theorem d27720 : ∀ x, x < 13 → 1 ≤ x → x ∣ 27720 := by decide
theorem od_dvd {φ : Nat → Nat} {n : Nat} (hn : n ≤ 12) : ∀ i, i ≤ n → odN φ n i ∣ 27720
  | 0, _ => Nat.one_dvd _
  | i + 1, h => Nat.lcm_dvd (od_dvd hn i (by omega)) (d27720 _ (by have := rl_le (φ := φ) (n := n) (p := i) (by omega); omega) (rl_pos _ _ _))
theorem od_le {φ : Nat → Nat} {n i : Nat} (hn : n ≤ 12) (h : i ≤ n) : 1 ≤ odN φ n i ∧ odN φ n i ≤ 27720 := by
  have h1 := od_dvd (φ := φ) hn i h
  exact ⟨Nat.pos_of_dvd_of_pos h1 (by decide), Nat.le_of_dvd (by decide) h1⟩
/-- the greatest of a row -/
def mx (f : Nat → Nat) : Nat → Nat
  | 0 => 0
  | i + 1 => max (mx f i) (f i)
theorem mx_le {f : Nat → Nat} {c : Nat} : ∀ {n : Nat}, (∀ i, i < n → f i ≤ c) → mx f n ≤ c
  | 0, _ => Nat.zero_le _
  | n + 1, h => Nat.max_le.mpr ⟨mx_le (fun i hi => h i (by omega)), h n (by omega)⟩
/-! what is seen -/
def agB (n kd nm : Nat) (ss sf st : Nat → Nat) (j0 : Nat) : Nat → Bool
  | 0 => true
  | v + 1 => agB n kd nm ss sf st j0 v && (ss v != j0 || mv n kd nm (sf v) == st v)
theorem agB_t {n kd nm : Nat} {ss sf st : Nat → Nat} {j0 v : Nat} (h : agB n kd nm ss sf st j0 v = true) (h2 : ss v ≠ j0 ∨ mv n kd nm (sf v) = st v) : agB n kd nm ss sf st j0 (v + 1) = true := by
  rw [agB, h]; rcases h2 with h2 | h2 <;> simp [h2]
theorem agB_f {n kd nm : Nat} {ss sf st : Nat → Nat} {j0 i : Nat} (h1 : ss i = j0) (h2 : mv n kd nm (sf i) ≠ st i) : ∀ v, i < v → agB n kd nm ss sf st j0 v = false
  | 0, h => absurd h (Nat.not_lt_zero _)
  | v + 1, h => by
    rw [agB]
    by_cases h3 : i = v
    · subst h3; simp [h1, h2]
    · rw [agB_f h1 h2 v (by omega)]; rfl
/-- bits -/
def btN (P : Nat → Bool) : Nat → Nat
  | 0 => 0
  | i + 1 => btN P i + (if P i then 2 ^ i else 0)
theorem btN_lt (P : Nat → Bool) : ∀ i, btN P i < 2 ^ i
  | 0 => Nat.zero_lt_one
  | i + 1 => by
    have h := btN_lt P i
    have h2 : 2 ^ (i + 1) = 2 * 2 ^ i := by rw [Nat.pow_succ]; omega
    rw [btN]; split <;> omega
theorem btN_t {P : Nat → Bool} {i : Nat} (h : P i = true) : btN P (i + 1) = btN P i + 2 ^ i := by rw [btN, if_pos h]
theorem btN_f {P : Nat → Bool} {i : Nat} (h : P i = false) : btN P (i + 1) = btN P i := by rw [btN, if_neg (by rw [h]; decide)]; rfl
theorem pow10 : ∀ i, i < 11 → 2 ^ i ≤ 1024 := by decide
theorem btN_10 (P : Nat → Bool) {i : Nat} (h : i ≤ 10) : btN P i < 1024 := Nat.lt_of_lt_of_le (btN_lt P i) (pow10 i (by omega))
set_option maxRecDepth 100000 in
theorem z_shl1 : ∀ i, i < 10 → zI 1 <<< (zI ((i : Nat) : Int) &&& 31) = zI ((2 ^ i : Nat) : Int) := by decide +kernel
theorem z_orb {b i : Nat} (h : b < 2 ^ i) : zI ((b : Nat) : Int) ||| zI ((2 ^ i : Nat) : Int) = zI ((b + 2 ^ i : Nat) : Int) := by
  rw [zI_nat, zI_nat, zI_nat, Int32.or_comm]
  have h2 := fa_or_sum 1 h
  rw [Nat.mul_one] at h2
  rw [h2, Nat.add_comm]
section Z4
variable {p : Program} {l : Launch} {e : Env} {R : Room} {s : State} {m : MethodId} {args : Array Value} {below : List Frame} {meth : Method} {c : Code} {H : Heap} {locs : List Loc} {cells slots : Nat} {Q : State → Prop}
variable {cc : ByteArray} {pc : Nat} {ls : Array Slot} {rest : List Value}
theorem z_ishl (hx : p.tables.exec = Jvm.exec) (hb : c.code = cc) {a b : Int} (v : Int) (hv : zI a <<< (zI b &&& 31) = zI v) (hdg : decode cc pc = .ok (.ishl, 1)) (k : W p l e R s m args below meth c H locs cells slots Q (F0 m (pc + 1) ls (.int (zI v) :: rest))) : W p l e R s m args below meth c H locs cells slots Q (F0 m pc ls (.int (zI b) :: .int (zI a) :: rest)) := by
  refine lv_ishl hx hb hdg ?_
  rw [hv]; exact k
theorem z_ishr (hx : p.tables.exec = Jvm.exec) (hb : c.code = cc) {a b : Int} (v : Int) (hv : zI a >>> (zI b &&& 31) = zI v) (hdg : decode cc pc = .ok (.ishr, 1)) (k : W p l e R s m args below meth c H locs cells slots Q (F0 m (pc + 1) ls (.int (zI v) :: rest))) : W p l e R s m args below meth c H locs cells slots Q (F0 m pc ls (.int (zI b) :: .int (zI a) :: rest)) := by
  refine lv_ishr hx hb hdg ?_
  rw [hv]; exact k
theorem z_ior (hx : p.tables.exec = Jvm.exec) (hb : c.code = cc) {a b : Int} (v : Int) (hv : zI a ||| zI b = zI v) (hdg : decode cc pc = .ok (.ior, 1)) (k : W p l e R s m args below meth c H locs cells slots Q (F0 m (pc + 1) ls (.int (zI v) :: rest))) : W p l e R s m args below meth c H locs cells slots Q (F0 m pc ls (.int (zI b) :: .int (zI a) :: rest)) := by
  refine lv_ior hx hb hdg ?_
  rw [hv]; exact k
theorem z_iand (hx : p.tables.exec = Jvm.exec) (hb : c.code = cc) {a b : Int} (v : Int) (hv : zI a &&& zI b = zI v) (hdg : decode cc pc = .ok (.iand, 1)) (k : W p l e R s m args below meth c H locs cells slots Q (F0 m (pc + 1) ls (.int (zI v) :: rest))) : W p l e R s m args below meth c H locs cells slots Q (F0 m pc ls (.int (zI b) :: .int (zI a) :: rest)) := by
  refine lv_iand hx hb hdg ?_
  rw [hv]; exact k
end Z4
