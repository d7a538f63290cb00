theorem zL_nat (n : Nat) : zL (n : Int) = lN n := by first | rfl | (show Int64.ofInt (n : Int) = Int64.ofNat n; simp) | exact Int64.ofInt_eq_ofNat
theorem zL_2i (n : Nat) : (zL (n : Int)).toInt32 = zI (n : Int) := by rw [zL_nat, zI_nat]; exact lN_i n
section Z5
variable {p : Program} {l : Launch} {e : Env} {R : Room} {s : State} {m : MethodId} {args : Array Value} {below : List Frame} {meth : Method} {c : Code} {H : Heap} {locs : List Loc} {cells slots : Nat} {Q : State → Prop}
variable {cc : ByteArray} {pc : Nat} {ls : Array Slot} {rest : List Value}
theorem zL_ne0 {b : Nat} (hb : 0 < b ∧ b < 9223372036854775808) : ¬ zL (b : Int) = 0 := by
  intro h
  have h2 := (zL_eq (a := (b : Int)) (b := 0) (by omega) (by omega)).mp h
  omega
theorem z_ldiv (hx : p.tables.exec = Jvm.exec) (hb : c.code = cc) {x y : Int} (a b : Nat) (hxa : x = (a : Int)) (hyb : y = (b : Int)) (hr : a < 9223372036854775808 ∧ (0 < b ∧ b < 9223372036854775808)) (hdg : decode cc pc = .ok (.ldiv, 1)) (k : W p l e R s m args below meth c H locs cells slots Q (F0 m (pc + 1) ls (.long (zL ((a / b : Nat) : Int)) :: rest))) : W p l e R s m args below meth c H locs cells slots Q (F0 m pc ls (.long (zL y) :: .long (zL x) :: rest)) := by
  subst hxa; subst hyb
  refine lv_ldiv hx hb hdg (zL_ne0 hr.2) ?_
  rw [zL_nat, zL_nat, pk_lDiv (by omega) hr.2.1 (by omega), ← zL_nat]; exact k
theorem z_lrem (hx : p.tables.exec = Jvm.exec) (hb : c.code = cc) {x y : Int} (a b : Nat) (hxa : x = (a : Int)) (hyb : y = (b : Int)) (hr : a < 9223372036854775808 ∧ (0 < b ∧ b < 9223372036854775808)) (hdg : decode cc pc = .ok (.lrem, 1)) (k : W p l e R s m args below meth c H locs cells slots Q (F0 m (pc + 1) ls (.long (zL ((a % b : Nat) : Int)) :: rest))) : W p l e R s m args below meth c H locs cells slots Q (F0 m pc ls (.long (zL y) :: .long (zL x) :: rest)) := by
  subst hxa; subst hyb
  refine lv_lrem hx hb hdg (zL_ne0 hr.2) ?_
  rw [zL_nat, zL_nat, pk_lRem (by omega) hr.2.1 (by omega), ← zL_nat]; exact k
theorem z_l2i (hx : p.tables.exec = Jvm.exec) (hb : c.code = cc) {x : Int} (a : Nat) (hxa : x = (a : Int)) (hdg : decode cc pc = .ok (.l2i, 1)) (k : W p l e R s m args below meth c H locs cells slots Q (F0 m (pc + 1) ls (.int (zI (a : Int)) :: rest))) : W p l e R s m args below meth c H locs cells slots Q (F0 m pc ls (.long (zL x) :: rest)) := by
  subst hxa
  exact lv_l2i hx hb hdg (zL_2i a) k
end Z5
theorem zI_shr {b i : Nat} (hb : b < 1024) (hi : i < 10) : zI ((b : Nat) : Int) >>> (zI ((i : Nat) : Int) &&& 31) = zI ((b / 2 ^ i : Nat) : Int) := by
  rw [zI_nat, zI_nat, zI_nat]
  have hs : ∀ i, i < 10 → ((nI i &&& 31).toBitVec.smod 32).toNat = i := by decide +kernel
  exact pk_shrN (by omega) _ i (hs i hi)
theorem zI_and1 {b : Nat} (hb : b < 2147483648) : zI ((b : Nat) : Int) &&& zI 1 = zI ((b % 2 : Nat) : Int) := by
  rw [zI_nat, zI_nat]
  exact pk_andN (by omega) 1 (by decide)
theorem btN_bit {P : Nat → Bool} : ∀ {m i : Nat}, i < m → btN P m / 2 ^ i % 2 = if P i then 1 else 0
  | 0, i, h => absurd h (Nat.not_lt_zero _)
  | m + 1, i, h => by
    have hp : 0 < 2 ^ i := Nat.pos_of_ne_zero (by simp)
    by_cases h1 : i = m
    · subst h1
      have h2 := btN_lt P i
      rw [btN]
      split
      · rw [Nat.add_div_right _ hp, Nat.div_eq_of_lt h2]
      · rw [Nat.add_zero, Nat.div_eq_of_lt h2]
    · rw [btN]
      split
      · have e : 2 ^ m = 2 ^ i * (2 * 2 ^ (m - i - 1)) := by
          rw [← Nat.mul_assoc, Nat.mul_comm (2 ^ i) 2, Nat.mul_assoc, ← Nat.pow_add, show i + (m - i - 1) = m - 1 by omega]
          rw [show m = (m - 1) + 1 by omega, Nat.pow_succ, Nat.mul_comm]; simp
        rw [e, Nat.add_mul_div_left _ _ hp, Nat.add_mul_mod_self_left]
        exact btN_bit (by omega)
      · rw [Nat.add_zero]; exact btN_bit (by omega)
/-! all steps, one behind the other -/
def rdc (μ : Nat → Nat → Nat) : Nat → Nat → Nat
  | 0, i => i
  | q + 1, i => μ q (rdc μ q i)
theorem rdc_lt {μ : Nat → Nat → Nat} {n k : Nat} (hμ : ∀ a i, a < k → i < n → μ a i < n) : ∀ {q i : Nat}, q ≤ k → i < n → rdc μ q i < n
  | 0, _, _, h => h
  | q + 1, i, h1, h => hμ q _ (by omega) (rdc_lt hμ (by omega) h)
/-! watching -/
def lwc (n kd : Nat) (P : Nat → Bool) (p0 m q : Nat) : Nat := fb_ct (fun nm => P nm && decide (mv n kd nm p0 = q)) m
def lw (n kd : Nat) (P : Nat → Bool) (p0 : Nat) : Nat := mx (lwc n kd P p0 10) n
theorem lwc_f {n kd p0 m q : Nat} {P : Nat → Bool} (h : P m = false ∨ mv n kd m p0 ≠ q) : lwc n kd P p0 (m + 1) q = lwc n kd P p0 m q := by
  unfold lwc; rw [ct_f]; rcases h with h | h <;> simp [h]
theorem lwc_t {n kd p0 m q : Nat} {P : Nat → Bool} (h : P m = true) (h2 : mv n kd m p0 = q) : lwc n kd P p0 (m + 1) q = lwc n kd P p0 m q + 1 := by
  unfold lwc; rw [ct_t]; simp [h, h2]
theorem lwc_le (n kd : Nat) (P : Nat → Bool) (p0 m q : Nat) : lwc n kd P p0 m q ≤ m := fb_ct_le _ _
theorem mx_cong {f g : Nat → Nat} : ∀ {n : Nat}, (∀ i, i < n → f i = g i) → mx f n = mx g n
  | 0, _ => rfl
  | n + 1, h => by rw [mx, mx, mx_cong (fun i hi => h i (by omega)), h n (by omega)]
theorem mx_up {f g : Nat → Nat} {t : Nat} : ∀ {n : Nat}, t < n → (∀ i, i < n → i ≠ t → g i = f i) → f t ≤ g t → mx g n = max (mx f n) (g t)
  | 0, h, _, _ => absurd h (Nat.not_lt_zero _)
  | n + 1, h, he, hl => by
    rw [mx, mx]
    by_cases h1 : t = n
    · subst h1
      rw [mx_cong (f := g) (g := f) (fun i hi => he i (by omega) (by omega))]
      omega
    · rw [mx_up (n := n) (by omega) (fun i hi => he i (by omega)) hl, he n (by omega) (by omega)]
      omega
theorem mx_0 : ∀ n, mx (fun _ => 0) n = 0
  | 0 => rfl
  | n + 1 => by rw [mx, mx_0 n]; rfl
def wfN (f : Nat → Nat) : Nat → Nat
  | 0 => 11
  | i + 1 => if f i < wfN f i then f i else wfN f i
def wbN (f : Nat → Nat) : Nat → Nat
  | 0 => 0
  | i + 1 => if f i < wfN f i then i else wbN f i
theorem wfN_le (f : Nat → Nat) : ∀ i, wfN f i ≤ 11
  | 0 => Nat.le_refl _
  | i + 1 => by have := wfN_le f i; rw [wfN]; split <;> omega
/-! by how few steps -/
def fsI (P : Nat → Bool) (k : Nat) : Int := if fa_first P k < k then ((fa_first P k : Nat) : Int) else -1
theorem fsI_r (P : Nat → Bool) {k : Nat} (hk : k ≤ 6) : -1 ≤ fsI P k ∧ fsI P k < 6 := by unfold fsI; split <;> omega
theorem fsI_no {P : Nat → Bool} {k : Nat} (h : fsI P k = -1) : ∀ a, a < k → P a = false := by
  intro a ha
  unfold fsI at h
  split at h
  · omega
  · exact fa_first_no P k a (by omega)
theorem fsI_yes {P : Nat → Bool} {k : Nat} (h : fsI P k ≠ -1) : ∃ a, a < k ∧ P a = true := by
  unfold fsI at h
  split at h
  · exact ⟨_, by assumption, fa_first_yes P k (by assumption)⟩
  · exact absurd rfl h
theorem fsI_cong {P Q : Nat → Bool} {k : Nat} (h : ∀ a, a < k → P a = Q a) : fsI P k = fsI Q k := by
  have e : fa_first P k = fa_first Q k := by
    have h1 := fa_first_le Q k
    refine fa_is (fun a ha => ?_) ?_
    · rw [h a (by omega)]; exact fa_first_no Q k a ha
    · rcases Nat.lt_or_ge (fa_first Q k) k with h2 | h2
      · exact Or.inr ⟨h2, by rw [h _ h2]; exact fa_first_yes Q k h2⟩
      · exact Or.inl (by omega)
  unfold fsI; rw [e]
def dT (μ : Nat → Nat → Nat) (k g0 : Nat) : Nat → Nat → Int
  | 0, q => if q = g0 then 0 else -1
  | d + 1, q => if dT μ k g0 d q = -1 ∧ fsI (fun a => decide (dT μ k g0 d (μ a q) = (d : Int))) k ≠ -1 then (d : Int) + 1 else dT μ k g0 d q
theorem dT_r (μ : Nat → Nat → Nat) (k g0 : Nat) : ∀ d q, -1 ≤ dT μ k g0 d q ∧ dT μ k g0 d q ≤ (d : Int)
  | 0, q => by rw [dT]; split <;> omega
  | d + 1, q => by have := dT_r μ k g0 d q; rw [dT]; split <;> omega
theorem dT_t {μ : Nat → Nat → Nat} {k g0 d q : Nat} (h1 : dT μ k g0 d q = -1) (h2 : fsI (fun a => decide (dT μ k g0 d (μ a q) = (d : Int))) k ≠ -1) : dT μ k g0 (d + 1) q = (d : Int) + 1 := by rw [dT, if_pos ⟨h1, h2⟩]
theorem dT_f {μ : Nat → Nat → Nat} {k g0 d q : Nat} (h : dT μ k g0 d q ≠ -1 ∨ fsI (fun a => decide (dT μ k g0 d (μ a q) = (d : Int))) k = -1) : dT μ k g0 (d + 1) q = dT μ k g0 d q := by
  rw [dT, if_neg (fun h2 => by rcases h with h | h; exact h h2.1; exact h2.2 h)]
theorem dT_same (μ : Nat → Nat → Nat) (k g0 d q : Nat) : dT μ k g0 (d + 1) q = (d : Int) ↔ dT μ k g0 d q = (d : Int) := by
  rw [dT]
  constructor
  · intro h; split at h
    · omega
    · exact h
  · intro h; rw [if_neg (fun h2 => by omega)]; exact h
/-! home -/
def pth (μ : Nat → Nat → Nat) (δ : Nat → Nat) : Nat → Nat → Nat
  | 0, i => i
  | q + 1, i => μ (δ q) (pth μ δ q i)
theorem pth_lt {μ : Nat → Nat → Nat} {δ : Nat → Nat} {n k : Nat} (hμ : ∀ a i, a < k → i < n → μ a i < n) : ∀ {q i : Nat}, (∀ a, a < q → δ a < k) → i < n → pth μ δ q i < n
  | 0, _, _, h => h
  | q + 1, i, h1, h => hμ _ _ (h1 q (by omega)) (pth_lt hμ (fun a ha => h1 a (by omega)) h)
def homB (μ : Nat → Nat → Nat) (δ π : Nat → Nat) (L n : Nat) : Bool := decide (∀ i, i < n → pth μ δ L i = π i)
def dg (k L no i : Nat) : Nat := no / k ^ (L - 1 - i) % k
def nup (g : Nat → Nat) (q v : Nat) : Nat → Nat := fun i => if i = q then v else g i
def nx (k : Nat) : (Nat → Nat) → Nat → (Nat → Nat)
  | δ, 0 => δ
  | δ, i + 1 => if δ i + 1 < k then nup δ i (δ i + 1) else nx k (nup δ i 0) i
theorem nx_t {k i : Nat} {δ : Nat → Nat} (h : δ i + 1 < k) : nx k δ (i + 1) = nup δ i (δ i + 1) := by rw [nx, if_pos h]
theorem nx_f {k i : Nat} {δ : Nat → Nat} (h : k ≤ δ i + 1) : nx k δ (i + 1) = nx k (nup δ i 0) i := by rw [nx, if_neg (by omega)]
def dgs (δ : Nat → Nat) : Nat → Nat
  | 0 => 0
  | i + 1 => 10 * dgs δ i + δ i + 1
set_option maxRecDepth 100000 in
theorem nx_dg' : ∀ k, k < 7 → ∀ L, L < 5 → ∀ no, no < k ^ L → ∀ i, i < L → nx k (dg k L no) L i = dg k L (no + 1) i := by decide +kernel
theorem dg_lt {k L no i : Nat} (hk : 0 < k) : dg k L no i < k := Nat.mod_lt _ hk
theorem nx_cong {k : Nat} : ∀ {L : Nat} {δ ε : Nat → Nat} {M : Nat}, L ≤ M → (∀ i, i < M → δ i = ε i) → ∀ i, i < M → nx k δ L i = nx k ε L i
  | 0, _, _, _, _, h, i, hi => h i hi
  | L + 1, δ, ε, M, hM, h, i, hi => by
    have e := h L (by omega)
    by_cases h1 : δ L + 1 < k
    · rw [nx_t h1, nx_t (by omega)]
      unfold nup
      split
      · rw [e]
      · exact h i hi
    · rw [nx_f (by omega), nx_f (by omega)]
      refine nx_cong (by omega) (fun a ha => ?_) i hi
      unfold nup
      split
      · rfl
      · exact h a ha
set_option maxRecDepth 100000 in
theorem pw_le' : ∀ k, k < 7 → ∀ L, L < 5 → k ^ L ≤ 1296 := by decide +kernel
theorem pw_le {k L : Nat} (hk : k ≤ 6) (hL : L ≤ 4) : k ^ L ≤ 1296 := pw_le' k (by omega) L (by omega)
/-! odds -/
def ac (μ : Nat → Nat → Nat) (k : Nat) (w : Nat → Nat) (q : Nat) : Nat → Nat
  | 0 => 0
  | t + 1 => ac μ k w q t + (if μ (t % k) (t / k) = q then w (t / k) else 0)
def wy (μ : Nat → Nat → Nat) (n k p0 : Nat) : Nat → Nat → Nat
  | 0, q => if q = p0 then 1 else 0
  | m + 1, q => ac μ k (wy μ n k p0 m) q (n * k)
theorem ac_at {μ : Nat → Nat → Nat} {k : Nat} {w : Nat → Nat} {q i a : Nat} (ha : a < k) : ac μ k w q (i * k + (a + 1)) = ac μ k w q (i * k + a) + (if μ a i = q then w i else 0) := by
  rw [← Nat.add_assoc, ac]
  have e1 : (i * k + a) % k = a := by rw [Nat.mul_comm, Nat.mul_add_mod]; exact Nat.mod_eq_of_lt ha
  have e2 : (i * k + a) / k = i := by rw [Nat.mul_comm, Nat.mul_add_div (by omega), Nat.div_eq_of_lt ha]; rfl
  rw [e1, e2]
/-! draws -/
def sdN (s0 : Nat) : Nat → Nat
  | 0 => s0
  | m + 1 => (1103515245 * sdN s0 m + 12345) % 2147483648
theorem sdN_lt {s0 : Nat} (h : s0 < 2147483648) : ∀ m, sdN s0 m < 2147483648
  | 0 => h
  | m + 1 => Nat.mod_lt _ (by decide)
def wq (μ : Nat → Nat → Nat) (k s0 : Nat) : Nat → Nat → Nat
  | 0, i => i
  | m + 1, i => μ (sdN s0 (m + 1) / 65536 % k) (wq μ k s0 m i)
