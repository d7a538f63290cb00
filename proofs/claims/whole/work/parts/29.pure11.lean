section Z6
variable {p : Program} {l : Launch} {e : Env} {R : Room} {s : State} {m : MethodId} {args : Array Value} {below : List Frame} {meth : Method} {c : Code} {H : Heap} {locs : List Loc} {cells slots : Nat} {Q : State → Prop}
variable {cc : ByteArray} {pc : Nat} {ls : Array Slot} {rest : List Value}
theorem z_land (hx : p.tables.exec = Jvm.exec) (hb : c.code = cc) {x y : Int} (a : Nat) (hxa : x = (a : Int)) (hy : y = 2147483647) (hdg : decode cc pc = .ok (.land, 1)) (k : W p l e R s m args below meth c H locs cells slots Q (F0 m (pc + 1) ls (.long (zL ((a % 2147483648 : Nat) : Int)) :: rest))) : W p l e R s m args below meth c H locs cells slots Q (F0 m pc ls (.long (zL y) :: .long (zL x) :: rest)) := by
  subst hxa; subst hy
  refine lv_land hx hb hdg ?_
  have h := fb_maskL a 31
  have e1 : zL (2147483647 : Int) = lN (2 ^ 31 - 1) := by decide
  rw [zL_nat, e1, h, ← zL_nat]
  exact k
end Z6
theorem homB_ct {μ : Nat → Nat → Nat} {δ π : Nat → Nat} {L n : Nat} (hφ : ∀ j, j < n → pth μ δ L j < n) (hi : inj (pth μ δ L) n) : fb_ct (fun q => decide (pa (pth μ δ L) n π q = q)) n = n ↔ homB μ δ π L n = true := by
  rw [ct_pa hφ hi, fb_ct_all, homB]
  simp only [decide_eq_true_eq]
  exact ⟨fun h i hi => (h i hi).symm, fun h i hi => (h i hi).symm⟩
theorem pth_inj {μ : Nat → Nat → Nat} {δ : Nat → Nat} {n k : Nat} (hμ : ∀ a i, a < k → i < n → μ a i < n) (hi : ∀ a, a < k → inj (μ a) n) : ∀ {q : Nat}, (∀ a, a < q → δ a < k) → inj (pth μ δ q) n
  | 0, _ => fun _ _ hij _ e => by simp [pth] at e; omega
  | q + 1, h => fun a b hab hb e => pth_inj hμ hi (q := q) (fun a ha => h a (by omega)) a b hab hb (inj_eq (hi _ (h q (by omega))) (pth_lt hμ (fun a ha => h a (by omega)) (by omega)) (pth_lt hμ (fun a ha => h a (by omega)) hb) e)
theorem pa_0 {π : Nat → Nat} {n : Nat} {f : Nat → Nat} (hf : ∀ j, j < n → f j = j) : ∀ j, j < n → pa f n π j = π j := by
  intro j hj
  unfold pa
  rw [fa_is (m := j) (fun a ha => by simp [hf a (by omega)]; omega) (Or.inr ⟨hj, by simp [hf j hj]⟩)]
theorem cr_flat (π : Nat → Nat) (n : Nat) (hn : 0 < n) : fb_sm (fun t => if t / n < t % n ∧ π (t % n) < π (t / n) then 1 else 0) (n * n) = fb_sm (fun b => fb_ct (fun a => decide (π b < π a)) b) n := by
  rw [← crossed_eq]
  exact sm_grid (fun a b => if a < b ∧ π b < π a then 1 else 0) hn n
theorem div_lt_of {t n k : Nat} (h : t < n * k) : t / k < n := Nat.div_lt_of_lt_mul (by rw [Nat.mul_comm]; exact h)
