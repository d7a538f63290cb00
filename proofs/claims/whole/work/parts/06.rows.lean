section Z2
variable {p : Program} {l : Launch} {e : Env} {R : Room} {s : State} {m : MethodId} {args : Array Value} {below : List Frame} {meth : Method} {c : Code} {H : Heap} {locs : List Loc} {cells slots : Nat} {Q : State → Prop}
variable {cc : ByteArray} {pc : Nat} {ls : Array Slot} {rest : List Value} {D : va_G} {cI : ClassId} {nL : Nat} {own : String} {ret : Option FieldType}
theorem z_icmp_eq (hx : p.tables.exec = Jvm.exec) (hb : c.code = cc) {a b : Int} {off : Int} {tgt : Nat} (hr : (-2147483648 ≤ a ∧ a < 2147483648) ∧ (-2147483648 ≤ b ∧ b < 2147483648)) (hdg : decode cc pc = .ok (.if_icmp .eq off, 3)) (ht : (pc : Int) + off = (tgt : Int)) (kt : a = b → W p l e R s m args below meth c H locs cells slots Q (F0 m tgt ls rest)) (kf : a ≠ b → W p l e R s m args below meth c H locs cells slots Q (F0 m (pc + 3) ls rest)) : W p l e R s m args below meth c H locs cells slots Q (F0 m pc ls (.int (zI b) :: .int (zI a) :: rest)) :=
  lv_icmp_eq hx hb hdg ht (fun h => kt ((zI_eq hr.1 hr.2).mp h)) (fun h => kf (fun h2 => h (by rw [h2])))
theorem z_if_eq (hx : p.tables.exec = Jvm.exec) (hb : c.code = cc) {a : Int} {off : Int} {tgt : Nat} (hr : -2147483648 ≤ a ∧ a < 2147483648) (hdg : decode cc pc = .ok (.ifCond .eq off, 3)) (ht : (pc : Int) + off = (tgt : Int)) (kt : a = 0 → W p l e R s m args below meth c H locs cells slots Q (F0 m tgt ls rest)) (kf : a ≠ 0 → W p l e R s m args below meth c H locs cells slots Q (F0 m (pc + 3) ls rest)) : W p l e R s m args below meth c H locs cells slots Q (F0 m pc ls (.int (zI a) :: rest)) := by
  have z0r : (-2147483648 : Int) ≤ 0 ∧ (0 : Int) < 2147483648 := by omega
  have e0 : (0 : Int32) = zI 0 := rfl
  refine lv_if_eq hx hb hdg ht (fun h => ?_) (fun h => ?_) <;> rw [e0] at h
  · exact kt ((zI_eq hr z0r).mp h)
  · exact kf (fun h2 => h (by rw [h2]))
theorem z_icmp_ne (hx : p.tables.exec = Jvm.exec) (hb : c.code = cc) {a b : Int} {off : Int} {tgt : Nat} (hr : (-2147483648 ≤ a ∧ a < 2147483648) ∧ (-2147483648 ≤ b ∧ b < 2147483648)) (hdg : decode cc pc = .ok (.if_icmp .ne off, 3)) (ht : (pc : Int) + off = (tgt : Int)) (kt : a ≠ b → W p l e R s m args below meth c H locs cells slots Q (F0 m tgt ls rest)) (kf : a = b → W p l e R s m args below meth c H locs cells slots Q (F0 m (pc + 3) ls rest)) : W p l e R s m args below meth c H locs cells slots Q (F0 m pc ls (.int (zI b) :: .int (zI a) :: rest)) :=
  lv_icmp_ne hx hb hdg ht (fun h => kt (fun h2 => h (by rw [h2]))) (fun h => kf ((zI_eq hr.1 hr.2).mp h))
theorem z_if_ne (hx : p.tables.exec = Jvm.exec) (hb : c.code = cc) {a : Int} {off : Int} {tgt : Nat} (hr : -2147483648 ≤ a ∧ a < 2147483648) (hdg : decode cc pc = .ok (.ifCond .ne off, 3)) (ht : (pc : Int) + off = (tgt : Int)) (kt : a ≠ 0 → W p l e R s m args below meth c H locs cells slots Q (F0 m tgt ls rest)) (kf : a = 0 → W p l e R s m args below meth c H locs cells slots Q (F0 m (pc + 3) ls rest)) : W p l e R s m args below meth c H locs cells slots Q (F0 m pc ls (.int (zI a) :: rest)) := by
  have z0r : (-2147483648 : Int) ≤ 0 ∧ (0 : Int) < 2147483648 := by omega
  have e0 : (0 : Int32) = zI 0 := rfl
  refine lv_if_ne hx hb hdg ht (fun h => ?_) (fun h => ?_) <;> rw [e0] at h
  · exact kt (fun h2 => h (by rw [h2]))
  · exact kf ((zI_eq hr z0r).mp h)
theorem z_icmp_lt (hx : p.tables.exec = Jvm.exec) (hb : c.code = cc) {a b : Int} {off : Int} {tgt : Nat} (hr : (-2147483648 ≤ a ∧ a < 2147483648) ∧ (-2147483648 ≤ b ∧ b < 2147483648)) (hdg : decode cc pc = .ok (.if_icmp .lt off, 3)) (ht : (pc : Int) + off = (tgt : Int)) (kt : a < b → W p l e R s m args below meth c H locs cells slots Q (F0 m tgt ls rest)) (kf : b ≤ a → W p l e R s m args below meth c H locs cells slots Q (F0 m (pc + 3) ls rest)) : W p l e R s m args below meth c H locs cells slots Q (F0 m pc ls (.int (zI b) :: .int (zI a) :: rest)) :=
  lv_icmp_lt hx hb hdg ht (fun h => kt ((zI_lt hr.1 hr.2).mp h)) (fun h => kf (Int.not_lt.mp (fun h2 => h ((zI_lt hr.1 hr.2).mpr h2))))
theorem z_if_lt (hx : p.tables.exec = Jvm.exec) (hb : c.code = cc) {a : Int} {off : Int} {tgt : Nat} (hr : -2147483648 ≤ a ∧ a < 2147483648) (hdg : decode cc pc = .ok (.ifCond .lt off, 3)) (ht : (pc : Int) + off = (tgt : Int)) (kt : a < 0 → W p l e R s m args below meth c H locs cells slots Q (F0 m tgt ls rest)) (kf : 0 ≤ a → W p l e R s m args below meth c H locs cells slots Q (F0 m (pc + 3) ls rest)) : W p l e R s m args below meth c H locs cells slots Q (F0 m pc ls (.int (zI a) :: rest)) := by
  have z0r : (-2147483648 : Int) ≤ 0 ∧ (0 : Int) < 2147483648 := by omega
  have e0 : (0 : Int32) = zI 0 := rfl
  refine lv_if_lt hx hb hdg ht (fun h => ?_) (fun h => ?_) <;> rw [e0] at h
  · exact kt ((zI_lt hr z0r).mp h)
  · exact kf (Int.not_lt.mp (fun h2 => h ((zI_lt hr z0r).mpr h2)))
theorem z_icmp_ge (hx : p.tables.exec = Jvm.exec) (hb : c.code = cc) {a b : Int} {off : Int} {tgt : Nat} (hr : (-2147483648 ≤ a ∧ a < 2147483648) ∧ (-2147483648 ≤ b ∧ b < 2147483648)) (hdg : decode cc pc = .ok (.if_icmp .ge off, 3)) (ht : (pc : Int) + off = (tgt : Int)) (kt : b ≤ a → W p l e R s m args below meth c H locs cells slots Q (F0 m tgt ls rest)) (kf : a < b → W p l e R s m args below meth c H locs cells slots Q (F0 m (pc + 3) ls rest)) : W p l e R s m args below meth c H locs cells slots Q (F0 m pc ls (.int (zI b) :: .int (zI a) :: rest)) :=
  lv_icmp_ge hx hb hdg ht (fun h => kt ((zI_le hr.2 hr.1).mp h)) (fun h => kf (Int.not_le.mp (fun h2 => h ((zI_le hr.2 hr.1).mpr h2))))
theorem z_if_ge (hx : p.tables.exec = Jvm.exec) (hb : c.code = cc) {a : Int} {off : Int} {tgt : Nat} (hr : -2147483648 ≤ a ∧ a < 2147483648) (hdg : decode cc pc = .ok (.ifCond .ge off, 3)) (ht : (pc : Int) + off = (tgt : Int)) (kt : 0 ≤ a → W p l e R s m args below meth c H locs cells slots Q (F0 m tgt ls rest)) (kf : a < 0 → W p l e R s m args below meth c H locs cells slots Q (F0 m (pc + 3) ls rest)) : W p l e R s m args below meth c H locs cells slots Q (F0 m pc ls (.int (zI a) :: rest)) := by
  have z0r : (-2147483648 : Int) ≤ 0 ∧ (0 : Int) < 2147483648 := by omega
  have e0 : (0 : Int32) = zI 0 := rfl
  refine lv_if_ge hx hb hdg ht (fun h => ?_) (fun h => ?_) <;> rw [e0] at h
  · exact kt ((zI_le z0r hr).mp h)
  · exact kf (Int.not_le.mp (fun h2 => h ((zI_le z0r hr).mpr h2)))
theorem z_icmp_gt (hx : p.tables.exec = Jvm.exec) (hb : c.code = cc) {a b : Int} {off : Int} {tgt : Nat} (hr : (-2147483648 ≤ a ∧ a < 2147483648) ∧ (-2147483648 ≤ b ∧ b < 2147483648)) (hdg : decode cc pc = .ok (.if_icmp .gt off, 3)) (ht : (pc : Int) + off = (tgt : Int)) (kt : b < a → W p l e R s m args below meth c H locs cells slots Q (F0 m tgt ls rest)) (kf : a ≤ b → W p l e R s m args below meth c H locs cells slots Q (F0 m (pc + 3) ls rest)) : W p l e R s m args below meth c H locs cells slots Q (F0 m pc ls (.int (zI b) :: .int (zI a) :: rest)) :=
  lv_icmp_gt hx hb hdg ht (fun h => kt ((zI_lt hr.2 hr.1).mp h)) (fun h => kf (Int.not_lt.mp (fun h2 => h ((zI_lt hr.2 hr.1).mpr h2))))
theorem z_if_gt (hx : p.tables.exec = Jvm.exec) (hb : c.code = cc) {a : Int} {off : Int} {tgt : Nat} (hr : -2147483648 ≤ a ∧ a < 2147483648) (hdg : decode cc pc = .ok (.ifCond .gt off, 3)) (ht : (pc : Int) + off = (tgt : Int)) (kt : 0 < a → W p l e R s m args below meth c H locs cells slots Q (F0 m tgt ls rest)) (kf : a ≤ 0 → W p l e R s m args below meth c H locs cells slots Q (F0 m (pc + 3) ls rest)) : W p l e R s m args below meth c H locs cells slots Q (F0 m pc ls (.int (zI a) :: rest)) := by
  have z0r : (-2147483648 : Int) ≤ 0 ∧ (0 : Int) < 2147483648 := by omega
  have e0 : (0 : Int32) = zI 0 := rfl
  refine lv_if_gt hx hb hdg ht (fun h => ?_) (fun h => ?_) <;> rw [e0] at h
  · exact kt ((zI_lt z0r hr).mp h)
  · exact kf (Int.not_lt.mp (fun h2 => h ((zI_lt z0r hr).mpr h2)))
theorem z_icmp_le (hx : p.tables.exec = Jvm.exec) (hb : c.code = cc) {a b : Int} {off : Int} {tgt : Nat} (hr : (-2147483648 ≤ a ∧ a < 2147483648) ∧ (-2147483648 ≤ b ∧ b < 2147483648)) (hdg : decode cc pc = .ok (.if_icmp .le off, 3)) (ht : (pc : Int) + off = (tgt : Int)) (kt : a ≤ b → W p l e R s m args below meth c H locs cells slots Q (F0 m tgt ls rest)) (kf : b < a → W p l e R s m args below meth c H locs cells slots Q (F0 m (pc + 3) ls rest)) : W p l e R s m args below meth c H locs cells slots Q (F0 m pc ls (.int (zI b) :: .int (zI a) :: rest)) :=
  lv_icmp_le hx hb hdg ht (fun h => kt ((zI_le hr.1 hr.2).mp h)) (fun h => kf (Int.not_le.mp (fun h2 => h ((zI_le hr.1 hr.2).mpr h2))))
theorem z_if_le (hx : p.tables.exec = Jvm.exec) (hb : c.code = cc) {a : Int} {off : Int} {tgt : Nat} (hr : -2147483648 ≤ a ∧ a < 2147483648) (hdg : decode cc pc = .ok (.ifCond .le off, 3)) (ht : (pc : Int) + off = (tgt : Int)) (kt : a ≤ 0 → W p l e R s m args below meth c H locs cells slots Q (F0 m tgt ls rest)) (kf : 0 < a → W p l e R s m args below meth c H locs cells slots Q (F0 m (pc + 3) ls rest)) : W p l e R s m args below meth c H locs cells slots Q (F0 m pc ls (.int (zI a) :: rest)) := by
  have z0r : (-2147483648 : Int) ≤ 0 ∧ (0 : Int) < 2147483648 := by omega
  have e0 : (0 : Int32) = zI 0 := rfl
  refine lv_if_le hx hb hdg ht (fun h => ?_) (fun h => ?_) <;> rw [e0] at h
  · exact kt ((zI_le hr z0r).mp h)
  · exact kf (Int.not_le.mp (fun h2 => h ((zI_le hr z0r).mpr h2)))
/-! arrays -/
theorem z_iald (hx : p.tables.exec = Jvm.exec) (hb : c.code = cc) (hE : zE D cI s) {ws : va_W} (hP : va_P D cls ws H) (q0 : Nat) {a n : Nat} {g : Nat → Int} (ha : ws[q0]? = some (a, .inl (cI, n, .inl (zA g)))) {z : Int} (i : Nat) (hz : z = (i : Int)) (hi : i < n) (hn : n < 2147483648) (v : Int) (hv : g i = v) (hdg : decode cc pc = .ok (.iaload, 1))
    (k : W p l e R s m args below meth c H locs cells slots Q (F0 m (pc + 1) ls (.int (zI v) :: rest))) : W p l e R s m args below meth c H locs cells slots Q (F0 m pc ls (.int (zI z) :: .ref a :: rest)) := by
  subst hz
  refine va_iald hx hb hE.1 hP q0 0 ha rfl (zI_in hi hn) hdg ?_
  rw [zI_clamp (by omega)]
  show W p l e R s m args below meth c H locs cells slots Q (F0 m (pc + 1) ls (.int (zI (g i)) :: rest))
  rw [hv]; exact k
theorem z_iast (hx : p.tables.exec = Jvm.exec) (hb : c.code = cc) (hE : zE D cI s) {ws : va_W} {A : Nat → Prop} {H0 : Heap} (hP : va_P D cls ws H) (hD : va_D A ws) (hS : va_S A H0 H locs) (q0 : Nat) {a n : Nat} {g : Nat → Int} (ha : ws[q0]? = some (a, .inl (cI, n, .inl (zA g)))) {z v : Int} (i : Nat) (hz : z = (i : Int)) (hi : i < n) (hn : n < 2147483648) (g' : Nat → Int) (hg : zup g i v = g') (hdg : decode cc pc = .ok (.iastore, 1))
    (kk : ∀ (H1 : Heap) (locs1 : List Loc), va_P D cls (ws.set q0 (a, .inl (cI, n, .inl (zA g')))) H1 → va_D A (ws.set q0 (a, .inl (cI, n, .inl (zA g')))) → va_S A H0 H1 locs1 → W p l e R s m args below meth c H1 locs1 cells slots Q (F0 m (pc + 1) ls rest)) : W p l e R s m args below meth c H locs cells slots Q (F0 m pc ls (.int (zI v) :: .int (zI z) :: .ref a :: rest)) := by
  subst hz
  subst hg
  refine va_iast hx hb hE.1 hP hD hS q0 0 ha rfl (zI_in hi hn) hdg fun H1 locs1 h1 h2 h3 => ?_
  rw [zI_clamp (by omega), zA_up] at h1 h2
  exact kk H1 locs1 h1 h2 h3
theorem z_alen (hx : p.tables.exec = Jvm.exec) (hb : c.code = cc) (hE : zE D cI s) {ws : va_W} (hP : va_P D cls ws H) (q0 : Nat) {a n : Nat} {f : Nat → Int32} (ha : ws[q0]? = some (a, .inl (cI, n, .inl f))) (hdg : decode cc pc = .ok (.arraylength, 1))
    (k : W p l e R s m args below meth c H locs cells slots Q (F0 m (pc + 1) ls (.int (zI (n : Int)) :: rest))) : W p l e R s m args below meth c H locs cells slots Q (F0 m pc ls (.ref a :: rest)) :=
  va_alen hx hb hE.1 hP q0 0 ha (ty := .int) rfl (v := zI (n : Int)) (by rw [zI_nat]; rfl) hdg k
/-! longs -/
theorem z_i2l (hx : p.tables.exec = Jvm.exec) (hb : c.code = cc) {a : Int} (hr : -2147483648 ≤ a ∧ a < 2147483648) (hdg : decode cc pc = .ok (.i2l, 1)) (k : W p l e R s m args below meth c H locs cells slots Q (F0 m (pc + 1) ls (.long (zL a) :: rest))) : W p l e R s m args below meth c H locs cells slots Q (F0 m pc ls (.int (zI a) :: rest)) :=
  lv_i2l hx hb hdg (zL_i hr) k
theorem z_ladd (hx : p.tables.exec = Jvm.exec) (hb : c.code = cc) {a b : Int} (v : Int) (hv : a + b = v) (hdg : decode cc pc = .ok (.ladd, 1)) (k : W p l e R s m args below meth c H locs cells slots Q (F0 m (pc + 1) ls (.long (zL v) :: rest))) : W p l e R s m args below meth c H locs cells slots Q (F0 m pc ls (.long (zL b) :: .long (zL a) :: rest)) := by
  refine lv_ladd hx hb hdg ?_
  rw [zL_add, hv]; exact k
theorem z_lmul (hx : p.tables.exec = Jvm.exec) (hb : c.code = cc) {a b : Int} (v : Int) (hv : a * b = v) (hdg : decode cc pc = .ok (.lmul, 1)) (k : W p l e R s m args below meth c H locs cells slots Q (F0 m (pc + 1) ls (.long (zL v) :: rest))) : W p l e R s m args below meth c H locs cells slots Q (F0 m pc ls (.long (zL b) :: .long (zL a) :: rest)) := by
  refine lv_lmul hx hb hdg ?_
  rw [zL_mul, hv]; exact k
theorem z_lcmp (hx : p.tables.exec = Jvm.exec) (hb : c.code = cc) {a b : Int} (hr : (-9223372036854775808 ≤ a ∧ a < 9223372036854775808) ∧ (-9223372036854775808 ≤ b ∧ b < 9223372036854775808)) (hdg : decode cc pc = .ok (.lcmp, 1)) (k : ∀ v : Int, (v = 1 ∧ b < a ∨ v = 0 ∧ a = b ∨ v = -1 ∧ a < b) → W p l e R s m args below meth c H locs cells slots Q (F0 m (pc + 1) ls (.int (zI v) :: rest))) : W p l e R s m args below meth c H locs cells slots Q (F0 m pc ls (.long (zL b) :: .long (zL a) :: rest)) := by
  refine W.lcmp hx hb hdg ?_
  have e1 := zL_lt hr.2 hr.1
  have e2 := zL_eq hr.1 hr.2
  rcases Int.lt_trichotomy a b with h | h | h
  · have h1 : ¬ zL b < zL a := fun h3 => by have := e1.mp h3; omega
    have h2 : ¬ zL a = zL b := fun h3 => by have := e2.mp h3; omega
    have e3 : lg_cmp (zL a) (zL b) = zI (-1) := by simp [lg_cmp, h1, h2]; rfl
    rw [e3]; exact k (-1) (by omega)
  · have h1 : ¬ zL b < zL a := fun h3 => by have := e1.mp h3; omega
    have e3 : lg_cmp (zL a) (zL b) = zI 0 := by simp [lg_cmp, h1, h]; rfl
    rw [e3]; exact k 0 (by omega)
  · have e3 : lg_cmp (zL a) (zL b) = zI 1 := by simp [lg_cmp, e1.mpr h]; rfl
    rw [e3]; exact k 1 (by omega)
/-! returns -/
theorem z_iret (hK : zK p s m args meth c cc nL own (some .int) D cI) {S : Type} {ws0 : va_W} {sz : Nat} {post : Int → S → Prop} {w1 : S → va_W} (hS : va_S (va_A ws0 sz) s.heap H locs) {z : Int} (u : S) (hp : post z u) (hP : va_P D cls (w1 u) H) (hD : va_D (va_A ws0 sz) (w1 u)) (hdg : decode cc pc = .ok (.ireturn, 1)) : W p l e R s m args below meth c H locs cells slots (MQ below (zQi D sz ws0 post w1) args s cells slots (va_A ws0 sz)) (F0 m pc ls [.int (zI z)]) := by
  obtain ⟨hx, hb, _, _, _, _, hr, hlocks⟩ := hK
  exact W.iret hx hb hr (fun t ht hW => ⟨⟨zI z, u, rfl, ⟨z, rfl, hp⟩, by rw [← ht] at hP; exact hP, hD⟩, hS.F ht⟩) hS.2.2 hdg
theorem z_bret (hK : zK p s m args meth c cc nL own (some .boolean) D cI) {S : Type} {ws0 : va_W} {sz : Nat} {post : Int → S → Prop} {w1 : S → va_W} (hS : va_S (va_A ws0 sz) s.heap H locs) {z : Int} (u : S) (hp : post z u) (hz : z = 0 ∨ z = 1) (hP : va_P D cls (w1 u) H) (hD : va_D (va_A ws0 sz) (w1 u)) (hdg : decode cc pc = .ok (.ireturn, 1)) : W p l e R s m args below meth c H locs cells slots (MQ below (zQi D sz ws0 post w1) args s cells slots (va_A ws0 sz)) (F0 m pc ls [.int (zI z)]) := by
  obtain ⟨hx, hb, _, _, _, _, hr, hlocks⟩ := hK
  exact W.zret hx hb hr (by rcases hz with rfl | rfl <;> decide) (fun t ht hW => ⟨⟨zI z, u, rfl, ⟨z, rfl, hp⟩, by rw [← ht] at hP; exact hP, hD⟩, hS.F ht⟩) hS.2.2 hdg
theorem z_lret (hK : zK p s m args meth c cc nL own (some .long) D cI) {S : Type} {ws0 : va_W} {sz : Nat} {post : Int → S → Prop} {w1 : S → va_W} (hS : va_S (va_A ws0 sz) s.heap H locs) {z : Int} (u : S) (hp : post z u) (hP : va_P D cls (w1 u) H) (hD : va_D (va_A ws0 sz) (w1 u)) (hdg : decode cc pc = .ok (.lreturn, 1)) : W p l e R s m args below meth c H locs cells slots (MQ below (zQl D sz ws0 post w1) args s cells slots (va_A ws0 sz)) (F0 m pc ls [.long (zL z)]) := by
  obtain ⟨hx, hb, _, _, _, _, hr, hlocks⟩ := hK
  exact W.lret hx hb hr (fun t ht hW => ⟨⟨zL z, u, rfl, ⟨z, rfl, hp⟩, by rw [← ht] at hP; exact hP, hD⟩, hS.F ht⟩) hS.2.2 hdg
theorem z_vret (hK : zK p s m args meth c cc nL own none D cI) {S : Type} {ws0 : va_W} {sz : Nat} {post : S → Prop} {w1 : S → va_W} (hS : va_S (va_A ws0 sz) s.heap H locs) (u : S) (hp : post u) (hP : va_P D cls (w1 u) H) (hD : va_D (va_A ws0 sz) (w1 u)) (hdg : decode cc pc = .ok (.return_, 1)) : W p l e R s m args below meth c H locs cells slots (MQ below (zQv D sz ws0 post w1) args s cells slots (va_A ws0 sz)) (F0 m pc ls []) := by
  obtain ⟨hx, hb, _, _, _, _, hr, hlocks⟩ := hK
  exact W.vret hx hb hr (fun t ht hW => ⟨⟨u, rfl, hp, by rw [← ht] at hP; exact hP, hD⟩, hS.F ht⟩) hS.2.2 hdg
theorem z_aret {C : String} (hK : zK p s m args meth c cc nL own (some (.object C)) D cI) {S : Type} {ws0 : va_W} {sz : Nat} {ra : Nat} {post : S → Prop} {w1 : S → va_W} (hS : va_S (va_A ws0 sz) s.heap H locs) (u : S) (hp : post u) (hP : va_P D cls (w1 u) H) (hD : va_D (va_A ws0 sz) (w1 u)) (hdg : decode cc pc = .ok (.areturn, 1)) : W p l e R s m args below meth c H locs cells slots (MQ below (zQr D sz ws0 ra post w1) args s cells slots (va_A ws0 sz)) (F0 m pc ls [.ref ra]) := by
  obtain ⟨hx, hb, _, _, _, _, hr, hlocks⟩ := hK
  exact W.aret hx hb hr (Or.inl ⟨_, rfl⟩) (Or.inr ⟨_, rfl⟩) (fun t ht hW => ⟨⟨u, ra, rfl, hp, rfl, by rw [← ht] at hP; exact hP, hD⟩, hS.F ht⟩) hS.2.2 hdg
/-! calls: of a method's words -/
def zYv (C : String) (y : MethodName) (bytes : ByteArray) (maxL : Nat) (ret : Option FieldType) (n : Nat) : Prop := Cond.code y bytes maxL ret ∈ TT ∧ Cond.instanceMethod y ∈ TT ∧ Cond.selects C y y ∈ TT ∧ Cond.initialized y.cls ∈ TT ∧ (y.cls ≠ "java/lang/invoke/MethodHandle" ∧ y.cls ≠ "java/lang/invoke/VarHandle" ∧ (parseMethodDescriptor y.desc).map (fun d => d.parameters.length) = some n)
def zYs (y : MethodName) (bytes : ByteArray) (maxL : Nat) (ret : Option FieldType) (n : Nat) : Prop := Cond.code y bytes maxL ret ∈ TT ∧ Cond.static y ∈ TT ∧ Cond.initialized y.cls ∈ TT ∧ (y.cls ≠ "java/lang/invoke/MethodHandle" ∧ y.cls ≠ "java/lang/invoke/VarHandle" ∧ (parseMethodDescriptor y.desc).map (fun d => d.parameters.length) = some n)
def zYi (y : MethodName) (bytes : ByteArray) (maxL : Nat) (n : Nat) : Prop := Cond.code y bytes maxL none ∈ TT ∧ Cond.instanceMethod y ∈ TT ∧ Cond.initialized y.cls ∈ TT ∧ y.name = "<init>" ∧ (y.cls ≠ "java/lang/invoke/MethodHandle" ∧ y.cls ≠ "java/lang/invoke/VarHandle" ∧ (parseMethodDescriptor y.desc).map (fun d => d.parameters.length) = some n)
/-- the callee's start: its cells out of the caller's -/
theorem zpre {wc : va_W} {av : List Value} {A : Nat → Prop} (hE : zE D cI s) (hPc : va_P D cls wc H) (hDc : va_D A wc) : PreS s H (zPre D cI H.size wc av) av :=
  ⟨zPre_blind _ _ _ _ _, fun U hU hW => ⟨rfl, by rw [hU], by rw [hU]; exact hPc, zE.warm hW hE, hDc.weaken (fun _ _ _ _ => trivial)⟩⟩
abbrev zRoom (R rm : Room) (maxL : Nat) : Prop := (rm.cells = 0 ∧ rm.slots = 0) ∧ (rm.frames + 1 ≤ R.frames ∧ 8 + (maxL + 11) + rm.locals ≤ R.locals)
theorem zrunV {y : MethodName} {bytes : ByteArray} {maxL n index q0 ci : Nat} {rt : Option FieldType} {rm : Room} {C : String} {T : u_T} {N : Nat} {fs : List Value} {b : Addr} {As : List Value} {wc : va_W} {Qc : Array Value → State → Outcome → State → Prop} {A : Nat → Prop} {st : List Value}
    (hK : zK p s m args meth c cc nL own ret D cI) (hY : zYv C y bytes maxL rt n) (hl : Cond.methodLink own index y ∈ TT) (hR : zRoom R rm maxL) (hcl : cls[ci]? = some (C, T, N)) (hq : wc[q0]? = some (b, .inr (ci, fs))) (hPc : va_P D cls wc H) (hDc : va_D A wc)
    (hM : Met l y (zW y bytes maxL rt) rm (zPre D cI H.size wc (.ref b :: As)) Qc 0 0 (va_A wc H.size)) (hn : As.length = n) (hsz : ls.size = nL) (hst : st = As.reverse ++ .ref b :: rest) (hW : (rest.map fun v => v.category).sum ≤ 8) (hdg : decode cc pc = .ok (.invokevirtual index, 3)) (hf : cells ≤ R.cells ∧ slots ≤ R.slots) :
    va_Run p l e R s m args below meth c H locs cells slots 0 0 (F0 m pc ls st) rest (Qc (Value.ref b :: As).toArray) (va_A wc H.size) := by
  obtain ⟨hx, hb, hml, hown, hts, hE, hr, hlocks⟩ := hK
  obtain ⟨hc, hin, hsel, hini, hd⟩ := hY
  have hb1 := callB_of (R := R) (rm := rm) (ws := zW y bytes maxL rt) (ws' := TT) n hts (TT_GoodIn hc) rfl hR.1.1 hR.1.2 (hts _ hini) (hts _ hl) hd hR.2
  exact va_runV ⟨hx, hb, hml, hown, hts⟩ hM ⟨hb1, hts _ hin, hts _ hsel⟩ ⟨(zpre hE hPc hDc).1, va_recv hE.1 hPc hcl hq, (zpre hE hPc hDc).2⟩ rfl hn hsz hst (lv_room (m := m) (pc := pc) (ls := ls) (rest := st) hW) hdg hf
theorem zrunVN {y : MethodName} {bytes : ByteArray} {maxL n index q0 ci : Nat} {rt : Option FieldType} {rm : Room} {C host : String} {T : u_T} {N : Nat} {fs : List Value} {b : Addr} {As : List Value} {wc : va_W} {Qc : Array Value → State → Outcome → State → Prop} {A : Nat → Prop} {st : List Value}
    (hK : zK p s m args meth c cc nL own ret D cI) (hY : zYv C y bytes maxL rt n) (hl : Cond.methodLinkNest own index y host ∈ tables_1) (hR : zRoom R rm maxL) (hcl : cls[ci]? = some (C, T, N)) (hq : wc[q0]? = some (b, .inr (ci, fs))) (hPc : va_P D cls wc H) (hDc : va_D A wc)
    (hM : Met l y (zW y bytes maxL rt) rm (zPre D cI H.size wc (.ref b :: As)) Qc 0 0 (va_A wc H.size)) (hn : As.length = n) (hsz : ls.size = nL) (hst : st = As.reverse ++ .ref b :: rest) (hW : (rest.map fun v => v.category).sum ≤ 8) (hdg : decode cc pc = .ok (.invokevirtual index, 3)) (hf : cells ≤ R.cells ∧ slots ≤ R.slots) :
    va_Run p l e R s m args below meth c H locs cells slots 0 0 (F0 m pc ls st) rest (Qc (Value.ref b :: As).toArray) (va_A wc H.size) := by
  obtain ⟨hx, hb, hml, hown, hts, hE, hr, hlocks⟩ := hK
  obtain ⟨hc, hin, hsel, hini, hd⟩ := hY
  have hb1 := va_cnB (R := R) (rm := rm) (ws := zW y bytes maxL rt) (ws' := TT) n hts (TT_GoodIn hc) rfl hR.1.1 hR.1.2 (hE.2 _ hl rfl) (hts _ hini) hd hR.2
  exact va_runVN ⟨hx, hb, hml, hown, hts⟩ hM ⟨hb1, hts _ hin, hts _ hsel⟩ ⟨(zpre hE hPc hDc).1, va_recv hE.1 hPc hcl hq, (zpre hE hPc hDc).2⟩ rfl hn hsz hst (lv_room (m := m) (pc := pc) (ls := ls) (rest := st) hW) hdg hf
theorem zrunS {y : MethodName} {bytes : ByteArray} {maxL n index : Nat} {rt : Option FieldType} {rm : Room} {As : List Value} {wc : va_W} {Qc : Array Value → State → Outcome → State → Prop} {A : Nat → Prop} {st : List Value}
    (hK : zK p s m args meth c cc nL own ret D cI) (hY : zYs y bytes maxL rt n) (hl : Cond.methodLink own index y ∈ TT) (hR : zRoom R rm maxL) (hPc : va_P D cls wc H) (hDc : va_D A wc)
    (hM : Met l y (zW y bytes maxL rt) rm (zPre D cI H.size wc As) Qc 0 0 (va_A wc H.size)) (hn : As.length = n) (hsz : ls.size = nL) (hst : st = As.reverse ++ rest) (hW : (rest.map fun v => v.category).sum ≤ 8) (hdg : decode cc pc = .ok (.invokestatic index, 3)) (hf : cells ≤ R.cells ∧ slots ≤ R.slots) :
    va_Run p l e R s m args below meth c H locs cells slots 0 0 (F0 m pc ls st) rest (Qc As.toArray) (va_A wc H.size) := by
  obtain ⟨hx, hb, hml, hown, hts, hE, hr, hlocks⟩ := hK
  obtain ⟨hc, hstt, hini, hd⟩ := hY
  have hb1 := callB_of (R := R) (rm := rm) (ws := zW y bytes maxL rt) (ws' := TT) n hts (TT_GoodIn hc) rfl hR.1.1 hR.1.2 (hts _ hini) (hts _ hl) hd hR.2
  exact va_runS ⟨hx, hb, hml, hown, hts⟩ hM ⟨hb1, hts _ hstt⟩ (zpre hE hPc hDc) rfl hn hsz hst (lv_room (m := m) (pc := pc) (ls := ls) (rest := st) hW) hdg hf
theorem zrunSN {y : MethodName} {bytes : ByteArray} {maxL n index : Nat} {rt : Option FieldType} {rm : Room} {host : String} {As : List Value} {wc : va_W} {Qc : Array Value → State → Outcome → State → Prop} {A : Nat → Prop} {st : List Value}
    (hK : zK p s m args meth c cc nL own ret D cI) (hY : zYs y bytes maxL rt n) (hl : Cond.methodLinkNest own index y host ∈ tables_1) (hR : zRoom R rm maxL) (hPc : va_P D cls wc H) (hDc : va_D A wc)
    (hM : Met l y (zW y bytes maxL rt) rm (zPre D cI H.size wc As) Qc 0 0 (va_A wc H.size)) (hn : As.length = n) (hsz : ls.size = nL) (hst : st = As.reverse ++ rest) (hW : (rest.map fun v => v.category).sum ≤ 8) (hdg : decode cc pc = .ok (.invokestatic index, 3)) (hf : cells ≤ R.cells ∧ slots ≤ R.slots) :
    va_Run p l e R s m args below meth c H locs cells slots 0 0 (F0 m pc ls st) rest (Qc As.toArray) (va_A wc H.size) := by
  obtain ⟨hx, hb, hml, hown, hts, hE, hr, hlocks⟩ := hK
  obtain ⟨hc, hstt, hini, hd⟩ := hY
  have hb1 := va_cnB (R := R) (rm := rm) (ws := zW y bytes maxL rt) (ws' := TT) n hts (TT_GoodIn hc) rfl hR.1.1 hR.1.2 (hE.2 _ hl rfl) (hts _ hini) hd hR.2
  exact va_runSN ⟨hx, hb, hml, hown, hts⟩ hM ⟨hb1, hts _ hstt, trivial⟩ (zpre hE hPc hDc) rfl hn hsz hst (lv_room (m := m) (pc := pc) (ls := ls) (rest := st) hW) hdg hf
/-- the places of a part -/
abbrev zSel (is : List Nat) (ws w : va_W) : Prop := is.map (fun i => ws[i]?) = w.map some
theorem zSel_P {is : List Nat} {ws w : va_W} (hP : va_P D cls ws H) (h : zSel is ws w) : va_P D cls w H := by
  intro k q hk
  have h1 : (is.map (fun i => ws[i]?))[k]? = some (some q) := by rw [h, List.getElem?_map, hk]; rfl
  rw [List.getElem?_map] at h1
  cases hi : is[k]? with
  | none => rw [hi] at h1; cases h1
  | some i => rw [hi] at h1; exact hP i q (Option.some.inj h1)
theorem zcall_i {S : Type} {ws wc wr : va_W} {A : Nat → Prop} {post : Int → S → Prop} {w1 : S → va_W} {st : List Value} {av : Array Value} (hE : zE D cI s) (hP : va_P D cls ws H) (hD : va_D A ws) (hS : va_S A s.heap H locs) (hA : ∀ q : Nat, s.heap.size ≤ q → A q) (isC isR is2 : List Nat) (hC : zSel isC ws wc) (hR : zSel isR ws wr) (hn : va_nd isR = true) (hdis : ∀ i ∈ isR, i ∉ isC) (hn2 : va_nd is2 = true) (ws' : S → va_W) (h2 : ∀ u, zSel is2 (wr ++ w1 u) (ws' u))
    (hrun : va_P D cls wc H → va_D (va_A wc H.size) wc → va_Run p l e R s m args below meth c H locs cells slots 0 0 (F0 m pc ls st) rest (zQi D H.size wc post w1 av) (va_A wc H.size)) (hnC : va_nd isC = true)
    (kk : ∀ (z : Int) (u : S) (H1 : Heap) (locs1 : List Loc), post z u → va_P D cls (ws' u) H1 → va_D A (ws' u) → va_S A s.heap H1 locs1 → W p l e R s m args below meth c H1 locs1 cells slots Q (F0 m (pc + 3) ls (.int (zI z) :: rest))) : W p l e R s m args below meth c H locs cells slots Q (F0 m pc ls st) := by
  have hF := va_free hD hS hA isC hC
  have hPc := zSel_P hP hC
  have hDc := hD.sub isC hnC hC
  refine va_calli (hrun hPc hDc.self) hS (fun q _ h => hF q h) hF (fun r u t H1 locs1 ht hvm hw hB hz1 hk1 hS1 => ?_)
  obtain ⟨z, rfl, hpost⟩ := hw
  obtain ⟨hP1, hD1⟩ := hB
  rw [ht] at hP1
  obtain ⟨hP2, hD2⟩ := va_join hP hD isC isR hC hR hn hdis hk1 hF hP1 hD1
  exact kk z u H1 locs1 hpost (zSel_P hP2 (h2 u)) (hD2.sub is2 hn2 (h2 u)) hS1
theorem zcall_l {S : Type} {ws wc wr : va_W} {A : Nat → Prop} {post : Int → S → Prop} {w1 : S → va_W} {st : List Value} {av : Array Value} (hE : zE D cI s) (hP : va_P D cls ws H) (hD : va_D A ws) (hS : va_S A s.heap H locs) (hA : ∀ q : Nat, s.heap.size ≤ q → A q) (isC isR is2 : List Nat) (hC : zSel isC ws wc) (hR : zSel isR ws wr) (hn : va_nd isR = true) (hdis : ∀ i ∈ isR, i ∉ isC) (hn2 : va_nd is2 = true) (ws' : S → va_W) (h2 : ∀ u, zSel is2 (wr ++ w1 u) (ws' u))
    (hrun : va_P D cls wc H → va_D (va_A wc H.size) wc → va_Run p l e R s m args below meth c H locs cells slots 0 0 (F0 m pc ls st) rest (zQl D H.size wc post w1 av) (va_A wc H.size)) (hnC : va_nd isC = true)
    (kk : ∀ (z : Int) (u : S) (H1 : Heap) (locs1 : List Loc), post z u → va_P D cls (ws' u) H1 → va_D A (ws' u) → va_S A s.heap H1 locs1 → W p l e R s m args below meth c H1 locs1 cells slots Q (F0 m (pc + 3) ls (.long (zL z) :: rest))) : W p l e R s m args below meth c H locs cells slots Q (F0 m pc ls st) := by
  have hF := va_free hD hS hA isC hC
  have hPc := zSel_P hP hC
  have hDc := hD.sub isC hnC hC
  refine va_calll (hrun hPc hDc.self) hS (fun q _ h => hF q h) hF (fun r u t H1 locs1 ht hvm hw hB hz1 hk1 hS1 => ?_)
  obtain ⟨z, rfl, hpost⟩ := hw
  obtain ⟨hP1, hD1⟩ := hB
  rw [ht] at hP1
  obtain ⟨hP2, hD2⟩ := va_join hP hD isC isR hC hR hn hdis hk1 hF hP1 hD1
  exact kk z u H1 locs1 hpost (zSel_P hP2 (h2 u)) (hD2.sub is2 hn2 (h2 u)) hS1
theorem zcall_v {S : Type} {ws wc wr : va_W} {A : Nat → Prop} {post : S → Prop} {w1 : S → va_W} {st : List Value} {av : Array Value} (hE : zE D cI s) (hP : va_P D cls ws H) (hD : va_D A ws) (hS : va_S A s.heap H locs) (hA : ∀ q : Nat, s.heap.size ≤ q → A q) (isC isR is2 : List Nat) (hC : zSel isC ws wc) (hR : zSel isR ws wr) (hn : va_nd isR = true) (hdis : ∀ i ∈ isR, i ∉ isC) (hn2 : va_nd is2 = true) (ws' : S → va_W) (h2 : ∀ u, zSel is2 (wr ++ w1 u) (ws' u))
    (hrun : va_P D cls wc H → va_D (va_A wc H.size) wc → va_Run p l e R s m args below meth c H locs cells slots 0 0 (F0 m pc ls st) rest (zQv D H.size wc post w1 av) (va_A wc H.size)) (hnC : va_nd isC = true)
    (kk : ∀ (u : S) (H1 : Heap) (locs1 : List Loc), post u → va_P D cls (ws' u) H1 → va_D A (ws' u) → va_S A s.heap H1 locs1 → W p l e R s m args below meth c H1 locs1 cells slots Q (F0 m (pc + 3) ls (rest))) : W p l e R s m args below meth c H locs cells slots Q (F0 m pc ls st) := by
  have hF := va_free hD hS hA isC hC
  have hPc := zSel_P hP hC
  have hDc := hD.sub isC hnC hC
  refine va_callv (hrun hPc hDc.self) hS (fun q _ h => hF q h) hF (fun u t H1 locs1 ht hvm hw hB hz1 hk1 hS1 => ?_)
  have hpost := hw
  obtain ⟨hP1, hD1⟩ := hB
  rw [ht] at hP1
  obtain ⟨hP2, hD2⟩ := va_join hP hD isC isR hC hR hn hdis hk1 hF hP1 hD1
  exact kk u H1 locs1 hpost (zSel_P hP2 (h2 u)) (hD2.sub is2 hn2 (h2 u)) hS1
theorem zcall_r {S : Type} {ws wc wr : va_W} {A : Nat → Prop} {ra : Nat} {post : S → Prop} {w1 : S → va_W} {st : List Value} {av : Array Value} (hE : zE D cI s) (hP : va_P D cls ws H) (hD : va_D A ws) (hS : va_S A s.heap H locs) (hA : ∀ q : Nat, s.heap.size ≤ q → A q) (isC isR is2 : List Nat) (hC : zSel isC ws wc) (hR : zSel isR ws wr) (hn : va_nd isR = true) (hdis : ∀ i ∈ isR, i ∉ isC) (hn2 : va_nd is2 = true) (ws' : S → va_W) (h2 : ∀ u, zSel is2 (wr ++ w1 u) (ws' u))
    (hrun : va_P D cls wc H → va_D (va_A wc H.size) wc → va_Run p l e R s m args below meth c H locs cells slots 0 0 (F0 m pc ls st) rest (zQr D H.size wc ra post w1 av) (va_A wc H.size)) (hnC : va_nd isC = true)
    (kk : ∀ (u : S) (H1 : Heap) (locs1 : List Loc), post u → va_P D cls (ws' u) H1 → va_D A (ws' u) → va_S A s.heap H1 locs1 → W p l e R s m args below meth c H1 locs1 cells slots Q (F0 m (pc + 3) ls (.ref ra :: rest))) : W p l e R s m args below meth c H locs cells slots Q (F0 m pc ls st) := by
  have hF := va_free hD hS hA isC hC
  have hPc := zSel_P hP hC
  have hDc := hD.sub isC hnC hC
  refine va_callr (hrun hPc hDc.self) hS (fun q _ h => hF q h) hF (fun u a1 t H1 locs1 ht hvm hw hB hz1 hk1 hS1 => ?_)
  have hpost := hw
  obtain ⟨rfl, hP1, hD1⟩ := hB
  rw [ht] at hP1
  obtain ⟨hP2, hD2⟩ := va_join hP hD isC isR hC hR hn hdis hk1 hF hP1 hD1
  exact kk u H1 locs1 hpost (zSel_P hP2 (h2 u)) (hD2.sub is2 hn2 (h2 u)) hS1
end Z2
