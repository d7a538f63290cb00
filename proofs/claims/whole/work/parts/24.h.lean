set_option maxHeartbeats 4000000 in
set_option maxRecDepth 100000 in
theorem c_X4_in (l : Launch) (D : va_G) (cI : ClassId) (a0 b0 c0 : Int) (ha0 : -9223372036854775808 ≤ a0 ∧ a0 < 9223372036854775808) (hb0 : -9223372036854775808 ≤ b0 ∧ b0 < 9223372036854775808) (hc0 : -9223372036854775808 ≤ c0 ∧ c0 < 9223372036854775808) : zMi l yX4_in cX4_in 6 (some .boolean) ({ frames := 0, cells := 0, slots := 0, locals := 0 }) D cI [.long (zL a0), .long (zL b0), .long (zL c0)] [] (fun (z : Int) (u : Unit) => z = (b01 (b0 ≤ a0 ∧ a0 ≤ c0))) (fun (u : Unit) => []) := by
  intro sz
  refine zstart rfl (by decide) (Nat.le_of_ble_eq_true rfl) ?_
  intro p e s m below meth c ls K hnm hsz hP hD hS hl
  generalize hargs : ([.long (zL a0), .long (zL b0), .long (zL c0)] : List Value).toArray = args at K ⊢
  generalize hQf : MQ below _ args s _ _ _ = Qf
  have K : zK p s m args meth c cX4_in 6 RX4 (some .boolean) D cI := K
  obtain ⟨hx, hb, hml, hown, hts, hE, -, -⟩ := id K
  have hA := zhA (ws0 := []) hsz
  have hl : lv_has ls 6 [(0, .long (zL a0)), (2, .long (zL b0)), (4, .long (zL c0))] := hl
  refine lv_lload_n hx hb dX4_in_0 rfl (lv_at hl 0 rfl) ?_
  refine lv_lload_n hx hb dX4_in_1 rfl (lv_at hl 1 rfl) ?_
  refine z_lcmp hx hb (by omega) dX4_in_2 (fun lc_1 hlc_1 => ?_)
  refine z_if_lt (tgt := 17) hx hb (by omega) dX4_in_3 (by decide) (fun c_3 => ?_) (fun c_3 => ?_)
  · refine lv_iconst (v := zI 0) hx hb dX4_in_17 rfl ?_
    rw [← hQf]
    exact z_bret K hS () (by first | exact (b01_t (by omega)).symm | exact (b01_f (by omega)).symm) (by omega) hP hD dX4_in_18
  · refine lv_lload_n hx hb dX4_in_6 rfl (lv_at hl 0 rfl) ?_
    refine lv_lload hx hb dX4_in_7 (lv_at hl 2 rfl) ?_
    refine z_lcmp hx hb (by omega) dX4_in_9 (fun lc_2 hlc_2 => ?_)
    refine z_if_gt (tgt := 17) hx hb (by omega) dX4_in_10 (by decide) (fun c_10 => ?_) (fun c_10 => ?_)
    · refine lv_iconst (v := zI 0) hx hb dX4_in_17 rfl ?_
      rw [← hQf]
      exact z_bret K hS () (by first | exact (b01_t (by omega)).symm | exact (b01_f (by omega)).symm) (by omega) hP hD dX4_in_18
    · refine lv_iconst (v := zI 1) hx hb dX4_in_13 rfl ?_
      refine lv_goto (tgt := 18) hx hb dX4_in_14 (by decide) ?_
      rw [← hQf]
      exact z_bret K hS () (by first | exact (b01_t (by omega)).symm | exact (b01_f (by omega)).symm) (by omega) hP hD dX4_in_18
set_option maxHeartbeats 4000000 in
set_option maxRecDepth 100000 in
theorem c_X4_copy (l : Launch) (D : va_G) (cI : ClassId) (q1 q2 l1 l2 : Nat) (g f : Nat → Int) (hl1 : l1 ≤ l2) (hl2 : l2 < 2147483648) : zMv l yX4_copy cX4_copy 3 none ({ frames := 0, cells := 0, slots := 0, locals := 0 }) D cI [.ref q1, .ref q2] [cR cI q1 l1 g, cR cI q2 l2 f] (fun (u : Unit) => True) (fun (u : Unit) => [cR cI q1 l1 g, cR cI q2 l2 (zcp g f l1)]) := by
  intro sz
  refine zstart rfl (by decide) (Nat.le_of_ble_eq_true rfl) ?_
  intro p e s m below meth c ls K hnm hsz hP hD hS hl
  generalize hargs : ([.ref q1, .ref q2] : List Value).toArray = args at K ⊢
  generalize hQf : MQ below _ args s _ _ _ = Qf
  have K : zK p s m args meth c cX4_copy 3 RX4 none D cI := K
  obtain ⟨hx, hb, hml, hown, hts, hE, -, -⟩ := id K
  have hA := zhA (ws0 := [cR cI q1 l1 g, cR cI q2 l2 f]) hsz
  have hl : lv_has ls 3 [(0, .ref q1), (1, .ref q2)] := hl
  refine lv_iconst (v := zI 0) hx hb dX4_copy_0 rfl ?_
  refine lv_istore_n (lv' := [(2, .int (zI 0)), (0, .ref q1), (1, .ref q2)]) hx hb dX4_copy_1 rfl hl (by decide) rfl (fun ls hl => ?_)
  have cut_2 : ∀ (N_2 : Nat), ∀ (i : Nat) (f1 : Nat → Int), l1 - i < N_2 → (i ≤ l1) → (f1 = zcp g f i) → ∀ (H : Heap) (locs : List Loc) (ls : Array Slot), va_P D cls [cR cI q1 l1 g, cR cI q2 l2 f1] H → va_D (va_A [cR cI q1 l1 g, cR cI q2 l2 f] sz) [cR cI q1 l1 g, cR cI q2 l2 f1] → va_S (va_A [cR cI q1 l1 g, cR cI q2 l2 f] sz) s.heap H locs → lv_has ls 3 [(0, .ref q1), (1, .ref q2), (2, .int (zI ((i : Nat) : Int)))] → W p l e ({ frames := 0, cells := 0, slots := 0, locals := 0 }) s m args below meth c H locs 0 0 Qf (F0 m 2 ls []) := by
    intro N_2
    induction N_2 with
    | zero => intro i f1 hm_2; exact absurd hm_2 (Nat.not_lt_zero _)
    | succ N_2 ih_2 =>
      intro i f1 hm_2 hi hf H locs ls hP hD hS hl
      refine lv_iload_n hx hb dX4_copy_2 rfl (lv_at hl 2 rfl) ?_
      refine lv_aload_n hx hb dX4_copy_3 rfl (lv_at hl 0 rfl) ?_
      refine z_alen hx hb hE hP 0 rfl dX4_copy_4 ?_
      refine z_icmp_ge (tgt := 20) hx hb (by omega) dX4_copy_5 (by decide) (fun c_5 => ?_) (fun c_5 => ?_)
      · have e1 : f1 = zcp g f l1 := by rw [hf, show i = l1 by omega]
        subst e1
        rw [← hQf]
        exact z_vret K hS () trivial hP hD dX4_copy_20
      · refine lv_aload_n hx hb dX4_copy_8 rfl (lv_at hl 1 rfl) ?_
        refine lv_iload_n hx hb dX4_copy_9 rfl (lv_at hl 2 rfl) ?_
        refine lv_aload_n hx hb dX4_copy_10 rfl (lv_at hl 0 rfl) ?_
        refine lv_iload_n hx hb dX4_copy_11 rfl (lv_at hl 2 rfl) ?_
        refine z_iald hx hb hE hP 0 rfl i (by omega) (by omega) (by first | decide | omega) (g i) rfl dX4_copy_12 ?_
        refine z_iast hx hb hE hP hD hS 1 rfl i (by omega) (by omega) (by first | decide | omega) (zup f1 i (g i)) rfl dX4_copy_13 (fun H locs hP hD hS => ?_)
        have hP : va_P D cls [cR cI q1 l1 g, cR cI q2 l2 (zup f1 i (g i))] H := hP
        have hD : va_D (va_A [cR cI q1 l1 g, cR cI q2 l2 f] sz) [cR cI q1 l1 g, cR cI q2 l2 (zup f1 i (g i))] := hD
        refine z_iinc (k := 2) (lv' := [(2, .int (zI (((i + 1) : Nat) : Int))), (0, .ref q1), (1, .ref q2)]) hx hb (((i + 1) : Nat) : Int) (by omega) dX4_copy_14 hl rfl (by decide) rfl (fun ls hl => ?_)
        refine lv_goto (tgt := 2) hx hb dX4_copy_17 (by decide) ?_
        exact ih_2 (i + 1) (zup f1 i (g i)) (by omega) (by omega) (by rw [hf]; exact zcp_s rfl) _ _ _ hP hD hS (lv_sub hl [1, 2, 0] rfl)
  exact cut_2 (l1 - 0 + 1) 0 f (Nat.lt_succ_self _) (by omega) (by exact (zcp_0 _ _).symm) _ _ _ hP hD hS (lv_sub hl [1, 2, 0] rfl)
set_option maxHeartbeats 4000000 in
set_option maxRecDepth 100000 in
theorem c_X4_common (l : Launch) (D : va_G) (cI : ClassId) (a0 b0 : Nat) (ha0 : a0 < 2147483648) (hb0 : b0 < 2147483648) : zMi l yX4_common cX4_common 5 (some .int) ({ frames := 0, cells := 0, slots := 0, locals := 0 }) D cI [.int (zI ((a0 : Nat) : Int)), .int (zI ((b0 : Nat) : Int))] [] (fun (z : Int) (u : Unit) => z = (((Nat.gcd a0 b0) : Nat) : Int)) (fun (u : Unit) => []) := by
  intro sz
  refine zstart rfl (by decide) (Nat.le_of_ble_eq_true rfl) ?_
  intro p e s m below meth c ls K hnm hsz hP hD hS hl
  generalize hargs : ([.int (zI ((a0 : Nat) : Int)), .int (zI ((b0 : Nat) : Int))] : List Value).toArray = args at K ⊢
  generalize hQf : MQ below _ args s _ _ _ = Qf
  have K : zK p s m args meth c cX4_common 5 RX4 (some .int) D cI := K
  obtain ⟨hx, hb, hml, hown, hts, hE, -, -⟩ := id K
  have hA := zhA (ws0 := []) hsz
  have hl : lv_has ls 5 [(0, .int (zI ((a0 : Nat) : Int))), (1, .int (zI ((b0 : Nat) : Int)))] := hl
  refine lv_iload_n hx hb dX4_common_0 rfl (lv_at hl 0 rfl) ?_
  refine lv_istore_n (lv' := [(2, .int (zI ((a0 : Nat) : Int))), (0, .int (zI ((a0 : Nat) : Int))), (1, .int (zI ((b0 : Nat) : Int)))]) hx hb dX4_common_1 rfl hl (by decide) rfl (fun ls hl => ?_)
  refine lv_iload_n hx hb dX4_common_2 rfl (lv_at hl 2 rfl) ?_
  refine lv_istore_n (lv' := [(3, .int (zI ((b0 : Nat) : Int))), (2, .int (zI ((a0 : Nat) : Int))), (0, .int (zI ((a0 : Nat) : Int))), (1, .int (zI ((b0 : Nat) : Int)))]) hx hb dX4_common_3 rfl hl (by decide) rfl (fun ls hl => ?_)
  have cut_4 : ∀ (N_4 : Nat), ∀ (x y : Nat), y < N_4 → (x < 2147483648 ∧ y < 2147483648) → (Nat.gcd x y = Nat.gcd a0 b0) → ∀ (H : Heap) (locs : List Loc) (ls : Array Slot), va_P D cls [] H → va_D (va_A [] sz) [] → va_S (va_A [] sz) s.heap H locs → lv_has ls 5 [(0, .int (zI ((a0 : Nat) : Int))), (1, .int (zI ((b0 : Nat) : Int))), (2, .int (zI ((x : Nat) : Int))), (3, .int (zI ((y : Nat) : Int)))] → W p l e ({ frames := 0, cells := 0, slots := 0, locals := 0 }) s m args below meth c H locs 0 0 Qf (F0 m 4 ls []) := by
    intro N_4
    induction N_4 with
    | zero => intro x y hm_4; exact absurd hm_4 (Nat.not_lt_zero _)
    | succ N_4 ih_4 =>
      intro x y hm_4 hy hg H locs ls hP hD hS hl
      refine lv_iload_n hx hb dX4_common_4 rfl (lv_at hl 3 rfl) ?_
      refine z_if_le (tgt := 21) hx hb (by omega) dX4_common_5 (by decide) (fun c_5 => ?_) (fun c_5 => ?_)
      · refine lv_iload_n hx hb dX4_common_21 rfl (lv_at hl 2 rfl) ?_
        rw [← hQf]
        exact z_iret K hS () (by rw [← hg, show y = 0 by omega, Nat.gcd_zero_right]) hP hD dX4_common_22
      · refine lv_iload_n hx hb dX4_common_8 rfl (lv_at hl 2 rfl) ?_
        refine lv_iload_n hx hb dX4_common_9 rfl (lv_at hl 3 rfl) ?_
        refine z_irem hx hb (((x % y) : Nat) : Int) (by omega) rfl dX4_common_10 ?_
        have hlt : x % y < y := Nat.mod_lt _ (by omega)
        refine lv_istore (lv' := [(4, .int (zI (((x % y) : Nat) : Int))), (0, .int (zI ((a0 : Nat) : Int))), (1, .int (zI ((b0 : Nat) : Int))), (2, .int (zI ((x : Nat) : Int))), (3, .int (zI ((y : Nat) : Int)))]) hx hb dX4_common_11 hl (by decide) rfl (fun ls hl => ?_)
        refine lv_iload_n hx hb dX4_common_13 rfl (lv_at hl 4 rfl) ?_
        refine lv_istore_n (lv' := [(2, .int (zI ((y : Nat) : Int))), (4, .int (zI (((x % y) : Nat) : Int))), (0, .int (zI ((a0 : Nat) : Int))), (1, .int (zI ((b0 : Nat) : Int))), (3, .int (zI ((y : Nat) : Int)))]) hx hb dX4_common_14 rfl hl (by decide) rfl (fun ls hl => ?_)
        refine lv_iload hx hb dX4_common_15 (lv_at hl 1 rfl) ?_
        refine lv_istore_n (lv' := [(3, .int (zI (((x % y) : Nat) : Int))), (2, .int (zI ((y : Nat) : Int))), (4, .int (zI (((x % y) : Nat) : Int))), (0, .int (zI ((a0 : Nat) : Int))), (1, .int (zI ((b0 : Nat) : Int)))]) hx hb dX4_common_17 rfl hl (by decide) rfl (fun ls hl => ?_)
        refine lv_goto (tgt := 4) hx hb dX4_common_18 (by decide) ?_
        exact ih_4 y (x % y) (by omega) (by omega) (by rw [← hg]; exact gcd_step) _ _ _ hP hD hS (lv_sub hl [3, 4, 1, 0] rfl)
  exact cut_4 (b0 + 1) a0 b0 (Nat.lt_succ_self _) (by omega) (by rfl) _ _ _ hP hD hS (lv_sub hl [2, 3, 1, 0] rfl)
set_option maxHeartbeats 4000000 in
set_option maxRecDepth 100000 in
theorem c_X4_power (l : Launch) (D : va_G) (cI : ClassId) (v0 m0 : Nat) (hm0 : m0 < 2147483648) : zMi l yX4_power cX4_power 4 (some .int) ({ frames := 0, cells := 0, slots := 0, locals := 0 }) D cI [.int (zI ((v0 : Nat) : Int)), .int (zI ((m0 : Nat) : Int))] [] (fun (z : Int) (u : Unit) => z = (((v0 ^ m0) : Nat) : Int)) (fun (u : Unit) => []) := by
  intro sz
  refine zstart rfl (by decide) (Nat.le_of_ble_eq_true rfl) ?_
  intro p e s m below meth c ls K hnm hsz hP hD hS hl
  generalize hargs : ([.int (zI ((v0 : Nat) : Int)), .int (zI ((m0 : Nat) : Int))] : List Value).toArray = args at K ⊢
  generalize hQf : MQ below _ args s _ _ _ = Qf
  have K : zK p s m args meth c cX4_power 4 RX4 (some .int) D cI := K
  obtain ⟨hx, hb, hml, hown, hts, hE, -, -⟩ := id K
  have hA := zhA (ws0 := []) hsz
  have hl : lv_has ls 4 [(0, .int (zI ((v0 : Nat) : Int))), (1, .int (zI ((m0 : Nat) : Int)))] := hl
  refine lv_iconst (v := zI 1) hx hb dX4_power_0 rfl ?_
  refine lv_istore_n (lv' := [(2, .int (zI 1)), (0, .int (zI ((v0 : Nat) : Int))), (1, .int (zI ((m0 : Nat) : Int)))]) hx hb dX4_power_1 rfl hl (by decide) rfl (fun ls hl => ?_)
  refine lv_iconst (v := zI 0) hx hb dX4_power_2 rfl ?_
  refine lv_istore_n (lv' := [(3, .int (zI 0)), (2, .int (zI 1)), (0, .int (zI ((v0 : Nat) : Int))), (1, .int (zI ((m0 : Nat) : Int)))]) hx hb dX4_power_3 rfl hl (by decide) rfl (fun ls hl => ?_)
  have cut_4 : ∀ (N_4 : Nat), ∀ (i y : Nat), m0 - i < N_4 → (i ≤ m0) → (y = v0 ^ i) → ∀ (H : Heap) (locs : List Loc) (ls : Array Slot), va_P D cls [] H → va_D (va_A [] sz) [] → va_S (va_A [] sz) s.heap H locs → lv_has ls 4 [(0, .int (zI ((v0 : Nat) : Int))), (1, .int (zI ((m0 : Nat) : Int))), (2, .int (zI ((y : Nat) : Int))), (3, .int (zI ((i : Nat) : Int)))] → W p l e ({ frames := 0, cells := 0, slots := 0, locals := 0 }) s m args below meth c H locs 0 0 Qf (F0 m 4 ls []) := by
    intro N_4
    induction N_4 with
    | zero => intro i y hm_4; exact absurd hm_4 (Nat.not_lt_zero _)
    | succ N_4 ih_4 =>
      intro i y hm_4 hi hy H locs ls hP hD hS hl
      refine lv_iload_n hx hb dX4_power_4 rfl (lv_at hl 3 rfl) ?_
      refine lv_iload_n hx hb dX4_power_5 rfl (lv_at hl 1 rfl) ?_
      refine z_icmp_ge (tgt := 19) hx hb (by omega) dX4_power_6 (by decide) (fun c_6 => ?_) (fun c_6 => ?_)
      · refine lv_iload_n hx hb dX4_power_19 rfl (lv_at hl 2 rfl) ?_
        rw [← hQf]
        exact z_iret K hS () (by rw [hy, show i = m0 by omega]) hP hD dX4_power_20
      · refine lv_iload_n hx hb dX4_power_9 rfl (lv_at hl 2 rfl) ?_
        refine lv_iload_n hx hb dX4_power_10 rfl (lv_at hl 0 rfl) ?_
        refine z_imul hx hb (((y * v0) : Nat) : Int) (by first | omega | exact (Int.natCast_mul _ _).symm) dX4_power_11 ?_
        refine lv_istore_n (lv' := [(2, .int (zI (((y * v0) : Nat) : Int))), (0, .int (zI ((v0 : Nat) : Int))), (1, .int (zI ((m0 : Nat) : Int))), (3, .int (zI ((i : Nat) : Int)))]) hx hb dX4_power_12 rfl hl (by decide) rfl (fun ls hl => ?_)
        refine z_iinc (k := 3) (lv' := [(3, .int (zI (((i + 1) : Nat) : Int))), (2, .int (zI (((y * v0) : Nat) : Int))), (0, .int (zI ((v0 : Nat) : Int))), (1, .int (zI ((m0 : Nat) : Int)))]) hx hb (((i + 1) : Nat) : Int) (by omega) dX4_power_13 hl rfl (by decide) rfl (fun ls hl => ?_)
        refine lv_goto (tgt := 4) hx hb dX4_power_16 (by decide) ?_
        exact ih_4 (i + 1) (y * v0) (by omega) (by omega) (by rw [hy, Nat.pow_succ]) _ _ _ hP hD hS (lv_sub hl [2, 3, 1, 0] rfl)
  exact cut_4 (m0 - 0 + 1) 0 1 (Nat.lt_succ_self _) (by omega) (by rfl) _ _ _ hP hD hS (lv_sub hl [2, 3, 1, 0] rfl)
set_option maxHeartbeats 4000000 in
set_option maxRecDepth 100000 in
theorem c_X4_kindBy (l : Launch) (D : va_G) (cI : ClassId) (c0 : Int) (hc0 : -2147483648 ≤ c0 ∧ c0 < 2147483648) : zMi l yX4_kindBy cX4_kindBy 1 (some .int) ({ frames := 0, cells := 0, slots := 0, locals := 0 }) D cI [.int (zI c0)] [] (fun (z : Int) (u : Unit) => z = (kdB c0)) (fun (u : Unit) => []) := by
  intro sz
  refine zstart rfl (by decide) (Nat.le_of_ble_eq_true rfl) ?_
  intro p e s m below meth c ls K hnm hsz hP hD hS hl
  generalize hargs : ([.int (zI c0)] : List Value).toArray = args at K ⊢
  generalize hQf : MQ below _ args s _ _ _ = Qf
  have K : zK p s m args meth c cX4_kindBy 1 RX4 (some .int) D cI := K
  obtain ⟨hx, hb, hml, hown, hts, hE, -, -⟩ := id K
  have hA := zhA (ws0 := []) hsz
  have hl : lv_has ls 1 [(0, .int (zI c0))] := hl
  refine lv_iload_n hx hb dX4_kindBy_0 rfl (lv_at hl 0 rfl) ?_
  rcases (show c0 = 99 ∨ c0 = 100 ∨ c0 = 111 ∨ c0 = 115 ∨ c0 = 116 ∨ (c0 ≠ 99 ∧ c0 ≠ 100 ∧ c0 ≠ 111 ∧ c0 ≠ 115 ∧ c0 ≠ 116) by omega) with c_1 | c_1 | c_1 | c_1 | c_1 | c_1
  · refine lv_lookup (off := 53) (tgt := 54) hx hb dX4_kindBy_1 (by decide) (by rw [zI_toInt (by omega), c_1]; first | done | rfl | decide) (by decide) ?_
    refine lv_iconst (v := zI 1) hx hb dX4_kindBy_54 rfl ?_
    rw [← hQf]
    exact z_iret K hS () (by rw [c_1]; rfl) hP hD dX4_kindBy_55
  · refine lv_lookup (off := 55) (tgt := 56) hx hb dX4_kindBy_1 (by decide) (by rw [zI_toInt (by omega), c_1]; first | done | rfl | decide) (by decide) ?_
    refine lv_iconst (v := zI 2) hx hb dX4_kindBy_56 rfl ?_
    rw [← hQf]
    exact z_iret K hS () (by rw [c_1]; rfl) hP hD dX4_kindBy_57
  · refine lv_lookup (off := 59) (tgt := 60) hx hb dX4_kindBy_1 (by decide) (by rw [zI_toInt (by omega), c_1]; first | done | rfl | decide) (by decide) ?_
    refine lv_iconst (v := zI 4) hx hb dX4_kindBy_60 rfl ?_
    rw [← hQf]
    exact z_iret K hS () (by rw [c_1]; rfl) hP hD dX4_kindBy_61
  · refine lv_lookup (off := 51) (tgt := 52) hx hb dX4_kindBy_1 (by decide) (by rw [zI_toInt (by omega), c_1]; first | done | rfl | decide) (by decide) ?_
    refine lv_iconst (v := zI 0) hx hb dX4_kindBy_52 rfl ?_
    rw [← hQf]
    exact z_iret K hS () (by rw [c_1]; rfl) hP hD dX4_kindBy_53
  · refine lv_lookup (off := 57) (tgt := 58) hx hb dX4_kindBy_1 (by decide) (by rw [zI_toInt (by omega), c_1]; first | done | rfl | decide) (by decide) ?_
    refine lv_iconst (v := zI 3) hx hb dX4_kindBy_58 rfl ?_
    rw [← hQf]
    exact z_iret K hS () (by rw [c_1]; rfl) hP hD dX4_kindBy_59
  · refine lv_lookup (off := 61) (tgt := 62) hx hb dX4_kindBy_1 (by decide) (by rw [zI_toInt (by omega)]; obtain ⟨e0, e1, e2, e3, e4⟩ := c_1; simp [Op.lookupswitch.offset, e0, e1, e2, e3, e4, Ne.symm e0, Ne.symm e1, Ne.symm e2, Ne.symm e3, Ne.symm e4]) (by decide) ?_
    refine lv_iconst (v := zI (-1)) hx hb dX4_kindBy_62 rfl ?_
    rw [← hQf]
    exact z_iret K hS () (by unfold kdB; rw [if_neg (by omega), if_neg (by omega), if_neg (by omega), if_neg (by omega), if_neg (by omega)]) hP hD dX4_kindBy_63
set_option maxHeartbeats 4000000 in
set_option maxRecDepth 100000 in
theorem c_X4_lacks (l : Launch) (D : va_G) (cI : ClassId) (h : Nat) (b : Nat → Nat) (pm n k d rr hd sm : Nat) (kr kq ku s0 s1 s2 s3 s4 s5 hs : Int) (hk : k ≤ 6) : zMi l yX4_lacks cX4_lacks 1 (some .boolean) ({ frames := 0, cells := 0, slots := 0, locals := 0 }) D cI [.ref h] [cM h b ((pm : Nat) : Int) ((n : Nat) : Int) ((k : Nat) : Int) ((d : Nat) : Int) ((rr : Nat) : Int) ((hd : Nat) : Int) ((sm : Nat) : Int) kr kq ku s0 s1 s2 s3 s4 s5 hs] (fun (z : Int) (u : Unit) => z = (b01 (k = 0))) (fun (u : Unit) => [cM h b ((pm : Nat) : Int) ((n : Nat) : Int) ((k : Nat) : Int) ((d : Nat) : Int) ((rr : Nat) : Int) ((hd : Nat) : Int) ((sm : Nat) : Int) kr kq ku s0 s1 s2 s3 s4 s5 hs]) := by
  intro sz
  refine zstart rfl (by decide) (Nat.le_of_ble_eq_true rfl) ?_
  intro p e s m below meth c ls K hnm hsz hP hD hS hl
  generalize hargs : ([.ref h] : List Value).toArray = args at K ⊢
  generalize hQf : MQ below _ args s _ _ _ = Qf
  have K : zK p s m args meth c cX4_lacks 1 RX4 (some .boolean) D cI := K
  obtain ⟨hx, hb, hml, hown, hts, hE, -, -⟩ := id K
  have hA := zhA (ws0 := [cM h b ((pm : Nat) : Int) ((n : Nat) : Int) ((k : Nat) : Int) ((d : Nat) : Int) ((rr : Nat) : Int) ((hd : Nat) : Int) ((sm : Nat) : Int) kr kq ku s0 s1 s2 s3 s4 s5 hs]) hsz
  have hl : lv_has ls 1 [(0, .ref h)] := hl
  refine lv_aload_n hx hb dX4_lacks_0 rfl (lv_at hl 0 rfl) ?_
  refine va_get (D := D) (ci := 4) (v := .int (zI ((k : Nat) : Int))) (C := RX4) (T := TX4) (N := 32) hx hb hts inT_X4 hown hE.1 hP 0 rfl rfl 3 (by decide) (hts _ qf_X4_89) (fun _ h9 => h9) rfl dX4_lacks_1 ?_
  refine z_if_ne (tgt := 11) hx hb (by omega) dX4_lacks_4 (by decide) (fun c_4 => ?_) (fun c_4 => ?_)
  · refine lv_iconst (v := zI 0) hx hb dX4_lacks_11 rfl ?_
    rw [← hQf]
    exact z_bret K hS () (by first | exact (b01_t (by omega)).symm | exact (b01_f (by omega)).symm) (by omega) hP hD dX4_lacks_12
  · refine lv_iconst (v := zI 1) hx hb dX4_lacks_7 rfl ?_
    refine lv_goto (tgt := 12) hx hb dX4_lacks_8 (by decide) ?_
    rw [← hQf]
    exact z_bret K hS () (by first | exact (b01_t (by omega)).symm | exact (b01_f (by omega)).symm) (by omega) hP hD dX4_lacks_12
set_option maxHeartbeats 4000000 in
set_option maxRecDepth 100000 in
theorem c_X4_isStep (l : Launch) (D : va_G) (cI : ClassId) (h : Nat) (b : Nat → Nat) (pm n k d rr hd sm : Nat) (kr kq ku s0 s1 s2 s3 s4 s5 hs : Int) (y1 : Int) (hk0 : k ≤ 6) (hy1 : -2147483648 ≤ y1 ∧ y1 < 2147483648) : zMi l yX4_isStep cX4_isStep 2 (some .boolean) ({ frames := 1, cells := 0, slots := 0, locals := 25 }) D cI [.ref h, .int (zI y1)] [cM h b ((pm : Nat) : Int) ((n : Nat) : Int) ((k : Nat) : Int) ((d : Nat) : Int) ((rr : Nat) : Int) ((hd : Nat) : Int) ((sm : Nat) : Int) kr kq ku s0 s1 s2 s3 s4 s5 hs] (fun (z : Int) (u : Unit) => z = (b01 (0 ≤ y1 ∧ y1 < k))) (fun (u : Unit) => [cM h b ((pm : Nat) : Int) ((n : Nat) : Int) ((k : Nat) : Int) ((d : Nat) : Int) ((rr : Nat) : Int) ((hd : Nat) : Int) ((sm : Nat) : Int) kr kq ku s0 s1 s2 s3 s4 s5 hs]) := by
  intro sz
  refine zstart rfl (by decide) (Nat.le_of_ble_eq_true rfl) ?_
  intro p e s m below meth c ls K hnm hsz hP hD hS hl
  generalize hargs : ([.ref h, .int (zI y1)] : List Value).toArray = args at K ⊢
  generalize hQf : MQ below _ args s _ _ _ = Qf
  have K : zK p s m args meth c cX4_isStep 2 RX4 (some .boolean) D cI := K
  obtain ⟨hx, hb, hml, hown, hts, hE, -, -⟩ := id K
  have hA := zhA (ws0 := [cM h b ((pm : Nat) : Int) ((n : Nat) : Int) ((k : Nat) : Int) ((d : Nat) : Int) ((rr : Nat) : Int) ((hd : Nat) : Int) ((sm : Nat) : Int) kr kq ku s0 s1 s2 s3 s4 s5 hs]) hsz
  have hl : lv_has ls 2 [(0, .ref h), (1, .int (zI y1))] := hl
  refine lv_iload_n hx hb dX4_isStep_0 rfl (lv_at hl 1 rfl) ?_
  refine z_i2l hx hb (by omega) dX4_isStep_1 ?_
  refine lv_lconst (v := zL 0) hx hb dX4_isStep_2 (by decide) ?_
  refine lv_aload_n hx hb dX4_isStep_3 rfl (lv_at hl 0 rfl) ?_
  refine va_get (D := D) (ci := 4) (v := .int (zI ((k : Nat) : Int))) (C := RX4) (T := TX4) (N := 32) hx hb hts inT_X4 hown hE.1 hP 0 rfl rfl 3 (by decide) (hts _ qf_X4_89) (fun _ h9 => h9) rfl dX4_isStep_4 ?_
  refine lv_iconst (v := zI 1) hx hb dX4_isStep_7 rfl ?_
  refine z_isub hx hb (((k : Nat) : Int) - 1) rfl dX4_isStep_8 ?_
  refine z_i2l hx hb (by omega) dX4_isStep_9 ?_
  refine zcall_i (wc := []) (wr := [cM h b ((pm : Nat) : Int) ((n : Nat) : Int) ((k : Nat) : Int) ((d : Nat) : Int) ((rr : Nat) : Int) ((hd : Nat) : Int) ((sm : Nat) : Int) kr kq ku s0 s1 s2 s3 s4 s5 hs]) (rest := []) hE hP hD hS hA [] [0] [0] rfl rfl (by decide) (by decide) (by decide) (fun (u : Unit) => [cM h b ((pm : Nat) : Int) ((n : Nat) : Int) ((k : Nat) : Int) ((d : Nat) : Int) ((rr : Nat) : Int) ((hd : Nat) : Int) ((sm : Nat) : Int) kr kq ku s0 s1 s2 s3 s4 s5 hs]) (fun u => rfl) (fun hPc hDc => zrunS (As := [.long (zL y1), .long (zL 0), .long (zL (((k : Nat) : Int) - 1))]) (rest := []) K k_X4_in qm_X4_61 ⟨⟨rfl, rfl⟩, ⟨Nat.le_of_ble_eq_true rfl, Nat.le_of_ble_eq_true rfl⟩⟩ hPc hDc (c_X4_in l D cI y1 0 (((k : Nat) : Int) - 1) (by first | assumption | omega) (by first | assumption | omega) (by first | assumption | omega) _) rfl hl.1 rfl (Nat.le_of_ble_eq_true rfl) dX4_isStep_10 ⟨Nat.zero_le _, Nat.zero_le _⟩) (by decide) (fun z u H locs hpost hP hD hS => ?_)
  subst hpost
  have hP : va_P D cls [cM h b ((pm : Nat) : Int) ((n : Nat) : Int) ((k : Nat) : Int) ((d : Nat) : Int) ((rr : Nat) : Int) ((hd : Nat) : Int) ((sm : Nat) : Int) kr kq ku s0 s1 s2 s3 s4 s5 hs] H := hP
  have hD : va_D (va_A [cM h b ((pm : Nat) : Int) ((n : Nat) : Int) ((k : Nat) : Int) ((d : Nat) : Int) ((rr : Nat) : Int) ((hd : Nat) : Int) ((sm : Nat) : Int) kr kq ku s0 s1 s2 s3 s4 s5 hs] sz) [cM h b ((pm : Nat) : Int) ((n : Nat) : Int) ((k : Nat) : Int) ((d : Nat) : Int) ((rr : Nat) : Int) ((hd : Nat) : Int) ((sm : Nat) : Int) kr kq ku s0 s1 s2 s3 s4 s5 hs] := hD
  refine W.eq (g2 := F0 m 13 ls [.int (zI (b01 (0 ≤ y1 ∧ y1 ≤ (((k : Nat) : Int) - 1))))]) rfl ?_
  rw [← hQf]
  exact z_bret K hS () (by exact b01_c (by omega)) (by exact b01_01 _) hP hD dX4_isStep_13
set_option maxHeartbeats 4000000 in
set_option maxRecDepth 100000 in
theorem c_X4_isPlace (l : Launch) (D : va_G) (cI : ClassId) (h : Nat) (b : Nat → Nat) (pm n k d rr hd sm : Nat) (kr kq ku s0 s1 s2 s3 s4 s5 hs : Int) (y1 : Int) (hk0 : n ≤ 12) (hy1 : -2147483648 ≤ y1 ∧ y1 < 2147483648) : zMi l yX4_isPlace cX4_isPlace 2 (some .boolean) ({ frames := 1, cells := 0, slots := 0, locals := 25 }) D cI [.ref h, .int (zI y1)] [cM h b ((pm : Nat) : Int) ((n : Nat) : Int) ((k : Nat) : Int) ((d : Nat) : Int) ((rr : Nat) : Int) ((hd : Nat) : Int) ((sm : Nat) : Int) kr kq ku s0 s1 s2 s3 s4 s5 hs] (fun (z : Int) (u : Unit) => z = (b01 (0 ≤ y1 ∧ y1 < n))) (fun (u : Unit) => [cM h b ((pm : Nat) : Int) ((n : Nat) : Int) ((k : Nat) : Int) ((d : Nat) : Int) ((rr : Nat) : Int) ((hd : Nat) : Int) ((sm : Nat) : Int) kr kq ku s0 s1 s2 s3 s4 s5 hs]) := by
  intro sz
  refine zstart rfl (by decide) (Nat.le_of_ble_eq_true rfl) ?_
  intro p e s m below meth c ls K hnm hsz hP hD hS hl
  generalize hargs : ([.ref h, .int (zI y1)] : List Value).toArray = args at K ⊢
  generalize hQf : MQ below _ args s _ _ _ = Qf
  have K : zK p s m args meth c cX4_isPlace 2 RX4 (some .boolean) D cI := K
  obtain ⟨hx, hb, hml, hown, hts, hE, -, -⟩ := id K
  have hA := zhA (ws0 := [cM h b ((pm : Nat) : Int) ((n : Nat) : Int) ((k : Nat) : Int) ((d : Nat) : Int) ((rr : Nat) : Int) ((hd : Nat) : Int) ((sm : Nat) : Int) kr kq ku s0 s1 s2 s3 s4 s5 hs]) hsz
  have hl : lv_has ls 2 [(0, .ref h), (1, .int (zI y1))] := hl
  refine lv_iload_n hx hb dX4_isPlace_0 rfl (lv_at hl 1 rfl) ?_
  refine z_i2l hx hb (by omega) dX4_isPlace_1 ?_
  refine lv_lconst (v := zL 0) hx hb dX4_isPlace_2 (by decide) ?_
  refine lv_aload_n hx hb dX4_isPlace_3 rfl (lv_at hl 0 rfl) ?_
  refine va_get (D := D) (ci := 4) (v := .int (zI ((n : Nat) : Int))) (C := RX4) (T := TX4) (N := 32) hx hb hts inT_X4 hown hE.1 hP 0 rfl rfl 2 (by decide) (hts _ qf_X4_86) (fun _ h9 => h9) rfl dX4_isPlace_4 ?_
  refine lv_iconst (v := zI 1) hx hb dX4_isPlace_7 rfl ?_
  refine z_isub hx hb (((n : Nat) : Int) - 1) rfl dX4_isPlace_8 ?_
  refine z_i2l hx hb (by omega) dX4_isPlace_9 ?_
  refine zcall_i (wc := []) (wr := [cM h b ((pm : Nat) : Int) ((n : Nat) : Int) ((k : Nat) : Int) ((d : Nat) : Int) ((rr : Nat) : Int) ((hd : Nat) : Int) ((sm : Nat) : Int) kr kq ku s0 s1 s2 s3 s4 s5 hs]) (rest := []) hE hP hD hS hA [] [0] [0] rfl rfl (by decide) (by decide) (by decide) (fun (u : Unit) => [cM h b ((pm : Nat) : Int) ((n : Nat) : Int) ((k : Nat) : Int) ((d : Nat) : Int) ((rr : Nat) : Int) ((hd : Nat) : Int) ((sm : Nat) : Int) kr kq ku s0 s1 s2 s3 s4 s5 hs]) (fun u => rfl) (fun hPc hDc => zrunS (As := [.long (zL y1), .long (zL 0), .long (zL (((n : Nat) : Int) - 1))]) (rest := []) K k_X4_in qm_X4_61 ⟨⟨rfl, rfl⟩, ⟨Nat.le_of_ble_eq_true rfl, Nat.le_of_ble_eq_true rfl⟩⟩ hPc hDc (c_X4_in l D cI y1 0 (((n : Nat) : Int) - 1) (by first | assumption | omega) (by first | assumption | omega) (by first | assumption | omega) _) rfl hl.1 rfl (Nat.le_of_ble_eq_true rfl) dX4_isPlace_10 ⟨Nat.zero_le _, Nat.zero_le _⟩) (by decide) (fun z u H locs hpost hP hD hS => ?_)
  subst hpost
  have hP : va_P D cls [cM h b ((pm : Nat) : Int) ((n : Nat) : Int) ((k : Nat) : Int) ((d : Nat) : Int) ((rr : Nat) : Int) ((hd : Nat) : Int) ((sm : Nat) : Int) kr kq ku s0 s1 s2 s3 s4 s5 hs] H := hP
  have hD : va_D (va_A [cM h b ((pm : Nat) : Int) ((n : Nat) : Int) ((k : Nat) : Int) ((d : Nat) : Int) ((rr : Nat) : Int) ((hd : Nat) : Int) ((sm : Nat) : Int) kr kq ku s0 s1 s2 s3 s4 s5 hs] sz) [cM h b ((pm : Nat) : Int) ((n : Nat) : Int) ((k : Nat) : Int) ((d : Nat) : Int) ((rr : Nat) : Int) ((hd : Nat) : Int) ((sm : Nat) : Int) kr kq ku s0 s1 s2 s3 s4 s5 hs] := hD
  refine W.eq (g2 := F0 m 13 ls [.int (zI (b01 (0 ≤ y1 ∧ y1 ≤ (((n : Nat) : Int) - 1))))]) rfl ?_
  rw [← hQf]
  exact z_bret K hS () (by exact b01_c (by omega)) (by exact b01_01 _) hP hD dX4_isPlace_13
set_option maxHeartbeats 4000000 in
set_option maxRecDepth 100000 in
theorem c_X4_layFirst (l : Launch) (D : va_G) (cI : ClassId) (h : Nat) (b : Nat → Nat) (pm n k d rr hd sm : Nat) (kr kq ku s0 s1 s2 s3 s4 s5 hs : Int) (g3 : Nat → Int) (hn : n ≤ 12) : zMv l yX4_layFirst cX4_layFirst 2 none ({ frames := 0, cells := 0, slots := 0, locals := 0 }) D cI [.ref h] [cM h b ((pm : Nat) : Int) ((n : Nat) : Int) ((k : Nat) : Int) ((d : Nat) : Int) ((rr : Nat) : Int) ((hd : Nat) : Int) ((sm : Nat) : Int) kr kq ku s0 s1 s2 s3 s4 s5 hs, cR cI (b 3) 12 g3] (fun (u : Unit) => True) (fun (u : Unit) => [cM h b ((pm : Nat) : Int) ((n : Nat) : Int) ((k : Nat) : Int) ((d : Nat) : Int) ((rr : Nat) : Int) ((hd : Nat) : Int) ((sm : Nat) : Int) kr kq ku s0 s1 s2 s3 s4 s5 hs, cR cI (b 3) 12 (zcp (fun j => (j : Int)) g3 n)]) := by
  intro sz
  refine zstart rfl (by decide) (Nat.le_of_ble_eq_true rfl) ?_
  intro p e s m below meth c ls K hnm hsz hP hD hS hl
  generalize hargs : ([.ref h] : List Value).toArray = args at K ⊢
  generalize hQf : MQ below _ args s _ _ _ = Qf
  have K : zK p s m args meth c cX4_layFirst 2 RX4 none D cI := K
  obtain ⟨hx, hb, hml, hown, hts, hE, -, -⟩ := id K
  have hA := zhA (ws0 := [cM h b ((pm : Nat) : Int) ((n : Nat) : Int) ((k : Nat) : Int) ((d : Nat) : Int) ((rr : Nat) : Int) ((hd : Nat) : Int) ((sm : Nat) : Int) kr kq ku s0 s1 s2 s3 s4 s5 hs, cR cI (b 3) 12 g3]) hsz
  have hl : lv_has ls 2 [(0, .ref h)] := hl
  refine lv_iconst (v := zI 0) hx hb dX4_layFirst_0 rfl ?_
  refine lv_istore_n (lv' := [(1, .int (zI 0)), (0, .ref h)]) hx hb dX4_layFirst_1 rfl hl (by decide) rfl (fun ls hl => ?_)
  have cut_2 : ∀ (N_2 : Nat), ∀ (i : Nat) (f : Nat → Int), n - i < N_2 → (i ≤ n) → (f = zcp (fun j => (j : Int)) g3 i) → ∀ (H : Heap) (locs : List Loc) (ls : Array Slot), va_P D cls [cM h b ((pm : Nat) : Int) ((n : Nat) : Int) ((k : Nat) : Int) ((d : Nat) : Int) ((rr : Nat) : Int) ((hd : Nat) : Int) ((sm : Nat) : Int) kr kq ku s0 s1 s2 s3 s4 s5 hs, cR cI (b 3) 12 f] H → va_D (va_A [cM h b ((pm : Nat) : Int) ((n : Nat) : Int) ((k : Nat) : Int) ((d : Nat) : Int) ((rr : Nat) : Int) ((hd : Nat) : Int) ((sm : Nat) : Int) kr kq ku s0 s1 s2 s3 s4 s5 hs, cR cI (b 3) 12 g3] sz) [cM h b ((pm : Nat) : Int) ((n : Nat) : Int) ((k : Nat) : Int) ((d : Nat) : Int) ((rr : Nat) : Int) ((hd : Nat) : Int) ((sm : Nat) : Int) kr kq ku s0 s1 s2 s3 s4 s5 hs, cR cI (b 3) 12 f] → va_S (va_A [cM h b ((pm : Nat) : Int) ((n : Nat) : Int) ((k : Nat) : Int) ((d : Nat) : Int) ((rr : Nat) : Int) ((hd : Nat) : Int) ((sm : Nat) : Int) kr kq ku s0 s1 s2 s3 s4 s5 hs, cR cI (b 3) 12 g3] sz) s.heap H locs → lv_has ls 2 [(0, .ref h), (1, .int (zI ((i : Nat) : Int)))] → W p l e ({ frames := 0, cells := 0, slots := 0, locals := 0 }) s m args below meth c H locs 0 0 Qf (F0 m 2 ls []) := by
    intro N_2
    induction N_2 with
    | zero => intro i f hm_2; exact absurd hm_2 (Nat.not_lt_zero _)
    | succ N_2 ih_2 =>
      intro i f hm_2 hi hf H locs ls hP hD hS hl
      refine lv_iload_n hx hb dX4_layFirst_2 rfl (lv_at hl 1 rfl) ?_
      refine lv_aload_n hx hb dX4_layFirst_3 rfl (lv_at hl 0 rfl) ?_
      refine va_get (D := D) (ci := 4) (v := .int (zI ((n : Nat) : Int))) (C := RX4) (T := TX4) (N := 32) hx hb hts inT_X4 hown hE.1 hP 0 rfl rfl 2 (by decide) (hts _ qf_X4_86) (fun _ h9 => h9) rfl dX4_layFirst_4 ?_
      refine z_icmp_ge (tgt := 23) hx hb (by omega) dX4_layFirst_7 (by decide) (fun c_7 => ?_) (fun c_7 => ?_)
      · have e1 : f = zcp (fun j => (j : Int)) g3 n := by rw [hf, show i = n by omega]
        subst e1
        rw [← hQf]
        exact z_vret K hS () trivial hP hD dX4_layFirst_23
      · refine lv_aload_n hx hb dX4_layFirst_10 rfl (lv_at hl 0 rfl) ?_
        refine va_get (D := D) (ci := 4) (v := .ref (b 3)) (C := RX4) (T := TX4) (N := 32) hx hb hts inT_X4 hown hE.1 hP 0 rfl rfl 8 (by decide) (hts _ qf_X4_19) (fun _ h9 => h9) rfl dX4_layFirst_11 ?_
        refine lv_iload_n hx hb dX4_layFirst_14 rfl (lv_at hl 1 rfl) ?_
        refine lv_iload_n hx hb dX4_layFirst_15 rfl (lv_at hl 1 rfl) ?_
        refine z_iast hx hb hE hP hD hS 1 rfl i (by omega) (by omega) (by first | decide | omega) (zup f i ((i : Nat) : Int)) rfl dX4_layFirst_16 (fun H locs hP hD hS => ?_)
        have hP : va_P D cls [cM h b ((pm : Nat) : Int) ((n : Nat) : Int) ((k : Nat) : Int) ((d : Nat) : Int) ((rr : Nat) : Int) ((hd : Nat) : Int) ((sm : Nat) : Int) kr kq ku s0 s1 s2 s3 s4 s5 hs, cR cI (b 3) 12 (zup f i ((i : Nat) : Int))] H := hP
        have hD : va_D (va_A [cM h b ((pm : Nat) : Int) ((n : Nat) : Int) ((k : Nat) : Int) ((d : Nat) : Int) ((rr : Nat) : Int) ((hd : Nat) : Int) ((sm : Nat) : Int) kr kq ku s0 s1 s2 s3 s4 s5 hs, cR cI (b 3) 12 g3] sz) [cM h b ((pm : Nat) : Int) ((n : Nat) : Int) ((k : Nat) : Int) ((d : Nat) : Int) ((rr : Nat) : Int) ((hd : Nat) : Int) ((sm : Nat) : Int) kr kq ku s0 s1 s2 s3 s4 s5 hs, cR cI (b 3) 12 (zup f i ((i : Nat) : Int))] := hD
        refine z_iinc (k := 1) (lv' := [(1, .int (zI (((i + 1) : Nat) : Int))), (0, .ref h)]) hx hb (((i + 1) : Nat) : Int) (by omega) dX4_layFirst_17 hl rfl (by decide) rfl (fun ls hl => ?_)
        refine lv_goto (tgt := 2) hx hb dX4_layFirst_20 (by decide) ?_
        exact ih_2 (i + 1) (zup f i ((i : Nat) : Int)) (by omega) (by omega) (by rw [hf]; exact zcp_s rfl) _ _ _ hP hD hS (lv_sub hl [1, 0] rfl)
  exact cut_2 (n - 0 + 1) 0 g3 (Nat.lt_succ_self _) (by omega) (by exact (zcp_0 _ _).symm) _ _ _ hP hD hS (lv_sub hl [1, 0] rfl)
set_option maxHeartbeats 4000000 in
set_option maxRecDepth 100000 in
theorem c_X4_byStep (l : Launch) (D : va_G) (cI : ClassId) (h : Nat) (b : Nat → Nat) (pm n k d rr hd sm : Nat) (kr kq ku s0 s1 s2 s3 s4 s5 hs : Int) (nm p0 : Nat) (hnm0 : nm ≤ 9) (hn : 2 ≤ n ∧ n ≤ 12) (hp0 : p0 < n) : zMi l yX4_byStep cX4_byStep 4 (some .int) ({ frames := 0, cells := 0, slots := 0, locals := 0 }) D cI [.ref h, .int (zI ((nm : Nat) : Int)), .int (zI ((p0 : Nat) : Int))] [cM h b ((pm : Nat) : Int) ((n : Nat) : Int) ((k : Nat) : Int) ((d : Nat) : Int) ((rr : Nat) : Int) ((hd : Nat) : Int) ((sm : Nat) : Int) kr kq ku s0 s1 s2 s3 s4 s5 hs] (fun (z : Int) (u : Unit) => z = (((if p0 = 0 then min nm (n - 1) else if p0 ≤ min nm (n - 1) then p0 - 1 else p0) : Nat) : Int)) (fun (u : Unit) => [cM h b ((pm : Nat) : Int) ((n : Nat) : Int) ((k : Nat) : Int) ((d : Nat) : Int) ((rr : Nat) : Int) ((hd : Nat) : Int) ((sm : Nat) : Int) kr kq ku s0 s1 s2 s3 s4 s5 hs]) := by
  intro sz
  refine zstart rfl (by decide) (Nat.le_of_ble_eq_true rfl) ?_
  intro p e s m below meth c ls K hnm hsz hP hD hS hl
  generalize hargs : ([.ref h, .int (zI ((nm : Nat) : Int)), .int (zI ((p0 : Nat) : Int))] : List Value).toArray = args at K ⊢
  generalize hQf : MQ below _ args s _ _ _ = Qf
  have K : zK p s m args meth c cX4_byStep 4 RX4 (some .int) D cI := K
  obtain ⟨hx, hb, hml, hown, hts, hE, -, -⟩ := id K
  have hA := zhA (ws0 := [cM h b ((pm : Nat) : Int) ((n : Nat) : Int) ((k : Nat) : Int) ((d : Nat) : Int) ((rr : Nat) : Int) ((hd : Nat) : Int) ((sm : Nat) : Int) kr kq ku s0 s1 s2 s3 s4 s5 hs]) hsz
  have hl : lv_has ls 4 [(0, .ref h), (1, .int (zI ((nm : Nat) : Int))), (2, .int (zI ((p0 : Nat) : Int)))] := hl
  refine lv_iload_n hx hb dX4_byStep_0 rfl (lv_at hl 1 rfl) ?_
  refine lv_aload_n hx hb dX4_byStep_1 rfl (lv_at hl 0 rfl) ?_
  refine va_get (D := D) (ci := 4) (v := .int (zI ((n : Nat) : Int))) (C := RX4) (T := TX4) (N := 32) hx hb hts inT_X4 hown hE.1 hP 0 rfl rfl 2 (by decide) (hts _ qf_X4_86) (fun _ h9 => h9) rfl dX4_byStep_2 ?_
  refine z_icmp_ge (tgt := 12) hx hb (by omega) dX4_byStep_5 (by decide) (fun c_5 => ?_) (fun c_5 => ?_)
  · refine lv_aload_n hx hb dX4_byStep_12 rfl (lv_at hl 0 rfl) ?_
    refine va_get (D := D) (ci := 4) (v := .int (zI ((n : Nat) : Int))) (C := RX4) (T := TX4) (N := 32) hx hb hts inT_X4 hown hE.1 hP 0 rfl rfl 2 (by decide) (hts _ qf_X4_86) (fun _ h9 => h9) rfl dX4_byStep_13 ?_
    refine lv_iconst (v := zI 1) hx hb dX4_byStep_16 rfl ?_
    refine z_isub hx hb ((n - 1 : Nat) : Int) (by omega) dX4_byStep_17 ?_
    refine lv_istore_n (lv' := [(3, .int (zI ((n - 1 : Nat) : Int))), (0, .ref h), (1, .int (zI ((nm : Nat) : Int))), (2, .int (zI ((p0 : Nat) : Int)))]) hx hb dX4_byStep_18 rfl hl (by decide) rfl (fun ls hl => ?_)
    refine lv_iload_n hx hb dX4_byStep_19 rfl (lv_at hl 3 rfl) ?_
    refine z_if_ne (tgt := 27) hx hb (by omega) dX4_byStep_20 (by decide) (fun c_20 => ?_) (fun c_20 => ?_)
    · refine lv_iload_n hx hb dX4_byStep_27 rfl (lv_at hl 3 rfl) ?_
      refine lv_iload_n hx hb dX4_byStep_28 rfl (lv_at hl 0 rfl) ?_
      refine z_icmp_gt (tgt := 38) hx hb (by omega) dX4_byStep_29 (by decide) (fun c_29 => ?_) (fun c_29 => ?_)
      · refine lv_iload_n hx hb dX4_byStep_38 rfl (lv_at hl 3 rfl) ?_
        rw [← hQf]
        exact z_iret K hS () (by split <;> (try split) <;> omega) hP hD dX4_byStep_39
      · refine lv_iload_n hx hb dX4_byStep_32 rfl (lv_at hl 3 rfl) ?_
        refine lv_iconst (v := zI 1) hx hb dX4_byStep_33 rfl ?_
        refine z_isub hx hb ((p0 - 1 : Nat) : Int) (by omega) dX4_byStep_34 ?_
        refine lv_goto (tgt := 39) hx hb dX4_byStep_35 (by decide) ?_
        rw [← hQf]
        exact z_iret K hS () (by split <;> (try split) <;> omega) hP hD dX4_byStep_39
    · refine lv_iload_n hx hb dX4_byStep_23 rfl (lv_at hl 0 rfl) ?_
      refine lv_goto (tgt := 39) hx hb dX4_byStep_24 (by decide) ?_
      rw [← hQf]
      exact z_iret K hS () (by split <;> (try split) <;> omega) hP hD dX4_byStep_39
  · refine lv_iload_n hx hb dX4_byStep_8 rfl (lv_at hl 1 rfl) ?_
    refine lv_goto (tgt := 18) hx hb dX4_byStep_9 (by decide) ?_
    refine lv_istore_n (lv' := [(3, .int (zI ((nm : Nat) : Int))), (0, .ref h), (1, .int (zI ((nm : Nat) : Int))), (2, .int (zI ((p0 : Nat) : Int)))]) hx hb dX4_byStep_18 rfl hl (by decide) rfl (fun ls hl => ?_)
    refine lv_iload_n hx hb dX4_byStep_19 rfl (lv_at hl 3 rfl) ?_
    refine z_if_ne (tgt := 27) hx hb (by omega) dX4_byStep_20 (by decide) (fun c_20 => ?_) (fun c_20 => ?_)
    · refine lv_iload_n hx hb dX4_byStep_27 rfl (lv_at hl 3 rfl) ?_
      refine lv_iload_n hx hb dX4_byStep_28 rfl (lv_at hl 0 rfl) ?_
      refine z_icmp_gt (tgt := 38) hx hb (by omega) dX4_byStep_29 (by decide) (fun c_29 => ?_) (fun c_29 => ?_)
      · refine lv_iload_n hx hb dX4_byStep_38 rfl (lv_at hl 3 rfl) ?_
        rw [← hQf]
        exact z_iret K hS () (by split <;> (try split) <;> omega) hP hD dX4_byStep_39
      · refine lv_iload_n hx hb dX4_byStep_32 rfl (lv_at hl 3 rfl) ?_
        refine lv_iconst (v := zI 1) hx hb dX4_byStep_33 rfl ?_
        refine z_isub hx hb ((p0 - 1 : Nat) : Int) (by omega) dX4_byStep_34 ?_
        refine lv_goto (tgt := 39) hx hb dX4_byStep_35 (by decide) ?_
        rw [← hQf]
        exact z_iret K hS () (by split <;> (try split) <;> omega) hP hD dX4_byStep_39
    · refine lv_iload_n hx hb dX4_byStep_23 rfl (lv_at hl 0 rfl) ?_
      refine lv_goto (tgt := 39) hx hb dX4_byStep_24 (by decide) ?_
      rw [← hQf]
      exact z_iret K hS () (by split <;> (try split) <;> omega) hP hD dX4_byStep_39
set_option maxHeartbeats 4000000 in
set_option maxRecDepth 100000 in
theorem c_X4_byTurn (l : Launch) (D : va_G) (cI : ClassId) (h : Nat) (b : Nat → Nat) (pm n k d rr hd sm : Nat) (kr kq ku s0 s1 s2 s3 s4 s5 hs : Int) (nm p0 : Nat) (hnm0 : nm ≤ 9) (hn : 2 ≤ n ∧ n ≤ 12) (hp0 : p0 < n) : zMi l yX4_byTurn cX4_byTurn 4 (some .int) ({ frames := 0, cells := 0, slots := 0, locals := 0 }) D cI [.ref h, .int (zI ((nm : Nat) : Int)), .int (zI ((p0 : Nat) : Int))] [cM h b ((pm : Nat) : Int) ((n : Nat) : Int) ((k : Nat) : Int) ((d : Nat) : Int) ((rr : Nat) : Int) ((hd : Nat) : Int) ((sm : Nat) : Int) kr kq ku s0 s1 s2 s3 s4 s5 hs] (fun (z : Int) (u : Unit) => z = (((if p0 < min nm n then min nm n - 1 - p0 else p0) : Nat) : Int)) (fun (u : Unit) => [cM h b ((pm : Nat) : Int) ((n : Nat) : Int) ((k : Nat) : Int) ((d : Nat) : Int) ((rr : Nat) : Int) ((hd : Nat) : Int) ((sm : Nat) : Int) kr kq ku s0 s1 s2 s3 s4 s5 hs]) := by
  intro sz
  refine zstart rfl (by decide) (Nat.le_of_ble_eq_true rfl) ?_
  intro p e s m below meth c ls K hnm hsz hP hD hS hl
  generalize hargs : ([.ref h, .int (zI ((nm : Nat) : Int)), .int (zI ((p0 : Nat) : Int))] : List Value).toArray = args at K ⊢
  generalize hQf : MQ below _ args s _ _ _ = Qf
  have K : zK p s m args meth c cX4_byTurn 4 RX4 (some .int) D cI := K
  obtain ⟨hx, hb, hml, hown, hts, hE, -, -⟩ := id K
  have hA := zhA (ws0 := [cM h b ((pm : Nat) : Int) ((n : Nat) : Int) ((k : Nat) : Int) ((d : Nat) : Int) ((rr : Nat) : Int) ((hd : Nat) : Int) ((sm : Nat) : Int) kr kq ku s0 s1 s2 s3 s4 s5 hs]) hsz
  have hl : lv_has ls 4 [(0, .ref h), (1, .int (zI ((nm : Nat) : Int))), (2, .int (zI ((p0 : Nat) : Int)))] := hl
  refine lv_iload_n hx hb dX4_byTurn_0 rfl (lv_at hl 1 rfl) ?_
  refine lv_aload_n hx hb dX4_byTurn_1 rfl (lv_at hl 0 rfl) ?_
  refine va_get (D := D) (ci := 4) (v := .int (zI ((n : Nat) : Int))) (C := RX4) (T := TX4) (N := 32) hx hb hts inT_X4 hown hE.1 hP 0 rfl rfl 2 (by decide) (hts _ qf_X4_86) (fun _ h9 => h9) rfl dX4_byTurn_2 ?_
  refine z_icmp_ge (tgt := 12) hx hb (by omega) dX4_byTurn_5 (by decide) (fun c_5 => ?_) (fun c_5 => ?_)
  · refine lv_aload_n hx hb dX4_byTurn_12 rfl (lv_at hl 0 rfl) ?_
    refine va_get (D := D) (ci := 4) (v := .int (zI ((n : Nat) : Int))) (C := RX4) (T := TX4) (N := 32) hx hb hts inT_X4 hown hE.1 hP 0 rfl rfl 2 (by decide) (hts _ qf_X4_86) (fun _ h9 => h9) rfl dX4_byTurn_13 ?_
    refine lv_istore_n (lv' := [(3, .int (zI ((n : Nat) : Int))), (0, .ref h), (1, .int (zI ((nm : Nat) : Int))), (2, .int (zI ((p0 : Nat) : Int)))]) hx hb dX4_byTurn_16 rfl hl (by decide) rfl (fun ls hl => ?_)
    refine lv_iload_n hx hb dX4_byTurn_17 rfl (lv_at hl 3 rfl) ?_
    refine lv_iload_n hx hb dX4_byTurn_18 rfl (lv_at hl 0 rfl) ?_
    refine z_icmp_ge (tgt := 30) hx hb (by omega) dX4_byTurn_19 (by decide) (fun c_19 => ?_) (fun c_19 => ?_)
    · refine lv_iload_n hx hb dX4_byTurn_30 rfl (lv_at hl 3 rfl) ?_
      rw [← hQf]
      exact z_iret K hS () (by split <;> omega) hP hD dX4_byTurn_31
    · refine lv_iload_n hx hb dX4_byTurn_22 rfl (lv_at hl 0 rfl) ?_
      refine lv_iconst (v := zI 1) hx hb dX4_byTurn_23 rfl ?_
      refine z_isub hx hb (((n : Nat) : Int) - 1) rfl dX4_byTurn_24 ?_
      refine lv_iload_n hx hb dX4_byTurn_25 rfl (lv_at hl 3 rfl) ?_
      refine z_isub hx hb ((((n : Nat) : Int) - 1) - ((p0 : Nat) : Int)) rfl dX4_byTurn_26 ?_
      refine lv_goto (tgt := 31) hx hb dX4_byTurn_27 (by decide) ?_
      rw [← hQf]
      exact z_iret K hS () (by split <;> omega) hP hD dX4_byTurn_31
  · refine lv_iload_n hx hb dX4_byTurn_8 rfl (lv_at hl 1 rfl) ?_
    refine lv_goto (tgt := 16) hx hb dX4_byTurn_9 (by decide) ?_
    refine lv_istore_n (lv' := [(3, .int (zI ((nm : Nat) : Int))), (0, .ref h), (1, .int (zI ((nm : Nat) : Int))), (2, .int (zI ((p0 : Nat) : Int)))]) hx hb dX4_byTurn_16 rfl hl (by decide) rfl (fun ls hl => ?_)
    refine lv_iload_n hx hb dX4_byTurn_17 rfl (lv_at hl 3 rfl) ?_
    refine lv_iload_n hx hb dX4_byTurn_18 rfl (lv_at hl 0 rfl) ?_
    refine z_icmp_ge (tgt := 30) hx hb (by omega) dX4_byTurn_19 (by decide) (fun c_19 => ?_) (fun c_19 => ?_)
    · refine lv_iload_n hx hb dX4_byTurn_30 rfl (lv_at hl 3 rfl) ?_
      rw [← hQf]
      exact z_iret K hS () (by split <;> omega) hP hD dX4_byTurn_31
    · refine lv_iload_n hx hb dX4_byTurn_22 rfl (lv_at hl 0 rfl) ?_
      refine lv_iconst (v := zI 1) hx hb dX4_byTurn_23 rfl ?_
      refine z_isub hx hb (((nm : Nat) : Int) - 1) rfl dX4_byTurn_24 ?_
      refine lv_iload_n hx hb dX4_byTurn_25 rfl (lv_at hl 3 rfl) ?_
      refine z_isub hx hb ((((nm : Nat) : Int) - 1) - ((p0 : Nat) : Int)) rfl dX4_byTurn_26 ?_
      refine lv_goto (tgt := 31) hx hb dX4_byTurn_27 (by decide) ?_
      rw [← hQf]
      exact z_iret K hS () (by split <;> omega) hP hD dX4_byTurn_31
set_option maxHeartbeats 4000000 in
set_option maxRecDepth 100000 in
theorem c_X4_pileOf (l : Launch) (D : va_G) (cI : ClassId) (h : Nat) (b : Nat → Nat) (pm n k d rr hd sm : Nat) (kr kq ku s0 s1 s2 s3 s4 s5 hs : Int) (q x : Nat) (hn : n ≤ 12) (hq : 1 ≤ q) (hqn : q ≤ n) (hx0 : x < q) : zMi l yX4_pileOf cX4_pileOf 3 (some .int) ({ frames := 0, cells := 0, slots := 0, locals := 0 }) D cI [.ref h, .int (zI ((q : Nat) : Int)), .int (zI ((x : Nat) : Int))] [cM h b ((pm : Nat) : Int) ((n : Nat) : Int) ((k : Nat) : Int) ((d : Nat) : Int) ((rr : Nat) : Int) ((hd : Nat) : Int) ((sm : Nat) : Int) kr kq ku s0 s1 s2 s3 s4 s5 hs] (fun (z : Int) (u : Unit) => z = (((plM n q x) : Nat) : Int)) (fun (u : Unit) => [cM h b ((pm : Nat) : Int) ((n : Nat) : Int) ((k : Nat) : Int) ((d : Nat) : Int) ((rr : Nat) : Int) ((hd : Nat) : Int) ((sm : Nat) : Int) kr kq ku s0 s1 s2 s3 s4 s5 hs]) := by
  intro sz
  refine zstart rfl (by decide) (Nat.le_of_ble_eq_true rfl) ?_
  intro p e s m below meth c ls K hnm hsz hP hD hS hl
  generalize hargs : ([.ref h, .int (zI ((q : Nat) : Int)), .int (zI ((x : Nat) : Int))] : List Value).toArray = args at K ⊢
  generalize hQf : MQ below _ args s _ _ _ = Qf
  have K : zK p s m args meth c cX4_pileOf 3 RX4 (some .int) D cI := K
  obtain ⟨hx, hb, hml, hown, hts, hE, -, -⟩ := id K
  have hA := zhA (ws0 := [cM h b ((pm : Nat) : Int) ((n : Nat) : Int) ((k : Nat) : Int) ((d : Nat) : Int) ((rr : Nat) : Int) ((hd : Nat) : Int) ((sm : Nat) : Int) kr kq ku s0 s1 s2 s3 s4 s5 hs]) hsz
  have hl : lv_has ls 3 [(0, .ref h), (1, .int (zI ((q : Nat) : Int))), (2, .int (zI ((x : Nat) : Int)))] := hl
  refine lv_aload_n hx hb dX4_pileOf_0 rfl (lv_at hl 0 rfl) ?_
  refine va_get (D := D) (ci := 4) (v := .int (zI ((n : Nat) : Int))) (C := RX4) (T := TX4) (N := 32) hx hb hts inT_X4 hown hE.1 hP 0 rfl rfl 2 (by decide) (hts _ qf_X4_86) (fun _ h9 => h9) rfl dX4_pileOf_1 ?_
  refine lv_iload_n hx hb dX4_pileOf_4 rfl (lv_at hl 2 rfl) ?_
  refine z_isub hx hb (((n : Nat) : Int) - ((x : Nat) : Int)) rfl dX4_pileOf_5 ?_
  refine lv_iload_n hx hb dX4_pileOf_6 rfl (lv_at hl 1 rfl) ?_
  refine z_iadd hx hb ((((n : Nat) : Int) - ((x : Nat) : Int)) + ((q : Nat) : Int)) rfl dX4_pileOf_7 ?_
  refine lv_iconst (v := zI 1) hx hb dX4_pileOf_8 rfl ?_
  refine z_isub hx hb ((n - x + q - 1 : Nat) : Int) (by omega) dX4_pileOf_9 ?_
  refine lv_iload_n hx hb dX4_pileOf_10 rfl (lv_at hl 1 rfl) ?_
  refine z_idiv hx hb ((((n - x + q - 1) / q) : Nat) : Int) (by omega) rfl dX4_pileOf_11 ?_
  rw [← hQf]
  exact z_iret K hS () (by rfl) hP hD dX4_pileOf_12
set_option maxHeartbeats 4000000 in
set_option maxRecDepth 100000 in
theorem c_X4_byDeal (l : Launch) (D : va_G) (cI : ClassId) (h : Nat) (b : Nat → Nat) (pm n k d rr hd sm : Nat) (kr kq ku s0 s1 s2 s3 s4 s5 hs : Int) (nm p0 o : Nat) (hnm0 : nm ≤ 9) (hn : 2 ≤ n ∧ n ≤ 12) (hp0 : p0 < n) (ho : o ≤ 1) : zMi l yX4_byDeal cX4_byDeal 9 (some .int) ({ frames := 1, cells := 0, slots := 0, locals := 22 }) D cI [.ref h, .int (zI ((nm : Nat) : Int)), .int (zI ((p0 : Nat) : Int)), .int (zI ((o : Nat) : Int))] [cM h b ((pm : Nat) : Int) ((n : Nat) : Int) ((k : Nat) : Int) ((d : Nat) : Int) ((rr : Nat) : Int) ((hd : Nat) : Int) ((sm : Nat) : Int) kr kq ku s0 s1 s2 s3 s4 s5 hs] (fun (z : Int) (u : Unit) => z = (((dlq n (max 1 (min nm n)) p0 o) : Nat) : Int)) (fun (u : Unit) => [cM h b ((pm : Nat) : Int) ((n : Nat) : Int) ((k : Nat) : Int) ((d : Nat) : Int) ((rr : Nat) : Int) ((hd : Nat) : Int) ((sm : Nat) : Int) kr kq ku s0 s1 s2 s3 s4 s5 hs]) := by
  intro sz
  refine zstart rfl (by decide) (Nat.le_of_ble_eq_true rfl) ?_
  intro p e s m below meth c ls K hnm hsz hP hD hS hl
  generalize hargs : ([.ref h, .int (zI ((nm : Nat) : Int)), .int (zI ((p0 : Nat) : Int)), .int (zI ((o : Nat) : Int))] : List Value).toArray = args at K ⊢
  generalize hQf : MQ below _ args s _ _ _ = Qf
  have K : zK p s m args meth c cX4_byDeal 9 RX4 (some .int) D cI := K
  obtain ⟨hx, hb, hml, hown, hts, hE, -, -⟩ := id K
  have hA := zhA (ws0 := [cM h b ((pm : Nat) : Int) ((n : Nat) : Int) ((k : Nat) : Int) ((d : Nat) : Int) ((rr : Nat) : Int) ((hd : Nat) : Int) ((sm : Nat) : Int) kr kq ku s0 s1 s2 s3 s4 s5 hs]) hsz
  have hl : lv_has ls 9 [(0, .ref h), (1, .int (zI ((nm : Nat) : Int))), (2, .int (zI ((p0 : Nat) : Int))), (3, .int (zI ((o : Nat) : Int)))] := hl
  have cut_26 : ∀ (q : Nat), (q = max 1 (min nm n)) → ∀ (H : Heap) (locs : List Loc) (ls : Array Slot), va_P D cls [cM h b ((pm : Nat) : Int) ((n : Nat) : Int) ((k : Nat) : Int) ((d : Nat) : Int) ((rr : Nat) : Int) ((hd : Nat) : Int) ((sm : Nat) : Int) kr kq ku s0 s1 s2 s3 s4 s5 hs] H → va_D (va_A [cM h b ((pm : Nat) : Int) ((n : Nat) : Int) ((k : Nat) : Int) ((d : Nat) : Int) ((rr : Nat) : Int) ((hd : Nat) : Int) ((sm : Nat) : Int) kr kq ku s0 s1 s2 s3 s4 s5 hs] sz) [cM h b ((pm : Nat) : Int) ((n : Nat) : Int) ((k : Nat) : Int) ((d : Nat) : Int) ((rr : Nat) : Int) ((hd : Nat) : Int) ((sm : Nat) : Int) kr kq ku s0 s1 s2 s3 s4 s5 hs] → va_S (va_A [cM h b ((pm : Nat) : Int) ((n : Nat) : Int) ((k : Nat) : Int) ((d : Nat) : Int) ((rr : Nat) : Int) ((hd : Nat) : Int) ((sm : Nat) : Int) kr kq ku s0 s1 s2 s3 s4 s5 hs] sz) s.heap H locs → lv_has ls 9 [(0, .ref h), (1, .int (zI ((nm : Nat) : Int))), (2, .int (zI ((p0 : Nat) : Int))), (3, .int (zI ((o : Nat) : Int))), (4, .int (zI ((q : Nat) : Int)))] → W p l e ({ frames := 1, cells := 0, slots := 0, locals := 22 }) s m args below meth c H locs 0 0 Qf (F0 m 26 ls []) := by
    intro q hq H locs ls hP hD hS hl
    have hq1 : 1 ≤ q ∧ q ≤ n := by omega
    have hdl := dlM_ok (n := n) (q := q) (p := p0) (o := o) hn.2 hq1.1 hq1.2 hp0 ho
    have h3 : p0 % q < q := Nat.mod_lt _ (by omega)
    obtain ⟨r, hr0⟩ : ∃ r, r = p0 % q := ⟨_, rfl⟩
    rw [← hr0] at hdl h3
    obtain ⟨B, hB⟩ : ∃ B, B = plM n q r - 1 - p0 / q := ⟨_, rfl⟩
    have hpl : plM n q r ≤ 24 := Nat.le_trans (Nat.div_le_self _ _) (by omega)
    rw [← hB] at hdl
    refine lv_iload_n hx hb dX4_byDeal_26 rfl (lv_at hl 2 rfl) ?_
    refine lv_iload hx hb dX4_byDeal_27 (lv_at hl 4 rfl) ?_
    refine z_irem hx hb ((r : Nat) : Int) (by omega) (by rw [hr0]; rfl) dX4_byDeal_29 ?_
    refine lv_istore (lv' := [(5, .int (zI ((r : Nat) : Int))), (0, .ref h), (1, .int (zI ((nm : Nat) : Int))), (2, .int (zI ((p0 : Nat) : Int))), (3, .int (zI ((o : Nat) : Int))), (4, .int (zI ((q : Nat) : Int)))]) hx hb dX4_byDeal_30 hl (by decide) rfl (fun ls hl => ?_)
    refine lv_aload_n hx hb dX4_byDeal_32 rfl (lv_at hl 1 rfl) ?_
    refine lv_iload hx hb dX4_byDeal_33 (lv_at hl 5 rfl) ?_
    refine lv_iload hx hb dX4_byDeal_35 (lv_at hl 0 rfl) ?_
    refine zcall_i (wc := [cM h b ((pm : Nat) : Int) ((n : Nat) : Int) ((k : Nat) : Int) ((d : Nat) : Int) ((rr : Nat) : Int) ((hd : Nat) : Int) ((sm : Nat) : Int) kr kq ku s0 s1 s2 s3 s4 s5 hs]) (wr := []) (rest := []) hE hP hD hS hA [0] [] [0] rfl rfl (by decide) (by decide) (by decide) (fun (u : Unit) => [cM h b ((pm : Nat) : Int) ((n : Nat) : Int) ((k : Nat) : Int) ((d : Nat) : Int) ((rr : Nat) : Int) ((hd : Nat) : Int) ((sm : Nat) : Int) kr kq ku s0 s1 s2 s3 s4 s5 hs]) (fun u => rfl) (fun hPc hDc => zrunV (As := [.int (zI ((q : Nat) : Int)), .int (zI ((r : Nat) : Int))]) (rest := []) (q0 := 0) (ci := 4) K k_X4_pileOf qm_X4_104 ⟨⟨rfl, rfl⟩, ⟨Nat.le_of_ble_eq_true rfl, Nat.le_of_ble_eq_true rfl⟩⟩ rfl rfl hPc hDc (c_X4_pileOf l D cI h b pm n k d rr hd sm kr kq ku s0 s1 s2 s3 s4 s5 hs q r (by first | assumption | omega) (by first | assumption | omega) (by first | assumption | omega) (by first | assumption | omega) _) rfl hl.1 rfl (Nat.le_of_ble_eq_true rfl) dX4_byDeal_37 ⟨Nat.zero_le _, Nat.zero_le _⟩) (by decide) (fun z u H locs hpost hP hD hS => ?_)
    subst hpost
    have hP : va_P D cls [cM h b ((pm : Nat) : Int) ((n : Nat) : Int) ((k : Nat) : Int) ((d : Nat) : Int) ((rr : Nat) : Int) ((hd : Nat) : Int) ((sm : Nat) : Int) kr kq ku s0 s1 s2 s3 s4 s5 hs] H := hP
    have hD : va_D (va_A [cM h b ((pm : Nat) : Int) ((n : Nat) : Int) ((k : Nat) : Int) ((d : Nat) : Int) ((rr : Nat) : Int) ((hd : Nat) : Int) ((sm : Nat) : Int) kr kq ku s0 s1 s2 s3 s4 s5 hs] sz) [cM h b ((pm : Nat) : Int) ((n : Nat) : Int) ((k : Nat) : Int) ((d : Nat) : Int) ((rr : Nat) : Int) ((hd : Nat) : Int) ((sm : Nat) : Int) kr kq ku s0 s1 s2 s3 s4 s5 hs] := hD
    refine W.eq (g2 := F0 m 40 ls [.int (zI (((plM n q r) : Nat) : Int))]) rfl ?_
    refine lv_iconst (v := zI 1) hx hb dX4_byDeal_40 rfl ?_
    refine z_isub hx hb ((((plM n q r) : Nat) : Int) - 1) rfl dX4_byDeal_41 ?_
    refine lv_iload_n hx hb dX4_byDeal_42 rfl (lv_at hl 3 rfl) ?_
    refine lv_iload hx hb dX4_byDeal_43 (lv_at hl 5 rfl) ?_
    refine z_idiv hx hb (((p0 / q) : Nat) : Int) (by omega) rfl dX4_byDeal_45 ?_
    refine z_isub hx hb ((B : Nat) : Int) (by rw [hB]; omega) dX4_byDeal_46 ?_
    refine lv_istore (lv' := [(6, .int (zI ((B : Nat) : Int))), (5, .int (zI ((r : Nat) : Int))), (0, .ref h), (1, .int (zI ((nm : Nat) : Int))), (2, .int (zI ((p0 : Nat) : Int))), (3, .int (zI ((o : Nat) : Int))), (4, .int (zI ((q : Nat) : Int)))]) hx hb dX4_byDeal_47 hl (by decide) rfl (fun ls hl => ?_)
    refine lv_iconst (v := zI 0) hx hb dX4_byDeal_49 rfl ?_
    refine lv_istore (lv' := [(7, .int (zI 0)), (6, .int (zI ((B : Nat) : Int))), (5, .int (zI ((r : Nat) : Int))), (0, .ref h), (1, .int (zI ((nm : Nat) : Int))), (2, .int (zI ((p0 : Nat) : Int))), (3, .int (zI ((o : Nat) : Int))), (4, .int (zI ((q : Nat) : Int)))]) hx hb dX4_byDeal_50 hl (by decide) rfl (fun ls hl => ?_)
    have cut_52 : ∀ (N_52 : Nat), ∀ (i y : Nat), q - i < N_52 → (i ≤ q) → (y = B + dsm n q r o i) → ∀ (H : Heap) (locs : List Loc) (ls : Array Slot), va_P D cls [cM h b ((pm : Nat) : Int) ((n : Nat) : Int) ((k : Nat) : Int) ((d : Nat) : Int) ((rr : Nat) : Int) ((hd : Nat) : Int) ((sm : Nat) : Int) kr kq ku s0 s1 s2 s3 s4 s5 hs] H → va_D (va_A [cM h b ((pm : Nat) : Int) ((n : Nat) : Int) ((k : Nat) : Int) ((d : Nat) : Int) ((rr : Nat) : Int) ((hd : Nat) : Int) ((sm : Nat) : Int) kr kq ku s0 s1 s2 s3 s4 s5 hs] sz) [cM h b ((pm : Nat) : Int) ((n : Nat) : Int) ((k : Nat) : Int) ((d : Nat) : Int) ((rr : Nat) : Int) ((hd : Nat) : Int) ((sm : Nat) : Int) kr kq ku s0 s1 s2 s3 s4 s5 hs] → va_S (va_A [cM h b ((pm : Nat) : Int) ((n : Nat) : Int) ((k : Nat) : Int) ((d : Nat) : Int) ((rr : Nat) : Int) ((hd : Nat) : Int) ((sm : Nat) : Int) kr kq ku s0 s1 s2 s3 s4 s5 hs] sz) s.heap H locs → lv_has ls 9 [(0, .ref h), (1, .int (zI ((nm : Nat) : Int))), (2, .int (zI ((p0 : Nat) : Int))), (3, .int (zI ((o : Nat) : Int))), (4, .int (zI ((q : Nat) : Int))), (5, .int (zI ((r : Nat) : Int))), (6, .int (zI ((y : Nat) : Int))), (7, .int (zI ((i : Nat) : Int)))] → W p l e ({ frames := 1, cells := 0, slots := 0, locals := 22 }) s m args below meth c H locs 0 0 Qf (F0 m 52 ls []) := by
      intro N_52
      induction N_52 with
      | zero => intro i y hm_52; exact absurd hm_52 (Nat.not_lt_zero _)
      | succ N_52 ih_52 =>
        intro i y hm_52 hi hy H locs ls hP hD hS hl
        refine lv_iload hx hb dX4_byDeal_52 (lv_at hl 7 rfl) ?_
        refine lv_iload hx hb dX4_byDeal_54 (lv_at hl 4 rfl) ?_
        refine z_icmp_ge (tgt := 120) hx hb (by omega) dX4_byDeal_56 (by decide) (fun c_56 => ?_) (fun c_56 => ?_)
        · refine lv_iload hx hb dX4_byDeal_120 (lv_at hl 6 rfl) ?_
          rw [← hQf]
          exact z_iret K hS () (by rw [hy, ← hq, ← hdl.2, show i = q by omega]) hP hD dX4_byDeal_122
        · refine lv_iload_n hx hb dX4_byDeal_59 rfl (lv_at hl 3 rfl) ?_
          refine z_if_eq (tgt := 78) hx hb (by omega) dX4_byDeal_60 (by decide) (fun c_60 => ?_) (fun c_60 => ?_)
          · refine lv_iload hx hb dX4_byDeal_78 (lv_at hl 7 rfl) ?_
            refine lv_iload hx hb dX4_byDeal_80 (lv_at hl 5 rfl) ?_
            refine z_icmp_le (tgt := 89) hx hb (by omega) dX4_byDeal_82 (by decide) (fun c_82 => ?_) (fun c_82 => ?_)
            · refine lv_iconst (v := zI 0) hx hb dX4_byDeal_89 rfl ?_
              refine lv_istore (lv' := [(8, .int (zI 0)), (0, .ref h), (1, .int (zI ((nm : Nat) : Int))), (2, .int (zI ((p0 : Nat) : Int))), (3, .int (zI ((o : Nat) : Int))), (4, .int (zI ((q : Nat) : Int))), (5, .int (zI ((r : Nat) : Int))), (6, .int (zI ((y : Nat) : Int))), (7, .int (zI ((i : Nat) : Int)))]) hx hb dX4_byDeal_90 hl (by decide) rfl (fun ls hl => ?_)
              refine lv_iload hx hb dX4_byDeal_92 (lv_at hl 7 rfl) ?_
              refine lv_iload hx hb dX4_byDeal_94 (lv_at hl 0 rfl) ?_
              have hcc : True := trivial
              refine z_if_eq (tgt := 110) hx hb (by omega) dX4_byDeal_96 (by decide) (fun c_96 => ?_) (fun c_96 => ?_)
              · refine lv_iconst (v := zI 0) hx hb dX4_byDeal_110 rfl ?_
                refine z_iadd hx hb ((y : Nat) : Int) (by omega) dX4_byDeal_111 ?_
                first | (have hy1 : y + plM n q i = B + dsm n q r o (i + 1) := by rw [dsm_t (by omega)]; omega) | (have hy2 : y = B + dsm n q r o (i + 1) := by rw [dsm_f (by omega)]; omega)
                refine lv_istore (lv' := [(6, .int (zI ((y : Nat) : Int))), (8, .int (zI 0)), (0, .ref h), (1, .int (zI ((nm : Nat) : Int))), (2, .int (zI ((p0 : Nat) : Int))), (3, .int (zI ((o : Nat) : Int))), (4, .int (zI ((q : Nat) : Int))), (5, .int (zI ((r : Nat) : Int))), (7, .int (zI ((i : Nat) : Int)))]) hx hb dX4_byDeal_112 hl (by decide) rfl (fun ls hl => ?_)
                refine z_iinc (k := 8) (lv' := [(7, .int (zI (((i + 1) : Nat) : Int))), (6, .int (zI ((y : Nat) : Int))), (8, .int (zI 0)), (0, .ref h), (1, .int (zI ((nm : Nat) : Int))), (2, .int (zI ((p0 : Nat) : Int))), (3, .int (zI ((o : Nat) : Int))), (4, .int (zI ((q : Nat) : Int))), (5, .int (zI ((r : Nat) : Int)))]) hx hb (((i + 1) : Nat) : Int) (by omega) dX4_byDeal_114 hl rfl (by decide) rfl (fun ls hl => ?_)
                refine lv_goto (tgt := 52) hx hb dX4_byDeal_117 (by decide) ?_
                exact ih_52 (i + 1) y (by omega) (by omega) (by first | exact hy1 | exact hy2) _ _ _ hP hD hS (lv_sub hl [3, 4, 5, 6, 7, 8, 1, 0] rfl)
              · exfalso; omega
            · refine lv_iconst (v := zI 1) hx hb dX4_byDeal_85 rfl ?_
              refine lv_goto (tgt := 90) hx hb dX4_byDeal_86 (by decide) ?_
              refine lv_istore (lv' := [(8, .int (zI 1)), (0, .ref h), (1, .int (zI ((nm : Nat) : Int))), (2, .int (zI ((p0 : Nat) : Int))), (3, .int (zI ((o : Nat) : Int))), (4, .int (zI ((q : Nat) : Int))), (5, .int (zI ((r : Nat) : Int))), (6, .int (zI ((y : Nat) : Int))), (7, .int (zI ((i : Nat) : Int)))]) hx hb dX4_byDeal_90 hl (by decide) rfl (fun ls hl => ?_)
              refine lv_iload hx hb dX4_byDeal_92 (lv_at hl 7 rfl) ?_
              refine lv_iload hx hb dX4_byDeal_94 (lv_at hl 0 rfl) ?_
              have hcc : True := trivial
              refine z_if_eq (tgt := 110) hx hb (by omega) dX4_byDeal_96 (by decide) (fun c_96 => ?_) (fun c_96 => ?_)
              · exfalso; omega
              · refine lv_aload_n hx hb dX4_byDeal_99 rfl (lv_at hl 1 rfl) ?_
                refine lv_iload hx hb dX4_byDeal_100 (lv_at hl 5 rfl) ?_
                refine lv_iload hx hb dX4_byDeal_102 (lv_at hl 8 rfl) ?_
                refine zcall_i (wc := [cM h b ((pm : Nat) : Int) ((n : Nat) : Int) ((k : Nat) : Int) ((d : Nat) : Int) ((rr : Nat) : Int) ((hd : Nat) : Int) ((sm : Nat) : Int) kr kq ku s0 s1 s2 s3 s4 s5 hs]) (wr := []) (rest := [.int (zI ((y : Nat) : Int))]) hE hP hD hS hA [0] [] [0] rfl rfl (by decide) (by decide) (by decide) (fun (u : Unit) => [cM h b ((pm : Nat) : Int) ((n : Nat) : Int) ((k : Nat) : Int) ((d : Nat) : Int) ((rr : Nat) : Int) ((hd : Nat) : Int) ((sm : Nat) : Int) kr kq ku s0 s1 s2 s3 s4 s5 hs]) (fun u => rfl) (fun hPc hDc => zrunV (As := [.int (zI ((q : Nat) : Int)), .int (zI ((i : Nat) : Int))]) (rest := [.int (zI ((y : Nat) : Int))]) (q0 := 0) (ci := 4) K k_X4_pileOf qm_X4_104 ⟨⟨rfl, rfl⟩, ⟨Nat.le_of_ble_eq_true rfl, Nat.le_of_ble_eq_true rfl⟩⟩ rfl rfl hPc hDc (c_X4_pileOf l D cI h b pm n k d rr hd sm kr kq ku s0 s1 s2 s3 s4 s5 hs q i (by first | assumption | omega) (by first | assumption | omega) (by first | assumption | omega) (by first | assumption | omega) _) rfl hl.1 rfl (Nat.le_of_ble_eq_true rfl) dX4_byDeal_104 ⟨Nat.zero_le _, Nat.zero_le _⟩) (by decide) (fun z u H locs hpost hP hD hS => ?_)
                subst hpost
                have hP : va_P D cls [cM h b ((pm : Nat) : Int) ((n : Nat) : Int) ((k : Nat) : Int) ((d : Nat) : Int) ((rr : Nat) : Int) ((hd : Nat) : Int) ((sm : Nat) : Int) kr kq ku s0 s1 s2 s3 s4 s5 hs] H := hP
                have hD : va_D (va_A [cM h b ((pm : Nat) : Int) ((n : Nat) : Int) ((k : Nat) : Int) ((d : Nat) : Int) ((rr : Nat) : Int) ((hd : Nat) : Int) ((sm : Nat) : Int) kr kq ku s0 s1 s2 s3 s4 s5 hs] sz) [cM h b ((pm : Nat) : Int) ((n : Nat) : Int) ((k : Nat) : Int) ((d : Nat) : Int) ((rr : Nat) : Int) ((hd : Nat) : Int) ((sm : Nat) : Int) kr kq ku s0 s1 s2 s3 s4 s5 hs] := hD
                refine W.eq (g2 := F0 m 107 ls [.int (zI (((plM n q i) : Nat) : Int)), .int (zI ((y : Nat) : Int))]) rfl ?_
                refine lv_goto (tgt := 111) hx hb dX4_byDeal_107 (by decide) ?_
                refine z_iadd hx hb (((y + (plM n q i)) : Nat) : Int) (by omega) dX4_byDeal_111 ?_
                first | (have hy1 : y + plM n q i = B + dsm n q r o (i + 1) := by rw [dsm_t (by omega)]; omega) | (have hy2 : y = B + dsm n q r o (i + 1) := by rw [dsm_f (by omega)]; omega)
                refine lv_istore (lv' := [(6, .int (zI (((y + (plM n q i)) : Nat) : Int))), (8, .int (zI 1)), (0, .ref h), (1, .int (zI ((nm : Nat) : Int))), (2, .int (zI ((p0 : Nat) : Int))), (3, .int (zI ((o : Nat) : Int))), (4, .int (zI ((q : Nat) : Int))), (5, .int (zI ((r : Nat) : Int))), (7, .int (zI ((i : Nat) : Int)))]) hx hb dX4_byDeal_112 hl (by decide) rfl (fun ls hl => ?_)
                refine z_iinc (k := 8) (lv' := [(7, .int (zI (((i + 1) : Nat) : Int))), (6, .int (zI (((y + (plM n q i)) : Nat) : Int))), (8, .int (zI 1)), (0, .ref h), (1, .int (zI ((nm : Nat) : Int))), (2, .int (zI ((p0 : Nat) : Int))), (3, .int (zI ((o : Nat) : Int))), (4, .int (zI ((q : Nat) : Int))), (5, .int (zI ((r : Nat) : Int)))]) hx hb (((i + 1) : Nat) : Int) (by omega) dX4_byDeal_114 hl rfl (by decide) rfl (fun ls hl => ?_)
                refine lv_goto (tgt := 52) hx hb dX4_byDeal_117 (by decide) ?_
                exact ih_52 (i + 1) (y + (plM n q i)) (by omega) (by omega) (by first | exact hy1 | exact hy2) _ _ _ hP hD hS (lv_sub hl [3, 4, 5, 6, 7, 8, 1, 0] rfl)
          · refine lv_iload hx hb dX4_byDeal_63 (lv_at hl 7 rfl) ?_
            refine lv_iload hx hb dX4_byDeal_65 (lv_at hl 5 rfl) ?_
            refine z_icmp_ge (tgt := 74) hx hb (by omega) dX4_byDeal_67 (by decide) (fun c_67 => ?_) (fun c_67 => ?_)
            · refine lv_iconst (v := zI 0) hx hb dX4_byDeal_74 rfl ?_
              refine lv_goto (tgt := 90) hx hb dX4_byDeal_75 (by decide) ?_
              refine lv_istore (lv' := [(8, .int (zI 0)), (0, .ref h), (1, .int (zI ((nm : Nat) : Int))), (2, .int (zI ((p0 : Nat) : Int))), (3, .int (zI ((o : Nat) : Int))), (4, .int (zI ((q : Nat) : Int))), (5, .int (zI ((r : Nat) : Int))), (6, .int (zI ((y : Nat) : Int))), (7, .int (zI ((i : Nat) : Int)))]) hx hb dX4_byDeal_90 hl (by decide) rfl (fun ls hl => ?_)
              refine lv_iload hx hb dX4_byDeal_92 (lv_at hl 7 rfl) ?_
              refine lv_iload hx hb dX4_byDeal_94 (lv_at hl 0 rfl) ?_
              have hcc : True := trivial
              refine z_if_eq (tgt := 110) hx hb (by omega) dX4_byDeal_96 (by decide) (fun c_96 => ?_) (fun c_96 => ?_)
              · refine lv_iconst (v := zI 0) hx hb dX4_byDeal_110 rfl ?_
                refine z_iadd hx hb ((y : Nat) : Int) (by omega) dX4_byDeal_111 ?_
                first | (have hy1 : y + plM n q i = B + dsm n q r o (i + 1) := by rw [dsm_t (by omega)]; omega) | (have hy2 : y = B + dsm n q r o (i + 1) := by rw [dsm_f (by omega)]; omega)
                refine lv_istore (lv' := [(6, .int (zI ((y : Nat) : Int))), (8, .int (zI 0)), (0, .ref h), (1, .int (zI ((nm : Nat) : Int))), (2, .int (zI ((p0 : Nat) : Int))), (3, .int (zI ((o : Nat) : Int))), (4, .int (zI ((q : Nat) : Int))), (5, .int (zI ((r : Nat) : Int))), (7, .int (zI ((i : Nat) : Int)))]) hx hb dX4_byDeal_112 hl (by decide) rfl (fun ls hl => ?_)
                refine z_iinc (k := 8) (lv' := [(7, .int (zI (((i + 1) : Nat) : Int))), (6, .int (zI ((y : Nat) : Int))), (8, .int (zI 0)), (0, .ref h), (1, .int (zI ((nm : Nat) : Int))), (2, .int (zI ((p0 : Nat) : Int))), (3, .int (zI ((o : Nat) : Int))), (4, .int (zI ((q : Nat) : Int))), (5, .int (zI ((r : Nat) : Int)))]) hx hb (((i + 1) : Nat) : Int) (by omega) dX4_byDeal_114 hl rfl (by decide) rfl (fun ls hl => ?_)
                refine lv_goto (tgt := 52) hx hb dX4_byDeal_117 (by decide) ?_
                exact ih_52 (i + 1) y (by omega) (by omega) (by first | exact hy1 | exact hy2) _ _ _ hP hD hS (lv_sub hl [3, 4, 5, 6, 7, 8, 1, 0] rfl)
              · exfalso; omega
            · refine lv_iconst (v := zI 1) hx hb dX4_byDeal_70 rfl ?_
              refine lv_goto (tgt := 90) hx hb dX4_byDeal_71 (by decide) ?_
              refine lv_istore (lv' := [(8, .int (zI 1)), (0, .ref h), (1, .int (zI ((nm : Nat) : Int))), (2, .int (zI ((p0 : Nat) : Int))), (3, .int (zI ((o : Nat) : Int))), (4, .int (zI ((q : Nat) : Int))), (5, .int (zI ((r : Nat) : Int))), (6, .int (zI ((y : Nat) : Int))), (7, .int (zI ((i : Nat) : Int)))]) hx hb dX4_byDeal_90 hl (by decide) rfl (fun ls hl => ?_)
              refine lv_iload hx hb dX4_byDeal_92 (lv_at hl 7 rfl) ?_
              refine lv_iload hx hb dX4_byDeal_94 (lv_at hl 0 rfl) ?_
              have hcc : True := trivial
              refine z_if_eq (tgt := 110) hx hb (by omega) dX4_byDeal_96 (by decide) (fun c_96 => ?_) (fun c_96 => ?_)
              · exfalso; omega
              · refine lv_aload_n hx hb dX4_byDeal_99 rfl (lv_at hl 1 rfl) ?_
                refine lv_iload hx hb dX4_byDeal_100 (lv_at hl 5 rfl) ?_
                refine lv_iload hx hb dX4_byDeal_102 (lv_at hl 8 rfl) ?_
                refine zcall_i (wc := [cM h b ((pm : Nat) : Int) ((n : Nat) : Int) ((k : Nat) : Int) ((d : Nat) : Int) ((rr : Nat) : Int) ((hd : Nat) : Int) ((sm : Nat) : Int) kr kq ku s0 s1 s2 s3 s4 s5 hs]) (wr := []) (rest := [.int (zI ((y : Nat) : Int))]) hE hP hD hS hA [0] [] [0] rfl rfl (by decide) (by decide) (by decide) (fun (u : Unit) => [cM h b ((pm : Nat) : Int) ((n : Nat) : Int) ((k : Nat) : Int) ((d : Nat) : Int) ((rr : Nat) : Int) ((hd : Nat) : Int) ((sm : Nat) : Int) kr kq ku s0 s1 s2 s3 s4 s5 hs]) (fun u => rfl) (fun hPc hDc => zrunV (As := [.int (zI ((q : Nat) : Int)), .int (zI ((i : Nat) : Int))]) (rest := [.int (zI ((y : Nat) : Int))]) (q0 := 0) (ci := 4) K k_X4_pileOf qm_X4_104 ⟨⟨rfl, rfl⟩, ⟨Nat.le_of_ble_eq_true rfl, Nat.le_of_ble_eq_true rfl⟩⟩ rfl rfl hPc hDc (c_X4_pileOf l D cI h b pm n k d rr hd sm kr kq ku s0 s1 s2 s3 s4 s5 hs q i (by first | assumption | omega) (by first | assumption | omega) (by first | assumption | omega) (by first | assumption | omega) _) rfl hl.1 rfl (Nat.le_of_ble_eq_true rfl) dX4_byDeal_104 ⟨Nat.zero_le _, Nat.zero_le _⟩) (by decide) (fun z u H locs hpost hP hD hS => ?_)
                subst hpost
                have hP : va_P D cls [cM h b ((pm : Nat) : Int) ((n : Nat) : Int) ((k : Nat) : Int) ((d : Nat) : Int) ((rr : Nat) : Int) ((hd : Nat) : Int) ((sm : Nat) : Int) kr kq ku s0 s1 s2 s3 s4 s5 hs] H := hP
                have hD : va_D (va_A [cM h b ((pm : Nat) : Int) ((n : Nat) : Int) ((k : Nat) : Int) ((d : Nat) : Int) ((rr : Nat) : Int) ((hd : Nat) : Int) ((sm : Nat) : Int) kr kq ku s0 s1 s2 s3 s4 s5 hs] sz) [cM h b ((pm : Nat) : Int) ((n : Nat) : Int) ((k : Nat) : Int) ((d : Nat) : Int) ((rr : Nat) : Int) ((hd : Nat) : Int) ((sm : Nat) : Int) kr kq ku s0 s1 s2 s3 s4 s5 hs] := hD
                refine W.eq (g2 := F0 m 107 ls [.int (zI (((plM n q i) : Nat) : Int)), .int (zI ((y : Nat) : Int))]) rfl ?_
                refine lv_goto (tgt := 111) hx hb dX4_byDeal_107 (by decide) ?_
                refine z_iadd hx hb (((y + (plM n q i)) : Nat) : Int) (by omega) dX4_byDeal_111 ?_
                first | (have hy1 : y + plM n q i = B + dsm n q r o (i + 1) := by rw [dsm_t (by omega)]; omega) | (have hy2 : y = B + dsm n q r o (i + 1) := by rw [dsm_f (by omega)]; omega)
                refine lv_istore (lv' := [(6, .int (zI (((y + (plM n q i)) : Nat) : Int))), (8, .int (zI 1)), (0, .ref h), (1, .int (zI ((nm : Nat) : Int))), (2, .int (zI ((p0 : Nat) : Int))), (3, .int (zI ((o : Nat) : Int))), (4, .int (zI ((q : Nat) : Int))), (5, .int (zI ((r : Nat) : Int))), (7, .int (zI ((i : Nat) : Int)))]) hx hb dX4_byDeal_112 hl (by decide) rfl (fun ls hl => ?_)
                refine z_iinc (k := 8) (lv' := [(7, .int (zI (((i + 1) : Nat) : Int))), (6, .int (zI (((y + (plM n q i)) : Nat) : Int))), (8, .int (zI 1)), (0, .ref h), (1, .int (zI ((nm : Nat) : Int))), (2, .int (zI ((p0 : Nat) : Int))), (3, .int (zI ((o : Nat) : Int))), (4, .int (zI ((q : Nat) : Int))), (5, .int (zI ((r : Nat) : Int)))]) hx hb (((i + 1) : Nat) : Int) (by omega) dX4_byDeal_114 hl rfl (by decide) rfl (fun ls hl => ?_)
                refine lv_goto (tgt := 52) hx hb dX4_byDeal_117 (by decide) ?_
                exact ih_52 (i + 1) (y + (plM n q i)) (by omega) (by omega) (by first | exact hy1 | exact hy2) _ _ _ hP hD hS (lv_sub hl [3, 4, 5, 6, 7, 8, 1, 0] rfl)
    exact cut_52 (q - 0 + 1) 0 B (Nat.lt_succ_self _) (by omega) (by rfl) _ _ _ hP hD hS (lv_sub hl [3, 4, 5, 6, 7, 2, 1, 0] rfl)
  refine lv_iload_n hx hb dX4_byDeal_0 rfl (lv_at hl 1 rfl) ?_
  refine z_if_ne (tgt := 8) hx hb (by omega) dX4_byDeal_1 (by decide) (fun c_1 => ?_) (fun c_1 => ?_)
  · refine lv_iload_n hx hb dX4_byDeal_8 rfl (lv_at hl 1 rfl) ?_
    refine lv_aload_n hx hb dX4_byDeal_9 rfl (lv_at hl 0 rfl) ?_
    refine va_get (D := D) (ci := 4) (v := .int (zI ((n : Nat) : Int))) (C := RX4) (T := TX4) (N := 32) hx hb hts inT_X4 hown hE.1 hP 0 rfl rfl 2 (by decide) (hts _ qf_X4_86) (fun _ h9 => h9) rfl dX4_byDeal_10 ?_
    refine z_icmp_le (tgt := 23) hx hb (by omega) dX4_byDeal_13 (by decide) (fun c_13 => ?_) (fun c_13 => ?_)
    · refine lv_iload_n hx hb dX4_byDeal_23 rfl (lv_at hl 1 rfl) ?_
      refine lv_istore (lv' := [(4, .int (zI ((nm : Nat) : Int))), (0, .ref h), (1, .int (zI ((nm : Nat) : Int))), (2, .int (zI ((p0 : Nat) : Int))), (3, .int (zI ((o : Nat) : Int)))]) hx hb dX4_byDeal_24 hl (by decide) rfl (fun ls hl => ?_)
      exact cut_26 nm  (by omega) _ _ _ hP hD hS (lv_sub hl [1, 2, 3, 4, 0] rfl)
    · refine lv_aload_n hx hb dX4_byDeal_16 rfl (lv_at hl 0 rfl) ?_
      refine va_get (D := D) (ci := 4) (v := .int (zI ((n : Nat) : Int))) (C := RX4) (T := TX4) (N := 32) hx hb hts inT_X4 hown hE.1 hP 0 rfl rfl 2 (by decide) (hts _ qf_X4_86) (fun _ h9 => h9) rfl dX4_byDeal_17 ?_
      refine lv_goto (tgt := 24) hx hb dX4_byDeal_20 (by decide) ?_
      refine lv_istore (lv' := [(4, .int (zI ((n : Nat) : Int))), (0, .ref h), (1, .int (zI ((nm : Nat) : Int))), (2, .int (zI ((p0 : Nat) : Int))), (3, .int (zI ((o : Nat) : Int)))]) hx hb dX4_byDeal_24 hl (by decide) rfl (fun ls hl => ?_)
      exact cut_26 n  (by omega) _ _ _ hP hD hS (lv_sub hl [1, 2, 3, 4, 0] rfl)
  · refine lv_iconst (v := zI 1) hx hb dX4_byDeal_4 rfl ?_
    refine lv_goto (tgt := 24) hx hb dX4_byDeal_5 (by decide) ?_
    refine lv_istore (lv' := [(4, .int (zI 1)), (0, .ref h), (1, .int (zI ((nm : Nat) : Int))), (2, .int (zI ((p0 : Nat) : Int))), (3, .int (zI ((o : Nat) : Int)))]) hx hb dX4_byDeal_24 hl (by decide) rfl (fun ls hl => ?_)
    exact cut_26 1  (by omega) _ _ _ hP hD hS (lv_sub hl [1, 2, 3, 4, 0] rfl)
set_option maxHeartbeats 4000000 in
set_option maxRecDepth 100000 in
theorem c_X4_goesBy (l : Launch) (D : va_G) (cI : ClassId) (h : Nat) (b : Nat → Nat) (pm n k d rr hd sm : Nat) (kr kq ku s0 s1 s2 s3 s4 s5 hs : Int) (kd nm p0 : Nat) (hkd : kd ≤ 4) (hnm0 : nm ≤ 9) (hn : 2 ≤ n ∧ n ≤ 12) (hp0 : p0 < n) : zMi l yX4_goesBy cX4_goesBy 4 (some .int) ({ frames := 2, cells := 0, slots := 0, locals := 50 }) D cI [.ref h, .int (zI ((kd : Nat) : Int)), .int (zI ((nm : Nat) : Int)), .int (zI ((p0 : Nat) : Int))] [cM h b ((pm : Nat) : Int) ((n : Nat) : Int) ((k : Nat) : Int) ((d : Nat) : Int) ((rr : Nat) : Int) ((hd : Nat) : Int) ((sm : Nat) : Int) kr kq ku s0 s1 s2 s3 s4 s5 hs] (fun (z : Int) (u : Unit) => z = (((mv n kd nm p0) : Nat) : Int)) (fun (u : Unit) => [cM h b ((pm : Nat) : Int) ((n : Nat) : Int) ((k : Nat) : Int) ((d : Nat) : Int) ((rr : Nat) : Int) ((hd : Nat) : Int) ((sm : Nat) : Int) kr kq ku s0 s1 s2 s3 s4 s5 hs]) := by
  intro sz
  refine zstart rfl (by decide) (Nat.le_of_ble_eq_true rfl) ?_
  intro p e s m below meth c ls K hnm hsz hP hD hS hl
  generalize hargs : ([.ref h, .int (zI ((kd : Nat) : Int)), .int (zI ((nm : Nat) : Int)), .int (zI ((p0 : Nat) : Int))] : List Value).toArray = args at K ⊢
  generalize hQf : MQ below _ args s _ _ _ = Qf
  have K : zK p s m args meth c cX4_goesBy 4 RX4 (some .int) D cI := K
  obtain ⟨hx, hb, hml, hown, hts, hE, -, -⟩ := id K
  have hA := zhA (ws0 := [cM h b ((pm : Nat) : Int) ((n : Nat) : Int) ((k : Nat) : Int) ((d : Nat) : Int) ((rr : Nat) : Int) ((hd : Nat) : Int) ((sm : Nat) : Int) kr kq ku s0 s1 s2 s3 s4 s5 hs]) hsz
  have hl : lv_has ls 4 [(0, .ref h), (1, .int (zI ((kd : Nat) : Int))), (2, .int (zI ((nm : Nat) : Int))), (3, .int (zI ((p0 : Nat) : Int)))] := hl
  have hmod := Nat.mod_lt nm (show 0 < n by omega)
  refine lv_iload_n hx hb dX4_goesBy_0 rfl (lv_at hl 1 rfl) ?_
  rcases (show ((kd : Nat) : Int) = 1 ∨ ((kd : Nat) : Int) = 2 ∨ ((kd : Nat) : Int) = 3 ∨ ((kd : Nat) : Int) = 4 ∨ (((kd : Nat) : Int) ≠ 1 ∧ ((kd : Nat) : Int) ≠ 2 ∧ ((kd : Nat) : Int) ≠ 3 ∧ ((kd : Nat) : Int) ≠ 4) by omega) with c_1 | c_1 | c_1 | c_1 | c_1
  · refine lv_tableIn (tgt := 32) hx hb dX4_goesBy_1 (by rw [zI_toInt (by omega)]; omega) (by rw [zI_toInt (by omega)]; omega) (by rw [zI_toInt (by omega), c_1]; rfl) (by decide) ?_
    refine lv_iload_n hx hb dX4_goesBy_32 rfl (lv_at hl 3 rfl) ?_
    refine lv_aload_n hx hb dX4_goesBy_33 rfl (lv_at hl 0 rfl) ?_
    refine va_get (D := D) (ci := 4) (v := .int (zI ((n : Nat) : Int))) (C := RX4) (T := TX4) (N := 32) hx hb hts inT_X4 hown hE.1 hP 0 rfl rfl 2 (by decide) (hts _ qf_X4_86) (fun _ h9 => h9) rfl dX4_goesBy_34 ?_
    refine z_iadd hx hb (((p0 + n) : Nat) : Int) (by omega) dX4_goesBy_37 ?_
    refine lv_iload_n hx hb dX4_goesBy_38 rfl (lv_at hl 2 rfl) ?_
    refine lv_aload_n hx hb dX4_goesBy_39 rfl (lv_at hl 0 rfl) ?_
    refine va_get (D := D) (ci := 4) (v := .int (zI ((n : Nat) : Int))) (C := RX4) (T := TX4) (N := 32) hx hb hts inT_X4 hown hE.1 hP 0 rfl rfl 2 (by decide) (hts _ qf_X4_86) (fun _ h9 => h9) rfl dX4_goesBy_40 ?_
    refine z_irem hx hb (((nm % n) : Nat) : Int) (by omega) rfl dX4_goesBy_43 ?_
    refine z_isub hx hb (((p0 + n - nm % n) : Nat) : Int) (by omega) dX4_goesBy_44 ?_
    refine lv_aload_n hx hb dX4_goesBy_45 rfl (lv_at hl 0 rfl) ?_
    refine va_get (D := D) (ci := 4) (v := .int (zI ((n : Nat) : Int))) (C := RX4) (T := TX4) (N := 32) hx hb hts inT_X4 hown hE.1 hP 0 rfl rfl 2 (by decide) (hts _ qf_X4_86) (fun _ h9 => h9) rfl dX4_goesBy_46 ?_
    refine z_irem hx hb ((((p0 + n - nm % n) % n) : Nat) : Int) (by omega) rfl dX4_goesBy_49 ?_
    rw [← hQf]
    exact z_iret K hS () (by rw [show kd = 1 by omega, mod_cut hmod hp0]; rfl) hP hD dX4_goesBy_50
  · refine lv_tableIn (tgt := 51) hx hb dX4_goesBy_1 (by rw [zI_toInt (by omega)]; omega) (by rw [zI_toInt (by omega)]; omega) (by rw [zI_toInt (by omega), c_1]; rfl) (by decide) ?_
    refine lv_aload_n hx hb dX4_goesBy_51 rfl (lv_at hl 0 rfl) ?_
    refine lv_iload_n hx hb dX4_goesBy_52 rfl (lv_at hl 2 rfl) ?_
    refine lv_iload_n hx hb dX4_goesBy_53 rfl (lv_at hl 3 rfl) ?_
    refine lv_iload_n hx hb dX4_goesBy_54 rfl (lv_at hl 1 rfl) ?_
    refine lv_iconst (v := zI 4) hx hb dX4_goesBy_55 rfl ?_
    refine z_icmp_ne (tgt := 63) hx hb (by omega) dX4_goesBy_56 (by decide) (fun c_56 => ?_) (fun c_56 => ?_)
    · refine lv_iconst (v := zI 0) hx hb dX4_goesBy_63 rfl ?_
      refine zcall_i (wc := [cM h b ((pm : Nat) : Int) ((n : Nat) : Int) ((k : Nat) : Int) ((d : Nat) : Int) ((rr : Nat) : Int) ((hd : Nat) : Int) ((sm : Nat) : Int) kr kq ku s0 s1 s2 s3 s4 s5 hs]) (wr := []) (rest := []) hE hP hD hS hA [0] [] [0] rfl rfl (by decide) (by decide) (by decide) (fun (u : Unit) => [cM h b ((pm : Nat) : Int) ((n : Nat) : Int) ((k : Nat) : Int) ((d : Nat) : Int) ((rr : Nat) : Int) ((hd : Nat) : Int) ((sm : Nat) : Int) kr kq ku s0 s1 s2 s3 s4 s5 hs]) (fun u => rfl) (fun hPc hDc => zrunV (As := [.int (zI ((nm : Nat) : Int)), .int (zI ((p0 : Nat) : Int)), .int (zI 0)]) (rest := []) (q0 := 0) (ci := 4) K k_X4_byDeal qm_X4_108 ⟨⟨rfl, rfl⟩, ⟨Nat.le_of_ble_eq_true rfl, Nat.le_of_ble_eq_true rfl⟩⟩ rfl rfl hPc hDc (c_X4_byDeal l D cI h b pm n k d rr hd sm kr kq ku s0 s1 s2 s3 s4 s5 hs nm p0 0 (by first | assumption | omega) (by first | assumption | omega) (by first | assumption | omega) (by first | assumption | omega) _) rfl hl.1 rfl (Nat.le_of_ble_eq_true rfl) dX4_goesBy_64 ⟨Nat.zero_le _, Nat.zero_le _⟩) (by decide) (fun z u H locs hpost hP hD hS => ?_)
      subst hpost
      have hP : va_P D cls [cM h b ((pm : Nat) : Int) ((n : Nat) : Int) ((k : Nat) : Int) ((d : Nat) : Int) ((rr : Nat) : Int) ((hd : Nat) : Int) ((sm : Nat) : Int) kr kq ku s0 s1 s2 s3 s4 s5 hs] H := hP
      have hD : va_D (va_A [cM h b ((pm : Nat) : Int) ((n : Nat) : Int) ((k : Nat) : Int) ((d : Nat) : Int) ((rr : Nat) : Int) ((hd : Nat) : Int) ((sm : Nat) : Int) kr kq ku s0 s1 s2 s3 s4 s5 hs] sz) [cM h b ((pm : Nat) : Int) ((n : Nat) : Int) ((k : Nat) : Int) ((d : Nat) : Int) ((rr : Nat) : Int) ((hd : Nat) : Int) ((sm : Nat) : Int) kr kq ku s0 s1 s2 s3 s4 s5 hs] := hD
      refine W.eq (g2 := F0 m 67 ls [.int (zI (((dlq n (max 1 (min nm n)) p0 0) : Nat) : Int))]) rfl ?_
      rw [← hQf]
      exact z_iret K hS () (by first | (rw [show kd = 4 by omega]; rfl) | (rw [show kd = 2 by omega]; rfl)) hP hD dX4_goesBy_67
    · refine lv_iconst (v := zI 1) hx hb dX4_goesBy_59 rfl ?_
      refine lv_goto (tgt := 64) hx hb dX4_goesBy_60 (by decide) ?_
      refine zcall_i (wc := [cM h b ((pm : Nat) : Int) ((n : Nat) : Int) ((k : Nat) : Int) ((d : Nat) : Int) ((rr : Nat) : Int) ((hd : Nat) : Int) ((sm : Nat) : Int) kr kq ku s0 s1 s2 s3 s4 s5 hs]) (wr := []) (rest := []) hE hP hD hS hA [0] [] [0] rfl rfl (by decide) (by decide) (by decide) (fun (u : Unit) => [cM h b ((pm : Nat) : Int) ((n : Nat) : Int) ((k : Nat) : Int) ((d : Nat) : Int) ((rr : Nat) : Int) ((hd : Nat) : Int) ((sm : Nat) : Int) kr kq ku s0 s1 s2 s3 s4 s5 hs]) (fun u => rfl) (fun hPc hDc => zrunV (As := [.int (zI ((nm : Nat) : Int)), .int (zI ((p0 : Nat) : Int)), .int (zI 1)]) (rest := []) (q0 := 0) (ci := 4) K k_X4_byDeal qm_X4_108 ⟨⟨rfl, rfl⟩, ⟨Nat.le_of_ble_eq_true rfl, Nat.le_of_ble_eq_true rfl⟩⟩ rfl rfl hPc hDc (c_X4_byDeal l D cI h b pm n k d rr hd sm kr kq ku s0 s1 s2 s3 s4 s5 hs nm p0 1 (by first | assumption | omega) (by first | assumption | omega) (by first | assumption | omega) (by first | assumption | omega) _) rfl hl.1 rfl (Nat.le_of_ble_eq_true rfl) dX4_goesBy_64 ⟨Nat.zero_le _, Nat.zero_le _⟩) (by decide) (fun z u H locs hpost hP hD hS => ?_)
      subst hpost
      have hP : va_P D cls [cM h b ((pm : Nat) : Int) ((n : Nat) : Int) ((k : Nat) : Int) ((d : Nat) : Int) ((rr : Nat) : Int) ((hd : Nat) : Int) ((sm : Nat) : Int) kr kq ku s0 s1 s2 s3 s4 s5 hs] H := hP
      have hD : va_D (va_A [cM h b ((pm : Nat) : Int) ((n : Nat) : Int) ((k : Nat) : Int) ((d : Nat) : Int) ((rr : Nat) : Int) ((hd : Nat) : Int) ((sm : Nat) : Int) kr kq ku s0 s1 s2 s3 s4 s5 hs] sz) [cM h b ((pm : Nat) : Int) ((n : Nat) : Int) ((k : Nat) : Int) ((d : Nat) : Int) ((rr : Nat) : Int) ((hd : Nat) : Int) ((sm : Nat) : Int) kr kq ku s0 s1 s2 s3 s4 s5 hs] := hD
      refine W.eq (g2 := F0 m 67 ls [.int (zI (((dlq n (max 1 (min nm n)) p0 1) : Nat) : Int))]) rfl ?_
      rw [← hQf]
      exact z_iret K hS () (by first | (rw [show kd = 4 by omega]; rfl) | (rw [show kd = 2 by omega]; rfl)) hP hD dX4_goesBy_67
  · refine lv_tableIn (tgt := 68) hx hb dX4_goesBy_1 (by rw [zI_toInt (by omega)]; omega) (by rw [zI_toInt (by omega)]; omega) (by rw [zI_toInt (by omega), c_1]; rfl) (by decide) ?_
    refine lv_aload_n hx hb dX4_goesBy_68 rfl (lv_at hl 0 rfl) ?_
    refine lv_iload_n hx hb dX4_goesBy_69 rfl (lv_at hl 2 rfl) ?_
    refine lv_iload_n hx hb dX4_goesBy_70 rfl (lv_at hl 3 rfl) ?_
    refine zcall_i (wc := [cM h b ((pm : Nat) : Int) ((n : Nat) : Int) ((k : Nat) : Int) ((d : Nat) : Int) ((rr : Nat) : Int) ((hd : Nat) : Int) ((sm : Nat) : Int) kr kq ku s0 s1 s2 s3 s4 s5 hs]) (wr := []) (rest := []) hE hP hD hS hA [0] [] [0] rfl rfl (by decide) (by decide) (by decide) (fun (u : Unit) => [cM h b ((pm : Nat) : Int) ((n : Nat) : Int) ((k : Nat) : Int) ((d : Nat) : Int) ((rr : Nat) : Int) ((hd : Nat) : Int) ((sm : Nat) : Int) kr kq ku s0 s1 s2 s3 s4 s5 hs]) (fun u => rfl) (fun hPc hDc => zrunV (As := [.int (zI ((nm : Nat) : Int)), .int (zI ((p0 : Nat) : Int))]) (rest := []) (q0 := 0) (ci := 4) K k_X4_byTurn qm_X4_112 ⟨⟨rfl, rfl⟩, ⟨Nat.le_of_ble_eq_true rfl, Nat.le_of_ble_eq_true rfl⟩⟩ rfl rfl hPc hDc (c_X4_byTurn l D cI h b pm n k d rr hd sm kr kq ku s0 s1 s2 s3 s4 s5 hs nm p0 (by first | assumption | omega) (by first | assumption | omega) (by first | assumption | omega) _) rfl hl.1 rfl (Nat.le_of_ble_eq_true rfl) dX4_goesBy_71 ⟨Nat.zero_le _, Nat.zero_le _⟩) (by decide) (fun z u H locs hpost hP hD hS => ?_)
    subst hpost
    have hP : va_P D cls [cM h b ((pm : Nat) : Int) ((n : Nat) : Int) ((k : Nat) : Int) ((d : Nat) : Int) ((rr : Nat) : Int) ((hd : Nat) : Int) ((sm : Nat) : Int) kr kq ku s0 s1 s2 s3 s4 s5 hs] H := hP
    have hD : va_D (va_A [cM h b ((pm : Nat) : Int) ((n : Nat) : Int) ((k : Nat) : Int) ((d : Nat) : Int) ((rr : Nat) : Int) ((hd : Nat) : Int) ((sm : Nat) : Int) kr kq ku s0 s1 s2 s3 s4 s5 hs] sz) [cM h b ((pm : Nat) : Int) ((n : Nat) : Int) ((k : Nat) : Int) ((d : Nat) : Int) ((rr : Nat) : Int) ((hd : Nat) : Int) ((sm : Nat) : Int) kr kq ku s0 s1 s2 s3 s4 s5 hs] := hD
    refine W.eq (g2 := F0 m 74 ls [.int (zI (((if p0 < min nm n then min nm n - 1 - p0 else p0) : Nat) : Int))]) rfl ?_
    rw [← hQf]
    exact z_iret K hS () (by rw [show kd = 3 by omega]; rfl) hP hD dX4_goesBy_74
  · refine lv_tableIn (tgt := 51) hx hb dX4_goesBy_1 (by rw [zI_toInt (by omega)]; omega) (by rw [zI_toInt (by omega)]; omega) (by rw [zI_toInt (by omega), c_1]; rfl) (by decide) ?_
    refine lv_aload_n hx hb dX4_goesBy_51 rfl (lv_at hl 0 rfl) ?_
    refine lv_iload_n hx hb dX4_goesBy_52 rfl (lv_at hl 2 rfl) ?_
    refine lv_iload_n hx hb dX4_goesBy_53 rfl (lv_at hl 3 rfl) ?_
    refine lv_iload_n hx hb dX4_goesBy_54 rfl (lv_at hl 1 rfl) ?_
    refine lv_iconst (v := zI 4) hx hb dX4_goesBy_55 rfl ?_
    refine z_icmp_ne (tgt := 63) hx hb (by omega) dX4_goesBy_56 (by decide) (fun c_56 => ?_) (fun c_56 => ?_)
    · refine lv_iconst (v := zI 0) hx hb dX4_goesBy_63 rfl ?_
      refine zcall_i (wc := [cM h b ((pm : Nat) : Int) ((n : Nat) : Int) ((k : Nat) : Int) ((d : Nat) : Int) ((rr : Nat) : Int) ((hd : Nat) : Int) ((sm : Nat) : Int) kr kq ku s0 s1 s2 s3 s4 s5 hs]) (wr := []) (rest := []) hE hP hD hS hA [0] [] [0] rfl rfl (by decide) (by decide) (by decide) (fun (u : Unit) => [cM h b ((pm : Nat) : Int) ((n : Nat) : Int) ((k : Nat) : Int) ((d : Nat) : Int) ((rr : Nat) : Int) ((hd : Nat) : Int) ((sm : Nat) : Int) kr kq ku s0 s1 s2 s3 s4 s5 hs]) (fun u => rfl) (fun hPc hDc => zrunV (As := [.int (zI ((nm : Nat) : Int)), .int (zI ((p0 : Nat) : Int)), .int (zI 0)]) (rest := []) (q0 := 0) (ci := 4) K k_X4_byDeal qm_X4_108 ⟨⟨rfl, rfl⟩, ⟨Nat.le_of_ble_eq_true rfl, Nat.le_of_ble_eq_true rfl⟩⟩ rfl rfl hPc hDc (c_X4_byDeal l D cI h b pm n k d rr hd sm kr kq ku s0 s1 s2 s3 s4 s5 hs nm p0 0 (by first | assumption | omega) (by first | assumption | omega) (by first | assumption | omega) (by first | assumption | omega) _) rfl hl.1 rfl (Nat.le_of_ble_eq_true rfl) dX4_goesBy_64 ⟨Nat.zero_le _, Nat.zero_le _⟩) (by decide) (fun z u H locs hpost hP hD hS => ?_)
      subst hpost
      have hP : va_P D cls [cM h b ((pm : Nat) : Int) ((n : Nat) : Int) ((k : Nat) : Int) ((d : Nat) : Int) ((rr : Nat) : Int) ((hd : Nat) : Int) ((sm : Nat) : Int) kr kq ku s0 s1 s2 s3 s4 s5 hs] H := hP
      have hD : va_D (va_A [cM h b ((pm : Nat) : Int) ((n : Nat) : Int) ((k : Nat) : Int) ((d : Nat) : Int) ((rr : Nat) : Int) ((hd : Nat) : Int) ((sm : Nat) : Int) kr kq ku s0 s1 s2 s3 s4 s5 hs] sz) [cM h b ((pm : Nat) : Int) ((n : Nat) : Int) ((k : Nat) : Int) ((d : Nat) : Int) ((rr : Nat) : Int) ((hd : Nat) : Int) ((sm : Nat) : Int) kr kq ku s0 s1 s2 s3 s4 s5 hs] := hD
      refine W.eq (g2 := F0 m 67 ls [.int (zI (((dlq n (max 1 (min nm n)) p0 0) : Nat) : Int))]) rfl ?_
      rw [← hQf]
      exact z_iret K hS () (by first | (rw [show kd = 4 by omega]; rfl) | (rw [show kd = 2 by omega]; rfl)) hP hD dX4_goesBy_67
    · refine lv_iconst (v := zI 1) hx hb dX4_goesBy_59 rfl ?_
      refine lv_goto (tgt := 64) hx hb dX4_goesBy_60 (by decide) ?_
      refine zcall_i (wc := [cM h b ((pm : Nat) : Int) ((n : Nat) : Int) ((k : Nat) : Int) ((d : Nat) : Int) ((rr : Nat) : Int) ((hd : Nat) : Int) ((sm : Nat) : Int) kr kq ku s0 s1 s2 s3 s4 s5 hs]) (wr := []) (rest := []) hE hP hD hS hA [0] [] [0] rfl rfl (by decide) (by decide) (by decide) (fun (u : Unit) => [cM h b ((pm : Nat) : Int) ((n : Nat) : Int) ((k : Nat) : Int) ((d : Nat) : Int) ((rr : Nat) : Int) ((hd : Nat) : Int) ((sm : Nat) : Int) kr kq ku s0 s1 s2 s3 s4 s5 hs]) (fun u => rfl) (fun hPc hDc => zrunV (As := [.int (zI ((nm : Nat) : Int)), .int (zI ((p0 : Nat) : Int)), .int (zI 1)]) (rest := []) (q0 := 0) (ci := 4) K k_X4_byDeal qm_X4_108 ⟨⟨rfl, rfl⟩, ⟨Nat.le_of_ble_eq_true rfl, Nat.le_of_ble_eq_true rfl⟩⟩ rfl rfl hPc hDc (c_X4_byDeal l D cI h b pm n k d rr hd sm kr kq ku s0 s1 s2 s3 s4 s5 hs nm p0 1 (by first | assumption | omega) (by first | assumption | omega) (by first | assumption | omega) (by first | assumption | omega) _) rfl hl.1 rfl (Nat.le_of_ble_eq_true rfl) dX4_goesBy_64 ⟨Nat.zero_le _, Nat.zero_le _⟩) (by decide) (fun z u H locs hpost hP hD hS => ?_)
      subst hpost
      have hP : va_P D cls [cM h b ((pm : Nat) : Int) ((n : Nat) : Int) ((k : Nat) : Int) ((d : Nat) : Int) ((rr : Nat) : Int) ((hd : Nat) : Int) ((sm : Nat) : Int) kr kq ku s0 s1 s2 s3 s4 s5 hs] H := hP
      have hD : va_D (va_A [cM h b ((pm : Nat) : Int) ((n : Nat) : Int) ((k : Nat) : Int) ((d : Nat) : Int) ((rr : Nat) : Int) ((hd : Nat) : Int) ((sm : Nat) : Int) kr kq ku s0 s1 s2 s3 s4 s5 hs] sz) [cM h b ((pm : Nat) : Int) ((n : Nat) : Int) ((k : Nat) : Int) ((d : Nat) : Int) ((rr : Nat) : Int) ((hd : Nat) : Int) ((sm : Nat) : Int) kr kq ku s0 s1 s2 s3 s4 s5 hs] := hD
      refine W.eq (g2 := F0 m 67 ls [.int (zI (((dlq n (max 1 (min nm n)) p0 1) : Nat) : Int))]) rfl ?_
      rw [← hQf]
      exact z_iret K hS () (by first | (rw [show kd = 4 by omega]; rfl) | (rw [show kd = 2 by omega]; rfl)) hP hD dX4_goesBy_67
  · refine lv_tableOut (tgt := 75) hx hb dX4_goesBy_1 (by rw [zI_toInt (by omega)]; omega) (by decide) ?_
    refine lv_aload_n hx hb dX4_goesBy_75 rfl (lv_at hl 0 rfl) ?_
    refine lv_iload_n hx hb dX4_goesBy_76 rfl (lv_at hl 2 rfl) ?_
    refine lv_iload_n hx hb dX4_goesBy_77 rfl (lv_at hl 3 rfl) ?_
    refine zcall_i (wc := [cM h b ((pm : Nat) : Int) ((n : Nat) : Int) ((k : Nat) : Int) ((d : Nat) : Int) ((rr : Nat) : Int) ((hd : Nat) : Int) ((sm : Nat) : Int) kr kq ku s0 s1 s2 s3 s4 s5 hs]) (wr := []) (rest := []) hE hP hD hS hA [0] [] [0] rfl rfl (by decide) (by decide) (by decide) (fun (u : Unit) => [cM h b ((pm : Nat) : Int) ((n : Nat) : Int) ((k : Nat) : Int) ((d : Nat) : Int) ((rr : Nat) : Int) ((hd : Nat) : Int) ((sm : Nat) : Int) kr kq ku s0 s1 s2 s3 s4 s5 hs]) (fun u => rfl) (fun hPc hDc => zrunV (As := [.int (zI ((nm : Nat) : Int)), .int (zI ((p0 : Nat) : Int))]) (rest := []) (q0 := 0) (ci := 4) K k_X4_byStep qm_X4_115 ⟨⟨rfl, rfl⟩, ⟨Nat.le_of_ble_eq_true rfl, Nat.le_of_ble_eq_true rfl⟩⟩ rfl rfl hPc hDc (c_X4_byStep l D cI h b pm n k d rr hd sm kr kq ku s0 s1 s2 s3 s4 s5 hs nm p0 (by first | assumption | omega) (by first | assumption | omega) (by first | assumption | omega) _) rfl hl.1 rfl (Nat.le_of_ble_eq_true rfl) dX4_goesBy_78 ⟨Nat.zero_le _, Nat.zero_le _⟩) (by decide) (fun z u H locs hpost hP hD hS => ?_)
    subst hpost
    have hP : va_P D cls [cM h b ((pm : Nat) : Int) ((n : Nat) : Int) ((k : Nat) : Int) ((d : Nat) : Int) ((rr : Nat) : Int) ((hd : Nat) : Int) ((sm : Nat) : Int) kr kq ku s0 s1 s2 s3 s4 s5 hs] H := hP
    have hD : va_D (va_A [cM h b ((pm : Nat) : Int) ((n : Nat) : Int) ((k : Nat) : Int) ((d : Nat) : Int) ((rr : Nat) : Int) ((hd : Nat) : Int) ((sm : Nat) : Int) kr kq ku s0 s1 s2 s3 s4 s5 hs] sz) [cM h b ((pm : Nat) : Int) ((n : Nat) : Int) ((k : Nat) : Int) ((d : Nat) : Int) ((rr : Nat) : Int) ((hd : Nat) : Int) ((sm : Nat) : Int) kr kq ku s0 s1 s2 s3 s4 s5 hs] := hD
    refine W.eq (g2 := F0 m 81 ls [.int (zI (((if p0 = 0 then min nm (n - 1) else if p0 ≤ min nm (n - 1) then p0 - 1 else p0) : Nat) : Int))]) rfl ?_
    rw [← hQf]
    exact z_iret K hS () (by rw [show kd = 0 by omega]; rfl) hP hD dX4_goesBy_81
set_option maxHeartbeats 4000000 in
set_option maxRecDepth 100000 in
theorem c_X4_goesOf (l : Launch) (D : va_G) (cI : ClassId) (h : Nat) (b : Nat → Nat) (pm n k d rr hd sm : Nat) (kr kq ku s0 s1 s2 s3 s4 s5 hs : Int) (g0 g1 : Nat → Int) (κ ν : Nat → Nat) (j0 p0 : Nat) (hn : 2 ≤ n ∧ n ≤ 12) (hk : k ≤ 6) (hg0 : ∀ j, j < k → g0 j = ((κ j : Nat) : Int)) (hκ : ∀ j, j < k → κ j ≤ 4) (hg1 : ∀ j, j < k → g1 j = ((ν j : Nat) : Int)) (hν : ∀ j, j < k → ν j ≤ 9) (hj0 : j0 < k) (hp0 : p0 < n) : zMi l yX4_goesOf cX4_goesOf 3 (some .int) ({ frames := 3, cells := 0, slots := 0, locals := 73 }) D cI [.ref h, .int (zI ((j0 : Nat) : Int)), .int (zI ((p0 : Nat) : Int))] [cM h b ((pm : Nat) : Int) ((n : Nat) : Int) ((k : Nat) : Int) ((d : Nat) : Int) ((rr : Nat) : Int) ((hd : Nat) : Int) ((sm : Nat) : Int) kr kq ku s0 s1 s2 s3 s4 s5 hs, cR cI (b 1) 6 g0, cR cI (b 2) 6 g1] (fun (z : Int) (u : Unit) => z = (((mus n κ ν j0 p0) : Nat) : Int)) (fun (u : Unit) => [cM h b ((pm : Nat) : Int) ((n : Nat) : Int) ((k : Nat) : Int) ((d : Nat) : Int) ((rr : Nat) : Int) ((hd : Nat) : Int) ((sm : Nat) : Int) kr kq ku s0 s1 s2 s3 s4 s5 hs, cR cI (b 1) 6 g0, cR cI (b 2) 6 g1]) := by
  intro sz
  refine zstart rfl (by decide) (Nat.le_of_ble_eq_true rfl) ?_
  intro p e s m below meth c ls K hnm hsz hP hD hS hl
  generalize hargs : ([.ref h, .int (zI ((j0 : Nat) : Int)), .int (zI ((p0 : Nat) : Int))] : List Value).toArray = args at K ⊢
  generalize hQf : MQ below _ args s _ _ _ = Qf
  have K : zK p s m args meth c cX4_goesOf 3 RX4 (some .int) D cI := K
  obtain ⟨hx, hb, hml, hown, hts, hE, -, -⟩ := id K
  have hA := zhA (ws0 := [cM h b ((pm : Nat) : Int) ((n : Nat) : Int) ((k : Nat) : Int) ((d : Nat) : Int) ((rr : Nat) : Int) ((hd : Nat) : Int) ((sm : Nat) : Int) kr kq ku s0 s1 s2 s3 s4 s5 hs, cR cI (b 1) 6 g0, cR cI (b 2) 6 g1]) hsz
  have hl : lv_has ls 3 [(0, .ref h), (1, .int (zI ((j0 : Nat) : Int))), (2, .int (zI ((p0 : Nat) : Int)))] := hl
  refine lv_aload_n hx hb dX4_goesOf_0 rfl (lv_at hl 0 rfl) ?_
  refine lv_aload_n hx hb dX4_goesOf_1 rfl (lv_at hl 0 rfl) ?_
  refine va_get (D := D) (ci := 4) (v := .ref (b 1)) (C := RX4) (T := TX4) (N := 32) hx hb hts inT_X4 hown hE.1 hP 0 rfl rfl 6 (by decide) (hts _ qf_X4_13) (fun _ h9 => h9) rfl dX4_goesOf_2 ?_
  refine lv_iload_n hx hb dX4_goesOf_5 rfl (lv_at hl 1 rfl) ?_
  have h1 := hκ j0 hj0
  have h2 := hν j0 hj0
  refine z_iald hx hb hE hP 1 rfl j0 (by omega) (by omega) (by first | decide | omega) ((κ j0 : Nat) : Int) (hg0 j0 hj0) dX4_goesOf_6 ?_
  refine lv_aload_n hx hb dX4_goesOf_7 rfl (lv_at hl 0 rfl) ?_
  refine va_get (D := D) (ci := 4) (v := .ref (b 2)) (C := RX4) (T := TX4) (N := 32) hx hb hts inT_X4 hown hE.1 hP 0 rfl rfl 7 (by decide) (hts _ qf_X4_16) (fun _ h9 => h9) rfl dX4_goesOf_8 ?_
  refine lv_iload_n hx hb dX4_goesOf_11 rfl (lv_at hl 1 rfl) ?_
  refine z_iald hx hb hE hP 2 rfl j0 (by omega) (by omega) (by first | decide | omega) ((ν j0 : Nat) : Int) (hg1 j0 hj0) dX4_goesOf_12 ?_
  refine lv_iload_n hx hb dX4_goesOf_13 rfl (lv_at hl 2 rfl) ?_
  refine zcall_i (wc := [cM h b ((pm : Nat) : Int) ((n : Nat) : Int) ((k : Nat) : Int) ((d : Nat) : Int) ((rr : Nat) : Int) ((hd : Nat) : Int) ((sm : Nat) : Int) kr kq ku s0 s1 s2 s3 s4 s5 hs]) (wr := [cR cI (b 1) 6 g0, cR cI (b 2) 6 g1]) (rest := []) hE hP hD hS hA [0] [1, 2] [2, 0, 1] rfl rfl (by decide) (by decide) (by decide) (fun (u : Unit) => [cM h b ((pm : Nat) : Int) ((n : Nat) : Int) ((k : Nat) : Int) ((d : Nat) : Int) ((rr : Nat) : Int) ((hd : Nat) : Int) ((sm : Nat) : Int) kr kq ku s0 s1 s2 s3 s4 s5 hs, cR cI (b 1) 6 g0, cR cI (b 2) 6 g1]) (fun u => rfl) (fun hPc hDc => zrunV (As := [.int (zI ((κ j0 : Nat) : Int)), .int (zI ((ν j0 : Nat) : Int)), .int (zI ((p0 : Nat) : Int))]) (rest := []) (q0 := 0) (ci := 4) K k_X4_goesBy qm_X4_118 ⟨⟨rfl, rfl⟩, ⟨Nat.le_of_ble_eq_true rfl, Nat.le_of_ble_eq_true rfl⟩⟩ rfl rfl hPc hDc (c_X4_goesBy l D cI h b pm n k d rr hd sm kr kq ku s0 s1 s2 s3 s4 s5 hs (κ j0) (ν j0) p0 (by first | assumption | omega) (by first | assumption | omega) (by first | assumption | omega) (by first | assumption | omega) _) rfl hl.1 rfl (Nat.le_of_ble_eq_true rfl) dX4_goesOf_14 ⟨Nat.zero_le _, Nat.zero_le _⟩) (by decide) (fun z u H locs hpost hP hD hS => ?_)
  subst hpost
  have hP : va_P D cls [cM h b ((pm : Nat) : Int) ((n : Nat) : Int) ((k : Nat) : Int) ((d : Nat) : Int) ((rr : Nat) : Int) ((hd : Nat) : Int) ((sm : Nat) : Int) kr kq ku s0 s1 s2 s3 s4 s5 hs, cR cI (b 1) 6 g0, cR cI (b 2) 6 g1] H := hP
  have hD : va_D (va_A [cM h b ((pm : Nat) : Int) ((n : Nat) : Int) ((k : Nat) : Int) ((d : Nat) : Int) ((rr : Nat) : Int) ((hd : Nat) : Int) ((sm : Nat) : Int) kr kq ku s0 s1 s2 s3 s4 s5 hs, cR cI (b 1) 6 g0, cR cI (b 2) 6 g1] sz) [cM h b ((pm : Nat) : Int) ((n : Nat) : Int) ((k : Nat) : Int) ((d : Nat) : Int) ((rr : Nat) : Int) ((hd : Nat) : Int) ((sm : Nat) : Int) kr kq ku s0 s1 s2 s3 s4 s5 hs, cR cI (b 1) 6 g0, cR cI (b 2) 6 g1] := hD
  refine W.eq (g2 := F0 m 17 ls [.int (zI (((mv n (κ j0) (ν j0) p0) : Nat) : Int))]) rfl ?_
  rw [← hQf]
  exact z_iret K hS () (by rfl) hP hD dX4_goesOf_17
set_option maxHeartbeats 4000000 in
set_option maxRecDepth 100000 in
theorem c_X4_roundOf (l : Launch) (D : va_G) (cI : ClassId) (h : Nat) (b : Nat → Nat) (pm n k d rr hd sm : Nat) (kr kq ku s0 s1 s2 s3 s4 s5 hs : Int) (g0 g1 : Nat → Int) (κ ν : Nat → Nat) (p0 : Nat) (hn : 2 ≤ n ∧ n ≤ 12) (hk : k ≤ 6) (hg0 : ∀ j, j < k → g0 j = ((κ j : Nat) : Int)) (hκ : ∀ j, j < k → κ j ≤ 4) (hg1 : ∀ j, j < k → g1 j = ((ν j : Nat) : Int)) (hν : ∀ j, j < k → ν j ≤ 9) (hp0 : p0 < n) : zMi l yX4_roundOf cX4_roundOf 4 (some .int) ({ frames := 4, cells := 0, slots := 0, locals := 95 }) D cI [.ref h, .int (zI ((p0 : Nat) : Int))] [cM h b ((pm : Nat) : Int) ((n : Nat) : Int) ((k : Nat) : Int) ((d : Nat) : Int) ((rr : Nat) : Int) ((hd : Nat) : Int) ((sm : Nat) : Int) kr kq ku s0 s1 s2 s3 s4 s5 hs, cR cI (b 1) 6 g0, cR cI (b 2) 6 g1] (fun (z : Int) (u : Unit) => z = (((rdc (mus n κ ν) k p0) : Nat) : Int)) (fun (u : Unit) => [cM h b ((pm : Nat) : Int) ((n : Nat) : Int) ((k : Nat) : Int) ((d : Nat) : Int) ((rr : Nat) : Int) ((hd : Nat) : Int) ((sm : Nat) : Int) kr kq ku s0 s1 s2 s3 s4 s5 hs, cR cI (b 1) 6 g0, cR cI (b 2) 6 g1]) := by
  intro sz
  refine zstart rfl (by decide) (Nat.le_of_ble_eq_true rfl) ?_
  intro p e s m below meth c ls K hnm hsz hP hD hS hl
  generalize hargs : ([.ref h, .int (zI ((p0 : Nat) : Int))] : List Value).toArray = args at K ⊢
  generalize hQf : MQ below _ args s _ _ _ = Qf
  have K : zK p s m args meth c cX4_roundOf 4 RX4 (some .int) D cI := K
  obtain ⟨hx, hb, hml, hown, hts, hE, -, -⟩ := id K
  have hA := zhA (ws0 := [cM h b ((pm : Nat) : Int) ((n : Nat) : Int) ((k : Nat) : Int) ((d : Nat) : Int) ((rr : Nat) : Int) ((hd : Nat) : Int) ((sm : Nat) : Int) kr kq ku s0 s1 s2 s3 s4 s5 hs, cR cI (b 1) 6 g0, cR cI (b 2) 6 g1]) hsz
  have hl : lv_has ls 4 [(0, .ref h), (1, .int (zI ((p0 : Nat) : Int)))] := hl
  have hμ := mus_lt (k := k) hn.2 hκ hν
  refine lv_iload_n hx hb dX4_roundOf_0 rfl (lv_at hl 1 rfl) ?_
  refine lv_istore_n (lv' := [(2, .int (zI ((p0 : Nat) : Int))), (0, .ref h), (1, .int (zI ((p0 : Nat) : Int)))]) hx hb dX4_roundOf_1 rfl hl (by decide) rfl (fun ls hl => ?_)
  refine lv_iconst (v := zI 0) hx hb dX4_roundOf_2 rfl ?_
  refine lv_istore_n (lv' := [(3, .int (zI 0)), (2, .int (zI ((p0 : Nat) : Int))), (0, .ref h), (1, .int (zI ((p0 : Nat) : Int)))]) hx hb dX4_roundOf_3 rfl hl (by decide) rfl (fun ls hl => ?_)
  have cut_4 : ∀ (N_4 : Nat), ∀ (i r : Nat), k - i < N_4 → (i ≤ k) → (r = rdc (mus n κ ν) i p0) → (r < n) → ∀ (H : Heap) (locs : List Loc) (ls : Array Slot), va_P D cls [cM h b ((pm : Nat) : Int) ((n : Nat) : Int) ((k : Nat) : Int) ((d : Nat) : Int) ((rr : Nat) : Int) ((hd : Nat) : Int) ((sm : Nat) : Int) kr kq ku s0 s1 s2 s3 s4 s5 hs, cR cI (b 1) 6 g0, cR cI (b 2) 6 g1] H → va_D (va_A [cM h b ((pm : Nat) : Int) ((n : Nat) : Int) ((k : Nat) : Int) ((d : Nat) : Int) ((rr : Nat) : Int) ((hd : Nat) : Int) ((sm : Nat) : Int) kr kq ku s0 s1 s2 s3 s4 s5 hs, cR cI (b 1) 6 g0, cR cI (b 2) 6 g1] sz) [cM h b ((pm : Nat) : Int) ((n : Nat) : Int) ((k : Nat) : Int) ((d : Nat) : Int) ((rr : Nat) : Int) ((hd : Nat) : Int) ((sm : Nat) : Int) kr kq ku s0 s1 s2 s3 s4 s5 hs, cR cI (b 1) 6 g0, cR cI (b 2) 6 g1] → va_S (va_A [cM h b ((pm : Nat) : Int) ((n : Nat) : Int) ((k : Nat) : Int) ((d : Nat) : Int) ((rr : Nat) : Int) ((hd : Nat) : Int) ((sm : Nat) : Int) kr kq ku s0 s1 s2 s3 s4 s5 hs, cR cI (b 1) 6 g0, cR cI (b 2) 6 g1] sz) s.heap H locs → lv_has ls 4 [(0, .ref h), (1, .int (zI ((p0 : Nat) : Int))), (2, .int (zI ((r : Nat) : Int))), (3, .int (zI ((i : Nat) : Int)))] → W p l e ({ frames := 4, cells := 0, slots := 0, locals := 95 }) s m args below meth c H locs 0 0 Qf (F0 m 4 ls []) := by
    intro N_4
    induction N_4 with
    | zero => intro i r hm_4; exact absurd hm_4 (Nat.not_lt_zero _)
    | succ N_4 ih_4 =>
      intro i r hm_4 hi hr hr2 H locs ls hP hD hS hl
      refine lv_iload_n hx hb dX4_roundOf_4 rfl (lv_at hl 3 rfl) ?_
      refine lv_aload_n hx hb dX4_roundOf_5 rfl (lv_at hl 0 rfl) ?_
      refine va_get (D := D) (ci := 4) (v := .int (zI ((k : Nat) : Int))) (C := RX4) (T := TX4) (N := 32) hx hb hts inT_X4 hown hE.1 hP 0 rfl rfl 3 (by decide) (hts _ qf_X4_89) (fun _ h9 => h9) rfl dX4_roundOf_6 ?_
      refine z_icmp_ge (tgt := 25) hx hb (by omega) dX4_roundOf_9 (by decide) (fun c_9 => ?_) (fun c_9 => ?_)
      · refine lv_iload_n hx hb dX4_roundOf_25 rfl (lv_at hl 2 rfl) ?_
        rw [← hQf]
        exact z_iret K hS () (by rw [hr, show i = k by omega]) hP hD dX4_roundOf_26
      · refine lv_aload_n hx hb dX4_roundOf_12 rfl (lv_at hl 0 rfl) ?_
        refine lv_iload_n hx hb dX4_roundOf_13 rfl (lv_at hl 3 rfl) ?_
        refine lv_iload_n hx hb dX4_roundOf_14 rfl (lv_at hl 2 rfl) ?_
        refine zcall_i (wc := [cM h b ((pm : Nat) : Int) ((n : Nat) : Int) ((k : Nat) : Int) ((d : Nat) : Int) ((rr : Nat) : Int) ((hd : Nat) : Int) ((sm : Nat) : Int) kr kq ku s0 s1 s2 s3 s4 s5 hs, cR cI (b 1) 6 g0, cR cI (b 2) 6 g1]) (wr := []) (rest := []) hE hP hD hS hA [0, 1, 2] [] [0, 1, 2] rfl rfl (by decide) (by decide) (by decide) (fun (u : Unit) => [cM h b ((pm : Nat) : Int) ((n : Nat) : Int) ((k : Nat) : Int) ((d : Nat) : Int) ((rr : Nat) : Int) ((hd : Nat) : Int) ((sm : Nat) : Int) kr kq ku s0 s1 s2 s3 s4 s5 hs, cR cI (b 1) 6 g0, cR cI (b 2) 6 g1]) (fun u => rfl) (fun hPc hDc => zrunV (As := [.int (zI ((i : Nat) : Int)), .int (zI ((r : Nat) : Int))]) (rest := []) (q0 := 0) (ci := 4) K k_X4_goesOf qm_X4_128 ⟨⟨rfl, rfl⟩, ⟨Nat.le_of_ble_eq_true rfl, Nat.le_of_ble_eq_true rfl⟩⟩ rfl rfl hPc hDc (c_X4_goesOf l D cI h b pm n k d rr hd sm kr kq ku s0 s1 s2 s3 s4 s5 hs g0 g1 κ ν i r (by first | assumption | omega) (by first | assumption | omega) (by first | assumption | omega) (by first | assumption | omega) (by first | assumption | omega) (by first | assumption | omega) (by first | assumption | omega) (by first | assumption | omega) _) rfl hl.1 rfl (Nat.le_of_ble_eq_true rfl) dX4_roundOf_15 ⟨Nat.zero_le _, Nat.zero_le _⟩) (by decide) (fun z u H locs hpost hP hD hS => ?_)
        subst hpost
        have hP : va_P D cls [cM h b ((pm : Nat) : Int) ((n : Nat) : Int) ((k : Nat) : Int) ((d : Nat) : Int) ((rr : Nat) : Int) ((hd : Nat) : Int) ((sm : Nat) : Int) kr kq ku s0 s1 s2 s3 s4 s5 hs, cR cI (b 1) 6 g0, cR cI (b 2) 6 g1] H := hP
        have hD : va_D (va_A [cM h b ((pm : Nat) : Int) ((n : Nat) : Int) ((k : Nat) : Int) ((d : Nat) : Int) ((rr : Nat) : Int) ((hd : Nat) : Int) ((sm : Nat) : Int) kr kq ku s0 s1 s2 s3 s4 s5 hs, cR cI (b 1) 6 g0, cR cI (b 2) 6 g1] sz) [cM h b ((pm : Nat) : Int) ((n : Nat) : Int) ((k : Nat) : Int) ((d : Nat) : Int) ((rr : Nat) : Int) ((hd : Nat) : Int) ((sm : Nat) : Int) kr kq ku s0 s1 s2 s3 s4 s5 hs, cR cI (b 1) 6 g0, cR cI (b 2) 6 g1] := hD
        refine W.eq (g2 := F0 m 18 ls [.int (zI (((mus n κ ν i r) : Nat) : Int))]) rfl ?_
        refine lv_istore_n (lv' := [(2, .int (zI (((mus n κ ν i r) : Nat) : Int))), (0, .ref h), (1, .int (zI ((p0 : Nat) : Int))), (3, .int (zI ((i : Nat) : Int)))]) hx hb dX4_roundOf_18 rfl hl (by decide) rfl (fun ls hl => ?_)
        refine z_iinc (k := 3) (lv' := [(3, .int (zI (((i + 1) : Nat) : Int))), (2, .int (zI (((mus n κ ν i r) : Nat) : Int))), (0, .ref h), (1, .int (zI ((p0 : Nat) : Int)))]) hx hb (((i + 1) : Nat) : Int) (by omega) dX4_roundOf_19 hl rfl (by decide) rfl (fun ls hl => ?_)
        refine lv_goto (tgt := 4) hx hb dX4_roundOf_22 (by decide) ?_
        exact ih_4 (i + 1) (mus n κ ν i r) (by omega) (by omega) (by rw [hr]; rfl) (by exact hμ i r (by omega) hr2) _ _ _ hP hD hS (lv_sub hl [2, 3, 1, 0] rfl)
  exact cut_4 (k - 0 + 1) 0 p0 (Nat.lt_succ_self _) (by omega) (by rfl) (by exact hp0) _ _ _ hP hD hS (lv_sub hl [2, 3, 1, 0] rfl)
set_option maxHeartbeats 4000000 in
set_option maxRecDepth 100000 in
theorem c_X4_ringOf (l : Launch) (D : va_G) (cI : ClassId) (h : Nat) (b : Nat → Nat) (pm n k d rr hd sm : Nat) (kr kq ku s0 s1 s2 s3 s4 s5 hs : Int) (f : Nat → Int) (φ : Nat → Nat) (p0 : Nat) (hn : n ≤ 12) (hf : ∀ j, j < n → f j = ((φ j : Nat) : Int)) (hφ : ∀ j, j < n → φ j < n) (hinj : inj φ n) (hp0 : p0 < n) : zMi l yX4_ringOf cX4_ringOf 4 (some .int) ({ frames := 0, cells := 0, slots := 0, locals := 0 }) D cI [.ref h, .int (zI ((p0 : Nat) : Int))] [cM h b ((pm : Nat) : Int) ((n : Nat) : Int) ((k : Nat) : Int) ((d : Nat) : Int) ((rr : Nat) : Int) ((hd : Nat) : Int) ((sm : Nat) : Int) kr kq ku s0 s1 s2 s3 s4 s5 hs, cR cI (b 4) 12 f] (fun (z : Int) (u : Unit) => z = (((rl φ n p0) : Nat) : Int)) (fun (u : Unit) => [cM h b ((pm : Nat) : Int) ((n : Nat) : Int) ((k : Nat) : Int) ((d : Nat) : Int) ((rr : Nat) : Int) ((hd : Nat) : Int) ((sm : Nat) : Int) kr kq ku s0 s1 s2 s3 s4 s5 hs, cR cI (b 4) 12 f]) := by
  intro sz
  refine zstart rfl (by decide) (Nat.le_of_ble_eq_true rfl) ?_
  intro p e s m below meth c ls K hnm hsz hP hD hS hl
  generalize hargs : ([.ref h, .int (zI ((p0 : Nat) : Int))] : List Value).toArray = args at K ⊢
  generalize hQf : MQ below _ args s _ _ _ = Qf
  have K : zK p s m args meth c cX4_ringOf 4 RX4 (some .int) D cI := K
  obtain ⟨hx, hb, hml, hown, hts, hE, -, -⟩ := id K
  have hA := zhA (ws0 := [cM h b ((pm : Nat) : Int) ((n : Nat) : Int) ((k : Nat) : Int) ((d : Nat) : Int) ((rr : Nat) : Int) ((hd : Nat) : Int) ((sm : Nat) : Int) kr kq ku s0 s1 s2 s3 s4 s5 hs, cR cI (b 4) 12 f]) hsz
  have hl : lv_has ls 4 [(0, .ref h), (1, .int (zI ((p0 : Nat) : Int)))] := hl
  refine lv_iconst (v := zI 1) hx hb dX4_ringOf_0 rfl ?_
  refine lv_istore_n (lv' := [(2, .int (zI 1)), (0, .ref h), (1, .int (zI ((p0 : Nat) : Int)))]) hx hb dX4_ringOf_1 rfl hl (by decide) rfl (fun ls hl => ?_)
  refine lv_aload_n hx hb dX4_ringOf_2 rfl (lv_at hl 1 rfl) ?_
  refine va_get (D := D) (ci := 4) (v := .ref (b 4)) (C := RX4) (T := TX4) (N := 32) hx hb hts inT_X4 hown hE.1 hP 0 rfl rfl 9 (by decide) (hts _ qf_X4_22) (fun _ h9 => h9) rfl dX4_ringOf_3 ?_
  refine lv_iload_n hx hb dX4_ringOf_6 rfl (lv_at hl 2 rfl) ?_
  have hφ0 := hφ p0 hp0
  refine z_iald hx hb hE hP 1 rfl p0 (by omega) (by omega) (by first | decide | omega) ((φ p0 : Nat) : Int) (hf p0 hp0) dX4_ringOf_7 ?_
  refine lv_istore_n (lv' := [(3, .int (zI ((φ p0 : Nat) : Int))), (2, .int (zI 1)), (0, .ref h), (1, .int (zI ((p0 : Nat) : Int)))]) hx hb dX4_ringOf_8 rfl hl (by decide) rfl (fun ls hl => ?_)
  have cut_9 : ∀ (N_9 : Nat), ∀ (i r : Nat), n - i < N_9 → (i + 1 ≤ n) → (r = it φ (i + 1) p0) → (r < n) → (∀ j, j < i → it φ (j + 1) p0 ≠ p0) → ∀ (H : Heap) (locs : List Loc) (ls : Array Slot), va_P D cls [cM h b ((pm : Nat) : Int) ((n : Nat) : Int) ((k : Nat) : Int) ((d : Nat) : Int) ((rr : Nat) : Int) ((hd : Nat) : Int) ((sm : Nat) : Int) kr kq ku s0 s1 s2 s3 s4 s5 hs, cR cI (b 4) 12 f] H → va_D (va_A [cM h b ((pm : Nat) : Int) ((n : Nat) : Int) ((k : Nat) : Int) ((d : Nat) : Int) ((rr : Nat) : Int) ((hd : Nat) : Int) ((sm : Nat) : Int) kr kq ku s0 s1 s2 s3 s4 s5 hs, cR cI (b 4) 12 f] sz) [cM h b ((pm : Nat) : Int) ((n : Nat) : Int) ((k : Nat) : Int) ((d : Nat) : Int) ((rr : Nat) : Int) ((hd : Nat) : Int) ((sm : Nat) : Int) kr kq ku s0 s1 s2 s3 s4 s5 hs, cR cI (b 4) 12 f] → va_S (va_A [cM h b ((pm : Nat) : Int) ((n : Nat) : Int) ((k : Nat) : Int) ((d : Nat) : Int) ((rr : Nat) : Int) ((hd : Nat) : Int) ((sm : Nat) : Int) kr kq ku s0 s1 s2 s3 s4 s5 hs, cR cI (b 4) 12 f] sz) s.heap H locs → lv_has ls 4 [(0, .ref h), (1, .int (zI ((p0 : Nat) : Int))), (2, .int (zI (((i + 1) : Nat) : Int))), (3, .int (zI ((r : Nat) : Int)))] → W p l e ({ frames := 0, cells := 0, slots := 0, locals := 0 }) s m args below meth c H locs 0 0 Qf (F0 m 9 ls []) := by
    intro N_9
    induction N_9 with
    | zero => intro i r hm_9; exact absurd hm_9 (Nat.not_lt_zero _)
    | succ N_9 ih_9 =>
      intro i r hm_9 hi hr1 hr2 hno H locs ls hP hD hS hl
      refine lv_iload_n hx hb dX4_ringOf_9 rfl (lv_at hl 3 rfl) ?_
      refine lv_iload_n hx hb dX4_ringOf_10 rfl (lv_at hl 1 rfl) ?_
      refine z_icmp_eq (tgt := 27) hx hb (by omega) dX4_ringOf_11 (by decide) (fun c_11 => ?_) (fun c_11 => ?_)
      · refine lv_iload_n hx hb dX4_ringOf_27 rfl (lv_at hl 2 rfl) ?_
        rw [← hQf]
        exact z_iret K hS () (by rcases (show i = n - 1 ∨ i < n - 1 by omega) with h9 | h9; rw [rl_is hno (Or.inl h9)]; rw [rl_is hno (Or.inr ⟨h9, by omega⟩)]) hP hD dX4_ringOf_28
      · have hno2 : ∀ j, j < i + 1 → it φ (j + 1) p0 ≠ p0 := by
          intro j hj
          rcases Nat.lt_or_ge j i with h1 | h1
          · exact hno j h1
          · rw [show j = i by omega, ← hr1]; omega
        have hi2 : i + 1 < n := by
          obtain ⟨mm, h8, h9⟩ := ring_ex hφ hinj hp0
          rcases Nat.lt_or_ge mm (i + 1) with h7 | h7
          · exact absurd h9 (hno2 mm h7)
          · omega
        refine z_iinc (k := 2) (lv' := [(2, .int (zI (((i + 2) : Nat) : Int))), (0, .ref h), (1, .int (zI ((p0 : Nat) : Int))), (3, .int (zI ((r : Nat) : Int)))]) hx hb (((i + 2) : Nat) : Int) (by omega) dX4_ringOf_14 hl rfl (by decide) rfl (fun ls hl => ?_)
        refine lv_aload_n hx hb dX4_ringOf_17 rfl (lv_at hl 1 rfl) ?_
        refine va_get (D := D) (ci := 4) (v := .ref (b 4)) (C := RX4) (T := TX4) (N := 32) hx hb hts inT_X4 hown hE.1 hP 0 rfl rfl 9 (by decide) (hts _ qf_X4_22) (fun _ h9 => h9) rfl dX4_ringOf_18 ?_
        refine lv_iload_n hx hb dX4_ringOf_21 rfl (lv_at hl 3 rfl) ?_
        have hφr := hφ r hr2
        refine z_iald hx hb hE hP 1 rfl r (by omega) (by omega) (by first | decide | omega) ((φ r : Nat) : Int) (hf r hr2) dX4_ringOf_22 ?_
        refine lv_istore_n (lv' := [(3, .int (zI ((φ r : Nat) : Int))), (2, .int (zI (((i + 2) : Nat) : Int))), (0, .ref h), (1, .int (zI ((p0 : Nat) : Int)))]) hx hb dX4_ringOf_23 rfl hl (by decide) rfl (fun ls hl => ?_)
        refine lv_goto (tgt := 9) hx hb dX4_ringOf_24 (by decide) ?_
        exact ih_9 (i + 1) (φ r) (by omega) (by omega) (by rw [hr1]; rfl) (by omega) (by exact hno2) _ _ _ hP hD hS (lv_sub hl [2, 3, 1, 0] rfl)
  exact cut_9 (n - 0 + 1) 0 (φ p0) (Nat.lt_succ_self _) (by omega) (by rfl) (by omega) (by intro j hj; omega) _ _ _ hP hD hS (lv_sub hl [2, 3, 1, 0] rfl)
