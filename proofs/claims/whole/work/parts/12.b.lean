set_option maxHeartbeats 4000000 in
set_option maxRecDepth 100000 in
theorem c_X3_joined (l : Launch) (D : va_G) (cI : ClassId) (a0 b0 : Int)  : zMl l yX3_joined cX3_joined 4 (some .long) ({ frames := 0, cells := 0, slots := 0, locals := 0 }) D cI [.long (zL a0), .long (zL b0)] [] (fun (z : Int) (u : Unit) => z = (31 * a0 + b0)) (fun (u : Unit) => []) := by
  intro sz
  refine zstart rfl (by decide) (Nat.le_of_ble_eq_true rfl) ?_
  intro p e s m below meth c ls K hnm hsz hP hD hS hl
  generalize hargs : ([.long (zL a0), .long (zL b0)] : List Value).toArray = args at K ⊢
  generalize hQf : MQ below _ args s _ _ _ = Qf
  have K : zK p s m args meth c cX3_joined 4 RX3 (some .long) D cI := K
  obtain ⟨hx, hb, hml, hown, hts, hE, -, -⟩ := id K
  have hA := zhA (ws0 := []) hsz
  have hl : lv_has ls 4 [(0, .long (zL a0)), (2, .long (zL b0))] := hl
  refine lv_ldc2 (v := zL 31) hx hb hown (hts _ qk_X3_252) dX3_joined_0 ?_
  refine lv_lload_n hx hb dX3_joined_3 rfl (lv_at hl 0 rfl) ?_
  refine z_lmul hx hb (31 * a0) rfl dX3_joined_4 ?_
  refine lv_lload_n hx hb dX3_joined_5 rfl (lv_at hl 1 rfl) ?_
  refine z_ladd hx hb ((31 * a0) + b0) rfl dX3_joined_6 ?_
  rw [← hQf]
  exact z_lret K hS () (by first | rfl | omega | (split <;> omega)) hP hD dX3_joined_7
set_option maxHeartbeats 4000000 in
set_option maxRecDepth 100000 in
theorem c_X3_isOfKind (l : Launch) (D : va_G) (cI : ClassId) (a0 b0 : Int) (ha0 : -2147483648 ≤ a0 ∧ a0 < 2147483648) (hb0 : -2147483648 ≤ b0 ∧ b0 < 2147483648) : zMi l yX3_isOfKind cX3_isOfKind 2 (some .boolean) ({ frames := 0, cells := 0, slots := 0, locals := 0 }) D cI [.int (zI a0), .int (zI b0)] [] (fun (z : Int) (u : Unit) => z = (b01 (b0 = 0 ∨ b0 = a0 ∨ (b0 = 2 ∧ a0 = 4)))) (fun (u : Unit) => []) := by
  intro sz
  refine zstart rfl (by decide) (Nat.le_of_ble_eq_true rfl) ?_
  intro p e s m below meth c ls K hnm hsz hP hD hS hl
  generalize hargs : ([.int (zI a0), .int (zI b0)] : List Value).toArray = args at K ⊢
  generalize hQf : MQ below _ args s _ _ _ = Qf
  have K : zK p s m args meth c cX3_isOfKind 2 RX3 (some .boolean) D cI := K
  obtain ⟨hx, hb, hml, hown, hts, hE, -, -⟩ := id K
  have hA := zhA (ws0 := []) hsz
  have hl : lv_has ls 2 [(0, .int (zI a0)), (1, .int (zI b0))] := hl
  refine lv_iload_n hx hb dX3_isOfKind_0 rfl (lv_at hl 1 rfl) ?_
  refine z_if_eq (tgt := 19) hx hb (by omega) dX3_isOfKind_1 (by decide) (fun c_1 => ?_) (fun c_1 => ?_)
  · refine lv_iconst (v := zI 1) hx hb dX3_isOfKind_19 rfl ?_
    refine lv_goto (tgt := 24) hx hb dX3_isOfKind_20 (by decide) ?_
    rw [← hQf]
    exact z_bret K hS () (by first | exact (b01_t (by omega)).symm | exact (b01_f (by omega)).symm) (by omega) hP hD dX3_isOfKind_24
  · refine lv_iload_n hx hb dX3_isOfKind_4 rfl (lv_at hl 1 rfl) ?_
    refine lv_iload_n hx hb dX3_isOfKind_5 rfl (lv_at hl 0 rfl) ?_
    refine z_icmp_eq (tgt := 19) hx hb (by omega) dX3_isOfKind_6 (by decide) (fun c_6 => ?_) (fun c_6 => ?_)
    · refine lv_iconst (v := zI 1) hx hb dX3_isOfKind_19 rfl ?_
      refine lv_goto (tgt := 24) hx hb dX3_isOfKind_20 (by decide) ?_
      rw [← hQf]
      exact z_bret K hS () (by first | exact (b01_t (by omega)).symm | exact (b01_f (by omega)).symm) (by omega) hP hD dX3_isOfKind_24
    · refine lv_iload_n hx hb dX3_isOfKind_9 rfl (lv_at hl 1 rfl) ?_
      refine lv_iconst (v := zI 2) hx hb dX3_isOfKind_10 rfl ?_
      refine z_icmp_ne (tgt := 23) hx hb (by omega) dX3_isOfKind_11 (by decide) (fun c_11 => ?_) (fun c_11 => ?_)
      · refine lv_iconst (v := zI 0) hx hb dX3_isOfKind_23 rfl ?_
        rw [← hQf]
        exact z_bret K hS () (by first | exact (b01_t (by omega)).symm | exact (b01_f (by omega)).symm) (by omega) hP hD dX3_isOfKind_24
      · refine lv_iload_n hx hb dX3_isOfKind_14 rfl (lv_at hl 0 rfl) ?_
        refine lv_iconst (v := zI 4) hx hb dX3_isOfKind_15 rfl ?_
        refine z_icmp_ne (tgt := 23) hx hb (by omega) dX3_isOfKind_16 (by decide) (fun c_16 => ?_) (fun c_16 => ?_)
        · refine lv_iconst (v := zI 0) hx hb dX3_isOfKind_23 rfl ?_
          rw [← hQf]
          exact z_bret K hS () (by first | exact (b01_t (by omega)).symm | exact (b01_f (by omega)).symm) (by omega) hP hD dX3_isOfKind_24
        · refine lv_iconst (v := zI 1) hx hb dX3_isOfKind_19 rfl ?_
          refine lv_goto (tgt := 24) hx hb dX3_isOfKind_20 (by decide) ?_
          rw [← hQf]
          exact z_bret K hS () (by first | exact (b01_t (by omega)).symm | exact (b01_f (by omega)).symm) (by omega) hP hD dX3_isOfKind_24
set_option maxHeartbeats 4000000 in
set_option maxRecDepth 100000 in
theorem c_X3_greatestDivisor (l : Launch) (D : va_G) (cI : ClassId) (a0 b0 : Nat) (ha0 : a0 < 2147483648) (hb0 : b0 < 2147483648) : zMi l yX3_greatestDivisor cX3_greatestDivisor 6 (some .int) ({ frames := 0, cells := 0, slots := 0, locals := 0 }) D cI [.int (zI ((a0 : Nat) : Int)), .int (zI ((b0 : Nat) : Int))] [] (fun (z : Int) (u : Unit) => z = (((Nat.gcd a0 b0) : Nat) : Int)) (fun (u : Unit) => []) := by
  intro sz
  refine zstart rfl (by decide) (Nat.le_of_ble_eq_true rfl) ?_
  intro p e s m below meth c ls K hnm hsz hP hD hS hl
  generalize hargs : ([.int (zI ((a0 : Nat) : Int)), .int (zI ((b0 : Nat) : Int))] : List Value).toArray = args at K ⊢
  generalize hQf : MQ below _ args s _ _ _ = Qf
  have K : zK p s m args meth c cX3_greatestDivisor 6 RX3 (some .int) D cI := K
  obtain ⟨hx, hb, hml, hown, hts, hE, -, -⟩ := id K
  have hA := zhA (ws0 := []) hsz
  have hl : lv_has ls 6 [(0, .int (zI ((a0 : Nat) : Int))), (1, .int (zI ((b0 : Nat) : Int)))] := hl
  refine lv_iload_n hx hb dX3_greatestDivisor_0 rfl (lv_at hl 0 rfl) ?_
  refine lv_istore_n (lv' := [(2, .int (zI ((a0 : Nat) : Int))), (0, .int (zI ((a0 : Nat) : Int))), (1, .int (zI ((b0 : Nat) : Int)))]) hx hb dX3_greatestDivisor_1 rfl hl (by decide) rfl (fun ls hl => ?_)
  refine lv_iload_n hx hb dX3_greatestDivisor_2 rfl (lv_at hl 2 rfl) ?_
  refine lv_istore_n (lv' := [(3, .int (zI ((b0 : Nat) : Int))), (2, .int (zI ((a0 : Nat) : Int))), (0, .int (zI ((a0 : Nat) : Int))), (1, .int (zI ((b0 : Nat) : Int)))]) hx hb dX3_greatestDivisor_3 rfl hl (by decide) rfl (fun ls hl => ?_)
  refine lv_iconst (v := zI 0) hx hb dX3_greatestDivisor_4 rfl ?_
  refine lv_istore (lv' := [(4, .int (zI 0)), (3, .int (zI ((b0 : Nat) : Int))), (2, .int (zI ((a0 : Nat) : Int))), (0, .int (zI ((a0 : Nat) : Int))), (1, .int (zI ((b0 : Nat) : Int)))]) hx hb dX3_greatestDivisor_5 hl (by decide) rfl (fun ls hl => ?_)
  have cut_7 : ∀ (N_7 : Nat), ∀ (i x y : Nat), 64 - i < N_7 → (i ≤ 64) → (x < 2147483648 ∧ y < 2147483648) → (gd (64 - i) x y = Nat.gcd a0 b0) → ∀ (H : Heap) (locs : List Loc) (ls : Array Slot), va_P D cls [] H → va_D (va_A [] sz) [] → va_S (va_A [] sz) s.heap H locs → lv_has ls 6 [(0, .int (zI ((a0 : Nat) : Int))), (1, .int (zI ((b0 : Nat) : Int))), (2, .int (zI ((x : Nat) : Int))), (3, .int (zI ((y : Nat) : Int))), (4, .int (zI ((i : Nat) : Int)))] → W p l e ({ frames := 0, cells := 0, slots := 0, locals := 0 }) s m args below meth c H locs 0 0 Qf (F0 m 7 ls []) := by
    intro N_7
    induction N_7 with
    | zero => intro i x y hm_7; exact absurd hm_7 (Nat.not_lt_zero _)
    | succ N_7 ih_7 =>
      intro i x y hm_7 hi hy hg H locs ls hP hD hS hl
      refine lv_iload hx hb dX3_greatestDivisor_7 (lv_at hl 4 rfl) ?_
      refine lv_bipush (v := zI 64) hx hb dX3_greatestDivisor_9 (by decide) ?_
      refine z_icmp_ge (tgt := 34) hx hb (by omega) dX3_greatestDivisor_11 (by decide) (fun c_11 => ?_) (fun c_11 => ?_)
      · refine lv_iload_n hx hb dX3_greatestDivisor_34 rfl (lv_at hl 2 rfl) ?_
        rw [← hQf]
        exact z_iret K hS () (by first | (rw [← hg, show y = 0 by omega, gd_0]) | (rw [← hg, show 64 - i = 0 by omega]; rfl)) hP hD dX3_greatestDivisor_35
      · refine lv_iload_n hx hb dX3_greatestDivisor_14 rfl (lv_at hl 3 rfl) ?_
        refine z_if_le (tgt := 34) hx hb (by omega) dX3_greatestDivisor_15 (by decide) (fun c_15 => ?_) (fun c_15 => ?_)
        · refine lv_iload_n hx hb dX3_greatestDivisor_34 rfl (lv_at hl 2 rfl) ?_
          rw [← hQf]
          exact z_iret K hS () (by first | (rw [← hg, show y = 0 by omega, gd_0]) | (rw [← hg, show 64 - i = 0 by omega]; rfl)) hP hD dX3_greatestDivisor_35
        · refine lv_iload_n hx hb dX3_greatestDivisor_18 rfl (lv_at hl 2 rfl) ?_
          refine lv_iload_n hx hb dX3_greatestDivisor_19 rfl (lv_at hl 3 rfl) ?_
          refine z_irem hx hb (((x % y) : Nat) : Int) (by omega) rfl dX3_greatestDivisor_20 ?_
          have hlt : x % y < y := Nat.mod_lt _ (by omega)
          have hg2 : gd (64 - (i + 1)) y (x % y) = Nat.gcd a0 b0 := by rw [← hg, show 64 - i = (64 - (i + 1)) + 1 by omega, gd_s (by omega)]
          refine lv_istore (lv' := [(5, .int (zI (((x % y) : Nat) : Int))), (0, .int (zI ((a0 : Nat) : Int))), (1, .int (zI ((b0 : Nat) : Int))), (2, .int (zI ((x : Nat) : Int))), (3, .int (zI ((y : Nat) : Int))), (4, .int (zI ((i : Nat) : Int)))]) hx hb dX3_greatestDivisor_21 hl (by decide) rfl (fun ls hl => ?_)
          refine lv_iload_n hx hb dX3_greatestDivisor_23 rfl (lv_at hl 4 rfl) ?_
          refine lv_istore_n (lv' := [(2, .int (zI ((y : Nat) : Int))), (5, .int (zI (((x % y) : Nat) : Int))), (0, .int (zI ((a0 : Nat) : Int))), (1, .int (zI ((b0 : Nat) : Int))), (3, .int (zI ((y : Nat) : Int))), (4, .int (zI ((i : Nat) : Int)))]) hx hb dX3_greatestDivisor_24 rfl hl (by decide) rfl (fun ls hl => ?_)
          refine lv_iload hx hb dX3_greatestDivisor_25 (lv_at hl 1 rfl) ?_
          refine lv_istore_n (lv' := [(3, .int (zI (((x % y) : Nat) : Int))), (2, .int (zI ((y : Nat) : Int))), (5, .int (zI (((x % y) : Nat) : Int))), (0, .int (zI ((a0 : Nat) : Int))), (1, .int (zI ((b0 : Nat) : Int))), (4, .int (zI ((i : Nat) : Int)))]) hx hb dX3_greatestDivisor_27 rfl hl (by decide) rfl (fun ls hl => ?_)
          refine z_iinc (k := 5) (lv' := [(4, .int (zI (((i + 1) : Nat) : Int))), (3, .int (zI (((x % y) : Nat) : Int))), (2, .int (zI ((y : Nat) : Int))), (5, .int (zI (((x % y) : Nat) : Int))), (0, .int (zI ((a0 : Nat) : Int))), (1, .int (zI ((b0 : Nat) : Int)))]) hx hb (((i + 1) : Nat) : Int) (by omega) dX3_greatestDivisor_28 hl rfl (by decide) rfl (fun ls hl => ?_)
          refine lv_goto (tgt := 7) hx hb dX3_greatestDivisor_31 (by decide) ?_
          exact ih_7 (i + 1) y (x % y) (by omega) (by omega) (by omega) (by exact hg2) _ _ _ hP hD hS (lv_sub hl [4, 5, 2, 1, 0] rfl)
  exact cut_7 (64 - 0 + 1) 0 a0 b0 (Nat.lt_succ_self _) (by omega) (by omega) (by exact gd_64 hb0) _ _ _ hP hD hS (lv_sub hl [3, 4, 2, 1, 0] rfl)
set_option maxHeartbeats 4000000 in
set_option maxRecDepth 100000 in
theorem c_X3_movedByStep (l : Launch) (D : va_G) (cI : ClassId) (d0 p0 : Nat) (hd0 : d0 ≤ 12) (hp0 : p0 ≤ 12) : zMi l yX3_movedByStep cX3_movedByStep 2 (some .int) ({ frames := 0, cells := 0, slots := 0, locals := 0 }) D cI [.int (zI ((d0 : Nat) : Int)), .int (zI ((p0 : Nat) : Int))] [] (fun (z : Int) (u : Unit) => z = (((if p0 = 0 then d0 else if p0 ≤ d0 then p0 - 1 else p0) : Nat) : Int)) (fun (u : Unit) => []) := by
  intro sz
  refine zstart rfl (by decide) (Nat.le_of_ble_eq_true rfl) ?_
  intro p e s m below meth c ls K hnm hsz hP hD hS hl
  generalize hargs : ([.int (zI ((d0 : Nat) : Int)), .int (zI ((p0 : Nat) : Int))] : List Value).toArray = args at K ⊢
  generalize hQf : MQ below _ args s _ _ _ = Qf
  have K : zK p s m args meth c cX3_movedByStep 2 RX3 (some .int) D cI := K
  obtain ⟨hx, hb, hml, hown, hts, hE, -, -⟩ := id K
  have hA := zhA (ws0 := []) hsz
  have hl : lv_has ls 2 [(0, .int (zI ((d0 : Nat) : Int))), (1, .int (zI ((p0 : Nat) : Int)))] := hl
  refine lv_iload_n hx hb dX3_movedByStep_0 rfl (lv_at hl 1 rfl) ?_
  refine z_if_ne (tgt := 6) hx hb (by omega) dX3_movedByStep_1 (by decide) (fun c_1 => ?_) (fun c_1 => ?_)
  · refine lv_iload_n hx hb dX3_movedByStep_6 rfl (lv_at hl 1 rfl) ?_
    refine lv_iload_n hx hb dX3_movedByStep_7 rfl (lv_at hl 0 rfl) ?_
    refine z_icmp_gt (tgt := 17) hx hb (by omega) dX3_movedByStep_8 (by decide) (fun c_8 => ?_) (fun c_8 => ?_)
    · refine lv_iload_n hx hb dX3_movedByStep_17 rfl (lv_at hl 1 rfl) ?_
      rw [← hQf]
      exact z_iret K hS () (by first | (rw [if_neg (by omega), if_pos (by omega)]; done) | (rw [if_neg (by omega), if_neg (by omega)]; done)) hP hD dX3_movedByStep_18
    · refine lv_iload_n hx hb dX3_movedByStep_11 rfl (lv_at hl 1 rfl) ?_
      refine lv_iconst (v := zI 1) hx hb dX3_movedByStep_12 rfl ?_
      refine z_isub hx hb ((p0 - 1 : Nat) : Int) (by omega) dX3_movedByStep_13 ?_
      refine lv_goto (tgt := 18) hx hb dX3_movedByStep_14 (by decide) ?_
      rw [← hQf]
      exact z_iret K hS () (by first | (rw [if_neg (by omega), if_pos (by omega)]; done) | (rw [if_neg (by omega), if_neg (by omega)]; done)) hP hD dX3_movedByStep_18
  · refine lv_iload_n hx hb dX3_movedByStep_4 rfl (lv_at hl 0 rfl) ?_
    rw [← hQf]
    exact z_iret K hS () (by rw [if_pos (by omega)]) hP hD dX3_movedByStep_5
set_option maxHeartbeats 4000000 in
set_option maxRecDepth 100000 in
theorem c_X3_movedByCut (l : Launch) (D : va_G) (cI : ClassId) (nm n p0 : Nat) (hnm : nm ≤ 9) (hn : 1 ≤ n ∧ n ≤ 12) (hp0 : p0 < n) : zMi l yX3_movedByCut cX3_movedByCut 4 (some .int) ({ frames := 0, cells := 0, slots := 0, locals := 0 }) D cI [.int (zI ((nm : Nat) : Int)), .int (zI ((n : Nat) : Int)), .int (zI ((p0 : Nat) : Int))] [] (fun (z : Int) (u : Unit) => z = (((if p0 < nm % n then p0 + n - nm % n else p0 - nm % n) : Nat) : Int)) (fun (u : Unit) => []) := by
  intro sz
  refine zstart rfl (by decide) (Nat.le_of_ble_eq_true rfl) ?_
  intro p e s m below meth c ls K hnm hsz hP hD hS hl
  generalize hargs : ([.int (zI ((nm : Nat) : Int)), .int (zI ((n : Nat) : Int)), .int (zI ((p0 : Nat) : Int))] : List Value).toArray = args at K ⊢
  generalize hQf : MQ below _ args s _ _ _ = Qf
  have K : zK p s m args meth c cX3_movedByCut 4 RX3 (some .int) D cI := K
  obtain ⟨hx, hb, hml, hown, hts, hE, -, -⟩ := id K
  have hA := zhA (ws0 := []) hsz
  have hl : lv_has ls 4 [(0, .int (zI ((nm : Nat) : Int))), (1, .int (zI ((n : Nat) : Int))), (2, .int (zI ((p0 : Nat) : Int)))] := hl
  have hm := Nat.mod_lt nm (show 0 < n by omega)
  obtain ⟨q, hq⟩ : ∃ q, q = nm % n := ⟨_, rfl⟩
  rw [← hq] at hm
  refine lv_iload_n hx hb dX3_movedByCut_0 rfl (lv_at hl 1 rfl) ?_
  refine z_if_le (tgt := 10) hx hb (by omega) dX3_movedByCut_1 (by decide) (fun c_1 => ?_) (fun c_1 => ?_)
  · exfalso; omega
  · refine lv_iload_n hx hb dX3_movedByCut_4 rfl (lv_at hl 0 rfl) ?_
    refine lv_iload_n hx hb dX3_movedByCut_5 rfl (lv_at hl 1 rfl) ?_
    refine z_irem hx hb ((q : Nat) : Int) (by omega) (by rw [hq]; rfl) dX3_movedByCut_6 ?_
    refine lv_goto (tgt := 11) hx hb dX3_movedByCut_7 (by decide) ?_
    refine lv_istore_n (lv' := [(3, .int (zI ((q : Nat) : Int))), (0, .int (zI ((nm : Nat) : Int))), (1, .int (zI ((n : Nat) : Int))), (2, .int (zI ((p0 : Nat) : Int)))]) hx hb dX3_movedByCut_11 rfl hl (by decide) rfl (fun ls hl => ?_)
    refine lv_iload_n hx hb dX3_movedByCut_12 rfl (lv_at hl 3 rfl) ?_
    refine lv_iload_n hx hb dX3_movedByCut_13 rfl (lv_at hl 0 rfl) ?_
    refine z_icmp_ge (tgt := 25) hx hb (by omega) dX3_movedByCut_14 (by decide) (fun c_14 => ?_) (fun c_14 => ?_)
    · refine lv_iload_n hx hb dX3_movedByCut_25 rfl (lv_at hl 3 rfl) ?_
      refine lv_iload_n hx hb dX3_movedByCut_26 rfl (lv_at hl 0 rfl) ?_
      refine z_isub hx hb ((p0 - q : Nat) : Int) (by omega) dX3_movedByCut_27 ?_
      rw [← hQf]
      exact z_iret K hS () (by rw [← hq]; first | rw [if_pos (by omega)] | rw [if_neg (by omega)]) hP hD dX3_movedByCut_28
    · refine lv_iload_n hx hb dX3_movedByCut_17 rfl (lv_at hl 3 rfl) ?_
      refine lv_iload_n hx hb dX3_movedByCut_18 rfl (lv_at hl 0 rfl) ?_
      refine z_isub hx hb (((p0 : Nat) : Int) - ((q : Nat) : Int)) rfl dX3_movedByCut_19 ?_
      refine lv_iload_n hx hb dX3_movedByCut_20 rfl (lv_at hl 2 rfl) ?_
      refine z_iadd hx hb ((p0 + n - q : Nat) : Int) (by omega) dX3_movedByCut_21 ?_
      refine lv_goto (tgt := 28) hx hb dX3_movedByCut_22 (by decide) ?_
      rw [← hQf]
      exact z_iret K hS () (by rw [← hq]; first | rw [if_pos (by omega)] | rw [if_neg (by omega)]) hP hD dX3_movedByCut_28
set_option maxHeartbeats 4000000 in
set_option maxRecDepth 100000 in
theorem c_X3_movedByTurn (l : Launch) (D : va_G) (cI : ClassId) (t0 p0 : Nat) (ht0 : t0 ≤ 12) (hp0 : p0 ≤ 12) : zMi l yX3_movedByTurn cX3_movedByTurn 2 (some .int) ({ frames := 0, cells := 0, slots := 0, locals := 0 }) D cI [.int (zI ((t0 : Nat) : Int)), .int (zI ((p0 : Nat) : Int))] [] (fun (z : Int) (u : Unit) => z = (((if p0 < t0 then t0 - 1 - p0 else p0) : Nat) : Int)) (fun (u : Unit) => []) := by
  intro sz
  refine zstart rfl (by decide) (Nat.le_of_ble_eq_true rfl) ?_
  intro p e s m below meth c ls K hnm hsz hP hD hS hl
  generalize hargs : ([.int (zI ((t0 : Nat) : Int)), .int (zI ((p0 : Nat) : Int))] : List Value).toArray = args at K ⊢
  generalize hQf : MQ below _ args s _ _ _ = Qf
  have K : zK p s m args meth c cX3_movedByTurn 2 RX3 (some .int) D cI := K
  obtain ⟨hx, hb, hml, hown, hts, hE, -, -⟩ := id K
  have hA := zhA (ws0 := []) hsz
  have hl : lv_has ls 2 [(0, .int (zI ((t0 : Nat) : Int))), (1, .int (zI ((p0 : Nat) : Int)))] := hl
  refine lv_iload_n hx hb dX3_movedByTurn_0 rfl (lv_at hl 1 rfl) ?_
  refine lv_iload_n hx hb dX3_movedByTurn_1 rfl (lv_at hl 0 rfl) ?_
  refine z_icmp_ge (tgt := 13) hx hb (by omega) dX3_movedByTurn_2 (by decide) (fun c_2 => ?_) (fun c_2 => ?_)
  · refine lv_iload_n hx hb dX3_movedByTurn_13 rfl (lv_at hl 1 rfl) ?_
    rw [← hQf]
    exact z_iret K hS () (by first | rw [if_pos (by omega)] | rw [if_neg (by omega)]) hP hD dX3_movedByTurn_14
  · refine lv_iload_n hx hb dX3_movedByTurn_5 rfl (lv_at hl 0 rfl) ?_
    refine lv_iconst (v := zI 1) hx hb dX3_movedByTurn_6 rfl ?_
    refine z_isub hx hb (((t0 : Nat) : Int) - 1) rfl dX3_movedByTurn_7 ?_
    refine lv_iload_n hx hb dX3_movedByTurn_8 rfl (lv_at hl 1 rfl) ?_
    refine z_isub hx hb ((t0 - 1 - p0 : Nat) : Int) (by omega) dX3_movedByTurn_9 ?_
    refine lv_goto (tgt := 14) hx hb dX3_movedByTurn_10 (by decide) ?_
    rw [← hQf]
    exact z_iret K hS () (by first | rw [if_pos (by omega)] | rw [if_neg (by omega)]) hP hD dX3_movedByTurn_14
set_option maxHeartbeats 4000000 in
set_option maxRecDepth 100000 in
theorem c_X3_movedByDeal (l : Launch) (D : va_G) (cI : ClassId) (nm n p0 o : Nat) (hnm : nm ≤ 9) (hn : n ≤ 12) (hp0 : p0 < n) (ho : o ≤ 1) : zMi l yX3_movedByDeal cX3_movedByDeal 11 (some .int) ({ frames := 1, cells := 0, slots := 0, locals := 21 }) D cI [.int (zI ((nm : Nat) : Int)), .int (zI ((n : Nat) : Int)), .int (zI ((p0 : Nat) : Int)), .int (zI ((o : Nat) : Int))] [] (fun (z : Int) (u : Unit) => z = (((dlq n (max 1 (min nm n)) p0 o) : Nat) : Int)) (fun (u : Unit) => []) := by
  intro sz
  refine zstart rfl (by decide) (Nat.le_of_ble_eq_true rfl) ?_
  intro p e s m below meth c ls K hnm hsz hP hD hS hl
  generalize hargs : ([.int (zI ((nm : Nat) : Int)), .int (zI ((n : Nat) : Int)), .int (zI ((p0 : Nat) : Int)), .int (zI ((o : Nat) : Int))] : List Value).toArray = args at K ⊢
  generalize hQf : MQ below _ args s _ _ _ = Qf
  have K : zK p s m args meth c cX3_movedByDeal 11 RX3 (some .int) D cI := K
  obtain ⟨hx, hb, hml, hown, hts, hE, -, -⟩ := id K
  have hA := zhA (ws0 := []) hsz
  have hl : lv_has ls 11 [(0, .int (zI ((nm : Nat) : Int))), (1, .int (zI ((n : Nat) : Int))), (2, .int (zI ((p0 : Nat) : Int))), (3, .int (zI ((o : Nat) : Int)))] := hl
  obtain ⟨q, hq⟩ : ∃ q, q = max 1 (min nm n) := ⟨_, rfl⟩
  have hq1 : 1 ≤ q ∧ q ≤ 12 := by omega
  have hdl := dl_ok (n := n) (q := q) (p := p0) hn hq1.2 hq1.1 hp0
  obtain ⟨B, hB⟩ : ∃ B, B = dlB n q p0 := ⟨_, rfl⟩
  obtain ⟨I, hI⟩ : ∃ B, B = dlI n q p0 := ⟨_, rfl⟩
  rw [← hB, ← hI] at hdl
  have h1 : n / q ≤ n := Nat.div_le_self _ _
  have h2 : n % q < q := Nat.mod_lt _ (by omega)
  have h3 : p0 % q < q := Nat.mod_lt _ (by omega)
  have h4 : p0 / q ≤ p0 := Nat.div_le_self _ _
  refine lv_iconst (v := zI 1) hx hb dX3_movedByDeal_0 rfl ?_
  refine lv_iload_n hx hb dX3_movedByDeal_1 rfl (lv_at hl 0 rfl) ?_
  refine lv_iload_n hx hb dX3_movedByDeal_2 rfl (lv_at hl 1 rfl) ?_
  refine z_Mmin hx hb (by rw [hml]; exact hl.1.symm) hown (hts _ qm_X3_308) (hts _ qs_Mmin) (hts _ qn_Math) (hts _ qc_Mmin) (by decide) (Nat.le_of_ble_eq_true rfl) (by decide) (by decide) (by omega) ((min nm n : Nat) : Int) (by split <;> omega) dX3_movedByDeal_3 ?_
  refine z_Mmax hx hb (by rw [hml]; exact hl.1.symm) hown (hts _ qm_X3_279) (hts _ qs_Mmax) (hts _ qn_Math) (hts _ qc_Mmax) (by decide) (Nat.le_of_ble_eq_true rfl) (by decide) (by decide) (by omega) ((q : Nat) : Int) (by split <;> omega) dX3_movedByDeal_6 ?_
  refine lv_istore (lv' := [(4, .int (zI ((q : Nat) : Int))), (0, .int (zI ((nm : Nat) : Int))), (1, .int (zI ((n : Nat) : Int))), (2, .int (zI ((p0 : Nat) : Int))), (3, .int (zI ((o : Nat) : Int)))]) hx hb dX3_movedByDeal_9 hl (by decide) rfl (fun ls hl => ?_)
  refine lv_iload_n hx hb dX3_movedByDeal_11 rfl (lv_at hl 2 rfl) ?_
  refine lv_iload hx hb dX3_movedByDeal_12 (lv_at hl 0 rfl) ?_
  refine z_idiv hx hb (((n / q) : Nat) : Int) (by omega) rfl dX3_movedByDeal_14 ?_
  refine lv_istore (lv' := [(5, .int (zI (((n / q) : Nat) : Int))), (4, .int (zI ((q : Nat) : Int))), (0, .int (zI ((nm : Nat) : Int))), (1, .int (zI ((n : Nat) : Int))), (2, .int (zI ((p0 : Nat) : Int))), (3, .int (zI ((o : Nat) : Int)))]) hx hb dX3_movedByDeal_15 hl (by decide) rfl (fun ls hl => ?_)
  refine lv_iload_n hx hb dX3_movedByDeal_17 rfl (lv_at hl 3 rfl) ?_
  refine lv_iload hx hb dX3_movedByDeal_18 (lv_at hl 1 rfl) ?_
  refine z_irem hx hb (((n % q) : Nat) : Int) (by omega) rfl dX3_movedByDeal_20 ?_
  refine lv_istore (lv' := [(6, .int (zI (((n % q) : Nat) : Int))), (5, .int (zI (((n / q) : Nat) : Int))), (4, .int (zI ((q : Nat) : Int))), (0, .int (zI ((nm : Nat) : Int))), (1, .int (zI ((n : Nat) : Int))), (2, .int (zI ((p0 : Nat) : Int))), (3, .int (zI ((o : Nat) : Int)))]) hx hb dX3_movedByDeal_21 hl (by decide) rfl (fun ls hl => ?_)
  refine lv_iload_n hx hb dX3_movedByDeal_23 rfl (lv_at hl 5 rfl) ?_
  refine lv_iload hx hb dX3_movedByDeal_24 (lv_at hl 2 rfl) ?_
  refine z_irem hx hb (((p0 % q) : Nat) : Int) (by omega) rfl dX3_movedByDeal_26 ?_
  refine lv_istore (lv' := [(7, .int (zI (((p0 % q) : Nat) : Int))), (6, .int (zI (((n % q) : Nat) : Int))), (5, .int (zI (((n / q) : Nat) : Int))), (4, .int (zI ((q : Nat) : Int))), (0, .int (zI ((nm : Nat) : Int))), (1, .int (zI ((n : Nat) : Int))), (2, .int (zI ((p0 : Nat) : Int))), (3, .int (zI ((o : Nat) : Int)))]) hx hb dX3_movedByDeal_27 hl (by decide) rfl (fun ls hl => ?_)
  refine lv_iload hx hb dX3_movedByDeal_29 (lv_at hl 0 rfl) ?_
  refine lv_iload hx hb dX3_movedByDeal_31 (lv_at hl 1 rfl) ?_
  refine z_icmp_ge (tgt := 43) hx hb (by omega) dX3_movedByDeal_33 (by decide) (fun c_33 => ?_) (fun c_33 => ?_)
  · refine lv_iload hx hb dX3_movedByDeal_43 (lv_at hl 2 rfl) ?_
    refine W.eq (g2 := F0 m 45 ls [.int (zI ((I : Nat) : Int))]) (by rw [show ((((n / q) : Nat) : Int) : Int) = ((I : Nat) : Int) from by rw [hI, dlI, if_neg (by omega)]]) ?_
    refine lv_istore (lv' := [(8, .int (zI ((I : Nat) : Int))), (7, .int (zI (((p0 % q) : Nat) : Int))), (6, .int (zI (((n % q) : Nat) : Int))), (5, .int (zI (((n / q) : Nat) : Int))), (4, .int (zI ((q : Nat) : Int))), (0, .int (zI ((nm : Nat) : Int))), (1, .int (zI ((n : Nat) : Int))), (2, .int (zI ((p0 : Nat) : Int))), (3, .int (zI ((o : Nat) : Int)))]) hx hb dX3_movedByDeal_45 hl (by decide) rfl (fun ls hl => ?_)
    refine lv_iload hx hb dX3_movedByDeal_47 (lv_at hl 1 rfl) ?_
    refine lv_iload hx hb dX3_movedByDeal_49 (lv_at hl 3 rfl) ?_
    refine z_imul hx hb ((((p0 % q) * (n / q)) : Nat) : Int) (by first | omega | exact (Int.natCast_mul _ _).symm) dX3_movedByDeal_51 ?_
    refine lv_iload hx hb dX3_movedByDeal_52 (lv_at hl 1 rfl) ?_
    refine lv_iload hx hb dX3_movedByDeal_54 (lv_at hl 2 rfl) ?_
    refine z_Mmin hx hb (by rw [hml]; exact hl.1.symm) hown (hts _ qm_X3_308) (hts _ qs_Mmin) (hts _ qn_Math) (hts _ qc_Mmin) (by decide) (Nat.le_of_ble_eq_true rfl) (by decide) (by decide) (by omega) ((min (p0 % q) (n % q) : Nat) : Int) (by split <;> omega) dX3_movedByDeal_56 ?_
    refine z_iadd hx hb ((B : Nat) : Int) (by rw [hB, dlB]; omega) dX3_movedByDeal_59 ?_
    refine lv_istore (lv' := [(9, .int (zI ((B : Nat) : Int))), (8, .int (zI ((I : Nat) : Int))), (7, .int (zI (((p0 % q) : Nat) : Int))), (6, .int (zI (((n % q) : Nat) : Int))), (5, .int (zI (((n / q) : Nat) : Int))), (4, .int (zI ((q : Nat) : Int))), (0, .int (zI ((nm : Nat) : Int))), (1, .int (zI ((n : Nat) : Int))), (2, .int (zI ((p0 : Nat) : Int))), (3, .int (zI ((o : Nat) : Int)))]) hx hb dX3_movedByDeal_60 hl (by decide) rfl (fun ls hl => ?_)
    refine lv_iload_n hx hb dX3_movedByDeal_62 rfl (lv_at hl 9 rfl) ?_
    refine z_if_eq (tgt := 71) hx hb (by omega) dX3_movedByDeal_63 (by decide) (fun c_63 => ?_) (fun c_63 => ?_)
    · refine lv_iload_n hx hb dX3_movedByDeal_71 rfl (lv_at hl 7 rfl) ?_
      refine lv_iload hx hb dX3_movedByDeal_72 (lv_at hl 0 rfl) ?_
      refine z_isub hx hb (((n : Nat) : Int) - ((B : Nat) : Int)) rfl dX3_movedByDeal_74 ?_
      refine lv_iload hx hb dX3_movedByDeal_75 (lv_at hl 1 rfl) ?_
      refine z_isub hx hb ((n - B - I : Nat) : Int) (by omega) dX3_movedByDeal_77 ?_
      refine lv_istore (lv' := [(10, .int (zI ((n - B - I : Nat) : Int))), (9, .int (zI ((B : Nat) : Int))), (8, .int (zI ((I : Nat) : Int))), (7, .int (zI (((p0 % q) : Nat) : Int))), (6, .int (zI (((n % q) : Nat) : Int))), (5, .int (zI (((n / q) : Nat) : Int))), (4, .int (zI ((q : Nat) : Int))), (0, .int (zI ((nm : Nat) : Int))), (1, .int (zI ((n : Nat) : Int))), (2, .int (zI ((p0 : Nat) : Int))), (3, .int (zI ((o : Nat) : Int)))]) hx hb dX3_movedByDeal_78 hl (by decide) rfl (fun ls hl => ?_)
      refine lv_iload hx hb dX3_movedByDeal_80 (lv_at hl 0 rfl) ?_
      refine lv_iload hx hb dX3_movedByDeal_82 (lv_at hl 2 rfl) ?_
      refine z_iadd hx hb ((((n - B - I) + I) : Nat) : Int) (by omega) dX3_movedByDeal_84 ?_
      refine lv_iconst (v := zI 1) hx hb dX3_movedByDeal_85 rfl ?_
      refine z_isub hx hb (((((n - B - I) + I) : Nat) : Int) - 1) rfl dX3_movedByDeal_86 ?_
      refine lv_iload_n hx hb dX3_movedByDeal_87 rfl (lv_at hl 9 rfl) ?_
      refine lv_iload hx hb dX3_movedByDeal_88 (lv_at hl 6 rfl) ?_
      refine z_idiv hx hb (((p0 / q) : Nat) : Int) (by omega) rfl dX3_movedByDeal_90 ?_
      refine z_isub hx hb ((((((n - B - I) + I) : Nat) : Int) - 1) - (((p0 / q) : Nat) : Int)) rfl dX3_movedByDeal_91 ?_
      rw [← hQf]
      exact z_iret K hS () (by rw [← hq, dlq, ← hB, ← hI]; first | (rw [if_pos (by omega)]; omega) | (rw [if_neg (by omega)]; omega)) hP hD dX3_movedByDeal_92
    · refine lv_iload hx hb dX3_movedByDeal_66 (lv_at hl 0 rfl) ?_
      refine lv_goto (tgt := 78) hx hb dX3_movedByDeal_68 (by decide) ?_
      refine lv_istore (lv' := [(10, .int (zI ((B : Nat) : Int))), (9, .int (zI ((B : Nat) : Int))), (8, .int (zI ((I : Nat) : Int))), (7, .int (zI (((p0 % q) : Nat) : Int))), (6, .int (zI (((n % q) : Nat) : Int))), (5, .int (zI (((n / q) : Nat) : Int))), (4, .int (zI ((q : Nat) : Int))), (0, .int (zI ((nm : Nat) : Int))), (1, .int (zI ((n : Nat) : Int))), (2, .int (zI ((p0 : Nat) : Int))), (3, .int (zI ((o : Nat) : Int)))]) hx hb dX3_movedByDeal_78 hl (by decide) rfl (fun ls hl => ?_)
      refine lv_iload hx hb dX3_movedByDeal_80 (lv_at hl 0 rfl) ?_
      refine lv_iload hx hb dX3_movedByDeal_82 (lv_at hl 2 rfl) ?_
      refine z_iadd hx hb (((B + I) : Nat) : Int) (by omega) dX3_movedByDeal_84 ?_
      refine lv_iconst (v := zI 1) hx hb dX3_movedByDeal_85 rfl ?_
      refine z_isub hx hb ((((B + I) : Nat) : Int) - 1) rfl dX3_movedByDeal_86 ?_
      refine lv_iload_n hx hb dX3_movedByDeal_87 rfl (lv_at hl 9 rfl) ?_
      refine lv_iload hx hb dX3_movedByDeal_88 (lv_at hl 6 rfl) ?_
      refine z_idiv hx hb (((p0 / q) : Nat) : Int) (by omega) rfl dX3_movedByDeal_90 ?_
      refine z_isub hx hb (((((B + I) : Nat) : Int) - 1) - (((p0 / q) : Nat) : Int)) rfl dX3_movedByDeal_91 ?_
      rw [← hQf]
      exact z_iret K hS () (by rw [← hq, dlq, ← hB, ← hI]; first | (rw [if_pos (by omega)]; omega) | (rw [if_neg (by omega)]; omega)) hP hD dX3_movedByDeal_92
  · refine lv_iload hx hb dX3_movedByDeal_36 (lv_at hl 2 rfl) ?_
    refine lv_iconst (v := zI 1) hx hb dX3_movedByDeal_38 rfl ?_
    refine z_iadd hx hb ((I : Nat) : Int) (by rw [hI, dlI, if_pos (by omega)]; omega) dX3_movedByDeal_39 ?_
    refine lv_goto (tgt := 45) hx hb dX3_movedByDeal_40 (by decide) ?_
    refine lv_istore (lv' := [(8, .int (zI ((I : Nat) : Int))), (7, .int (zI (((p0 % q) : Nat) : Int))), (6, .int (zI (((n % q) : Nat) : Int))), (5, .int (zI (((n / q) : Nat) : Int))), (4, .int (zI ((q : Nat) : Int))), (0, .int (zI ((nm : Nat) : Int))), (1, .int (zI ((n : Nat) : Int))), (2, .int (zI ((p0 : Nat) : Int))), (3, .int (zI ((o : Nat) : Int)))]) hx hb dX3_movedByDeal_45 hl (by decide) rfl (fun ls hl => ?_)
    refine lv_iload hx hb dX3_movedByDeal_47 (lv_at hl 1 rfl) ?_
    refine lv_iload hx hb dX3_movedByDeal_49 (lv_at hl 3 rfl) ?_
    refine z_imul hx hb ((((p0 % q) * (n / q)) : Nat) : Int) (by first | omega | exact (Int.natCast_mul _ _).symm) dX3_movedByDeal_51 ?_
    refine lv_iload hx hb dX3_movedByDeal_52 (lv_at hl 1 rfl) ?_
    refine lv_iload hx hb dX3_movedByDeal_54 (lv_at hl 2 rfl) ?_
    refine z_Mmin hx hb (by rw [hml]; exact hl.1.symm) hown (hts _ qm_X3_308) (hts _ qs_Mmin) (hts _ qn_Math) (hts _ qc_Mmin) (by decide) (Nat.le_of_ble_eq_true rfl) (by decide) (by decide) (by omega) ((min (p0 % q) (n % q) : Nat) : Int) (by split <;> omega) dX3_movedByDeal_56 ?_
    refine z_iadd hx hb ((B : Nat) : Int) (by rw [hB, dlB]; omega) dX3_movedByDeal_59 ?_
    refine lv_istore (lv' := [(9, .int (zI ((B : Nat) : Int))), (8, .int (zI ((I : Nat) : Int))), (7, .int (zI (((p0 % q) : Nat) : Int))), (6, .int (zI (((n % q) : Nat) : Int))), (5, .int (zI (((n / q) : Nat) : Int))), (4, .int (zI ((q : Nat) : Int))), (0, .int (zI ((nm : Nat) : Int))), (1, .int (zI ((n : Nat) : Int))), (2, .int (zI ((p0 : Nat) : Int))), (3, .int (zI ((o : Nat) : Int)))]) hx hb dX3_movedByDeal_60 hl (by decide) rfl (fun ls hl => ?_)
    refine lv_iload_n hx hb dX3_movedByDeal_62 rfl (lv_at hl 9 rfl) ?_
    refine z_if_eq (tgt := 71) hx hb (by omega) dX3_movedByDeal_63 (by decide) (fun c_63 => ?_) (fun c_63 => ?_)
    · refine lv_iload_n hx hb dX3_movedByDeal_71 rfl (lv_at hl 7 rfl) ?_
      refine lv_iload hx hb dX3_movedByDeal_72 (lv_at hl 0 rfl) ?_
      refine z_isub hx hb (((n : Nat) : Int) - ((B : Nat) : Int)) rfl dX3_movedByDeal_74 ?_
      refine lv_iload hx hb dX3_movedByDeal_75 (lv_at hl 1 rfl) ?_
      refine z_isub hx hb ((n - B - I : Nat) : Int) (by omega) dX3_movedByDeal_77 ?_
      refine lv_istore (lv' := [(10, .int (zI ((n - B - I : Nat) : Int))), (9, .int (zI ((B : Nat) : Int))), (8, .int (zI ((I : Nat) : Int))), (7, .int (zI (((p0 % q) : Nat) : Int))), (6, .int (zI (((n % q) : Nat) : Int))), (5, .int (zI (((n / q) : Nat) : Int))), (4, .int (zI ((q : Nat) : Int))), (0, .int (zI ((nm : Nat) : Int))), (1, .int (zI ((n : Nat) : Int))), (2, .int (zI ((p0 : Nat) : Int))), (3, .int (zI ((o : Nat) : Int)))]) hx hb dX3_movedByDeal_78 hl (by decide) rfl (fun ls hl => ?_)
      refine lv_iload hx hb dX3_movedByDeal_80 (lv_at hl 0 rfl) ?_
      refine lv_iload hx hb dX3_movedByDeal_82 (lv_at hl 2 rfl) ?_
      refine z_iadd hx hb ((((n - B - I) + I) : Nat) : Int) (by omega) dX3_movedByDeal_84 ?_
      refine lv_iconst (v := zI 1) hx hb dX3_movedByDeal_85 rfl ?_
      refine z_isub hx hb (((((n - B - I) + I) : Nat) : Int) - 1) rfl dX3_movedByDeal_86 ?_
      refine lv_iload_n hx hb dX3_movedByDeal_87 rfl (lv_at hl 9 rfl) ?_
      refine lv_iload hx hb dX3_movedByDeal_88 (lv_at hl 6 rfl) ?_
      refine z_idiv hx hb (((p0 / q) : Nat) : Int) (by omega) rfl dX3_movedByDeal_90 ?_
      refine z_isub hx hb ((((((n - B - I) + I) : Nat) : Int) - 1) - (((p0 / q) : Nat) : Int)) rfl dX3_movedByDeal_91 ?_
      rw [← hQf]
      exact z_iret K hS () (by rw [← hq, dlq, ← hB, ← hI]; first | (rw [if_pos (by omega)]; omega) | (rw [if_neg (by omega)]; omega)) hP hD dX3_movedByDeal_92
    · refine lv_iload hx hb dX3_movedByDeal_66 (lv_at hl 0 rfl) ?_
      refine lv_goto (tgt := 78) hx hb dX3_movedByDeal_68 (by decide) ?_
      refine lv_istore (lv' := [(10, .int (zI ((B : Nat) : Int))), (9, .int (zI ((B : Nat) : Int))), (8, .int (zI ((I : Nat) : Int))), (7, .int (zI (((p0 % q) : Nat) : Int))), (6, .int (zI (((n % q) : Nat) : Int))), (5, .int (zI (((n / q) : Nat) : Int))), (4, .int (zI ((q : Nat) : Int))), (0, .int (zI ((nm : Nat) : Int))), (1, .int (zI ((n : Nat) : Int))), (2, .int (zI ((p0 : Nat) : Int))), (3, .int (zI ((o : Nat) : Int)))]) hx hb dX3_movedByDeal_78 hl (by decide) rfl (fun ls hl => ?_)
      refine lv_iload hx hb dX3_movedByDeal_80 (lv_at hl 0 rfl) ?_
      refine lv_iload hx hb dX3_movedByDeal_82 (lv_at hl 2 rfl) ?_
      refine z_iadd hx hb (((B + I) : Nat) : Int) (by omega) dX3_movedByDeal_84 ?_
      refine lv_iconst (v := zI 1) hx hb dX3_movedByDeal_85 rfl ?_
      refine z_isub hx hb ((((B + I) : Nat) : Int) - 1) rfl dX3_movedByDeal_86 ?_
      refine lv_iload_n hx hb dX3_movedByDeal_87 rfl (lv_at hl 9 rfl) ?_
      refine lv_iload hx hb dX3_movedByDeal_88 (lv_at hl 6 rfl) ?_
      refine z_idiv hx hb (((p0 / q) : Nat) : Int) (by omega) rfl dX3_movedByDeal_90 ?_
      refine z_isub hx hb (((((B + I) : Nat) : Int) - 1) - (((p0 / q) : Nat) : Int)) rfl dX3_movedByDeal_91 ?_
      rw [← hQf]
      exact z_iret K hS () (by rw [← hq, dlq, ← hB, ← hI]; first | (rw [if_pos (by omega)]; omega) | (rw [if_neg (by omega)]; omega)) hP hD dX3_movedByDeal_92
set_option maxHeartbeats 4000000 in
set_option maxRecDepth 100000 in
theorem c_X3_moved (l : Launch) (D : va_G) (cI : ClassId) (kd nm n p0 : Nat) (hkd : kd ≤ 4) (hnm : nm ≤ 9) (hn : 2 ≤ n ∧ n ≤ 12) (hp0 : p0 < n) : zMi l yX3_moved cX3_moved 4 (some .int) ({ frames := 2, cells := 0, slots := 0, locals := 51 }) D cI [.int (zI ((kd : Nat) : Int)), .int (zI ((nm : Nat) : Int)), .int (zI ((n : Nat) : Int)), .int (zI ((p0 : Nat) : Int))] [] (fun (z : Int) (u : Unit) => z = (((mv n kd nm p0) : Nat) : Int)) (fun (u : Unit) => []) := by
  intro sz
  refine zstart rfl (by decide) (Nat.le_of_ble_eq_true rfl) ?_
  intro p e s m below meth c ls K hnm hsz hP hD hS hl
  generalize hargs : ([.int (zI ((kd : Nat) : Int)), .int (zI ((nm : Nat) : Int)), .int (zI ((n : Nat) : Int)), .int (zI ((p0 : Nat) : Int))] : List Value).toArray = args at K ⊢
  generalize hQf : MQ below _ args s _ _ _ = Qf
  have K : zK p s m args meth c cX3_moved 4 RX3 (some .int) D cI := K
  obtain ⟨hx, hb, hml, hown, hts, hE, -, -⟩ := id K
  have hA := zhA (ws0 := []) hsz
  have hl : lv_has ls 4 [(0, .int (zI ((kd : Nat) : Int))), (1, .int (zI ((nm : Nat) : Int))), (2, .int (zI ((n : Nat) : Int))), (3, .int (zI ((p0 : Nat) : Int)))] := hl
  refine lv_iload_n hx hb dX3_moved_0 rfl (lv_at hl 0 rfl) ?_
  rcases (show ((kd : Nat) : Int) = 1 ∨ ((kd : Nat) : Int) = 2 ∨ ((kd : Nat) : Int) = 3 ∨ ((kd : Nat) : Int) = 4 ∨ (((kd : Nat) : Int) ≠ 1 ∧ ((kd : Nat) : Int) ≠ 2 ∧ ((kd : Nat) : Int) ≠ 3 ∧ ((kd : Nat) : Int) ≠ 4) by omega) with c_1 | c_1 | c_1 | c_1 | c_1
  · refine lv_tableIn (tgt := 32) hx hb dX3_moved_1 (by rw [zI_toInt (by omega)]; omega) (by rw [zI_toInt (by omega)]; omega) (by rw [zI_toInt (by omega), c_1]; rfl) (by decide) ?_
    refine lv_iload_n hx hb dX3_moved_32 rfl (lv_at hl 1 rfl) ?_
    refine lv_iload_n hx hb dX3_moved_33 rfl (lv_at hl 2 rfl) ?_
    refine lv_iload_n hx hb dX3_moved_34 rfl (lv_at hl 3 rfl) ?_
    refine zcall_i (wc := []) (wr := []) (rest := []) hE hP hD hS hA [] [] [] rfl rfl (by decide) (by decide) (by decide) (fun (u : Unit) => []) (fun u => rfl) (fun hPc hDc => zrunS (As := [.int (zI ((nm : Nat) : Int)), .int (zI ((n : Nat) : Int)), .int (zI ((p0 : Nat) : Int))]) (rest := []) K k_X3_movedByCut qm_X3_301 ⟨⟨rfl, rfl⟩, ⟨Nat.le_of_ble_eq_true rfl, Nat.le_of_ble_eq_true rfl⟩⟩ hPc hDc (c_X3_movedByCut l D cI nm n p0 (by first | assumption | omega) (by first | assumption | omega) (by first | assumption | omega) _) rfl hl.1 rfl (Nat.le_of_ble_eq_true rfl) dX3_moved_35 ⟨Nat.zero_le _, Nat.zero_le _⟩) (by decide) (fun z u H locs hpost hP hD hS => ?_)
    subst hpost
    have hP : va_P D cls [] H := hP
    have hD : va_D (va_A [] sz) [] := hD
    refine W.eq (g2 := F0 m 38 ls [.int (zI (((if p0 < nm % n then p0 + n - nm % n else p0 - nm % n) : Nat) : Int))]) rfl ?_
    rw [← hQf]
    exact z_iret K hS () (by rw [show kd = 1 by omega]; rfl) hP hD dX3_moved_38
  · refine lv_tableIn (tgt := 39) hx hb dX3_moved_1 (by rw [zI_toInt (by omega)]; omega) (by rw [zI_toInt (by omega)]; omega) (by rw [zI_toInt (by omega), c_1]; rfl) (by decide) ?_
    refine lv_iload_n hx hb dX3_moved_39 rfl (lv_at hl 1 rfl) ?_
    refine lv_iload_n hx hb dX3_moved_40 rfl (lv_at hl 2 rfl) ?_
    refine lv_iload_n hx hb dX3_moved_41 rfl (lv_at hl 3 rfl) ?_
    refine lv_iconst (v := zI 0) hx hb dX3_moved_42 rfl ?_
    refine zcall_i (wc := []) (wr := []) (rest := []) hE hP hD hS hA [] [] [] rfl rfl (by decide) (by decide) (by decide) (fun (u : Unit) => []) (fun u => rfl) (fun hPc hDc => zrunS (As := [.int (zI ((nm : Nat) : Int)), .int (zI ((n : Nat) : Int)), .int (zI ((p0 : Nat) : Int)), .int (zI 0)]) (rest := []) K k_X3_movedByDeal qm_X3_304 ⟨⟨rfl, rfl⟩, ⟨Nat.le_of_ble_eq_true rfl, Nat.le_of_ble_eq_true rfl⟩⟩ hPc hDc (c_X3_movedByDeal l D cI nm n p0 0 (by first | assumption | omega) (by first | assumption | omega) (by first | assumption | omega) (by first | assumption | omega) _) rfl hl.1 rfl (Nat.le_of_ble_eq_true rfl) dX3_moved_43 ⟨Nat.zero_le _, Nat.zero_le _⟩) (by decide) (fun z u H locs hpost hP hD hS => ?_)
    subst hpost
    have hP : va_P D cls [] H := hP
    have hD : va_D (va_A [] sz) [] := hD
    refine W.eq (g2 := F0 m 46 ls [.int (zI (((dlq n (max 1 (min nm n)) p0 0) : Nat) : Int))]) rfl ?_
    rw [← hQf]
    exact z_iret K hS () (by rw [show kd = 2 by omega]; rfl) hP hD dX3_moved_46
  · refine lv_tableIn (tgt := 47) hx hb dX3_moved_1 (by rw [zI_toInt (by omega)]; omega) (by rw [zI_toInt (by omega)]; omega) (by rw [zI_toInt (by omega), c_1]; rfl) (by decide) ?_
    refine lv_iload_n hx hb dX3_moved_47 rfl (lv_at hl 1 rfl) ?_
    refine lv_iload_n hx hb dX3_moved_48 rfl (lv_at hl 2 rfl) ?_
    refine z_Mmin hx hb (by rw [hml]; exact hl.1.symm) hown (hts _ qm_X3_308) (hts _ qs_Mmin) (hts _ qn_Math) (hts _ qc_Mmin) (by decide) (Nat.le_of_ble_eq_true rfl) (by decide) (by decide) (by omega) ((min nm n : Nat) : Int) (by split <;> omega) dX3_moved_49 ?_
    refine lv_iload_n hx hb dX3_moved_52 rfl (lv_at hl 3 rfl) ?_
    refine zcall_i (wc := []) (wr := []) (rest := []) hE hP hD hS hA [] [] [] rfl rfl (by decide) (by decide) (by decide) (fun (u : Unit) => []) (fun u => rfl) (fun hPc hDc => zrunS (As := [.int (zI ((min nm n : Nat) : Int)), .int (zI ((p0 : Nat) : Int))]) (rest := []) K k_X3_movedByTurn qm_X3_311 ⟨⟨rfl, rfl⟩, ⟨Nat.le_of_ble_eq_true rfl, Nat.le_of_ble_eq_true rfl⟩⟩ hPc hDc (c_X3_movedByTurn l D cI (min nm n) p0 (by first | assumption | omega) (by first | assumption | omega) _) rfl hl.1 rfl (Nat.le_of_ble_eq_true rfl) dX3_moved_53 ⟨Nat.zero_le _, Nat.zero_le _⟩) (by decide) (fun z u H locs hpost hP hD hS => ?_)
    subst hpost
    have hP : va_P D cls [] H := hP
    have hD : va_D (va_A [] sz) [] := hD
    refine W.eq (g2 := F0 m 56 ls [.int (zI (((if p0 < (min nm n) then (min nm n) - 1 - p0 else p0) : Nat) : Int))]) rfl ?_
    rw [← hQf]
    exact z_iret K hS () (by rw [show kd = 3 by omega]; rfl) hP hD dX3_moved_56
  · refine lv_tableIn (tgt := 57) hx hb dX3_moved_1 (by rw [zI_toInt (by omega)]; omega) (by rw [zI_toInt (by omega)]; omega) (by rw [zI_toInt (by omega), c_1]; rfl) (by decide) ?_
    refine lv_iload_n hx hb dX3_moved_57 rfl (lv_at hl 1 rfl) ?_
    refine lv_iload_n hx hb dX3_moved_58 rfl (lv_at hl 2 rfl) ?_
    refine lv_iload_n hx hb dX3_moved_59 rfl (lv_at hl 3 rfl) ?_
    refine lv_iconst (v := zI 1) hx hb dX3_moved_60 rfl ?_
    refine zcall_i (wc := []) (wr := []) (rest := []) hE hP hD hS hA [] [] [] rfl rfl (by decide) (by decide) (by decide) (fun (u : Unit) => []) (fun u => rfl) (fun hPc hDc => zrunS (As := [.int (zI ((nm : Nat) : Int)), .int (zI ((n : Nat) : Int)), .int (zI ((p0 : Nat) : Int)), .int (zI 1)]) (rest := []) K k_X3_movedByDeal qm_X3_304 ⟨⟨rfl, rfl⟩, ⟨Nat.le_of_ble_eq_true rfl, Nat.le_of_ble_eq_true rfl⟩⟩ hPc hDc (c_X3_movedByDeal l D cI nm n p0 1 (by first | assumption | omega) (by first | assumption | omega) (by first | assumption | omega) (by first | assumption | omega) _) rfl hl.1 rfl (Nat.le_of_ble_eq_true rfl) dX3_moved_61 ⟨Nat.zero_le _, Nat.zero_le _⟩) (by decide) (fun z u H locs hpost hP hD hS => ?_)
    subst hpost
    have hP : va_P D cls [] H := hP
    have hD : va_D (va_A [] sz) [] := hD
    refine W.eq (g2 := F0 m 64 ls [.int (zI (((dlq n (max 1 (min nm n)) p0 1) : Nat) : Int))]) rfl ?_
    rw [← hQf]
    exact z_iret K hS () (by rw [show kd = 4 by omega]; rfl) hP hD dX3_moved_64
  · refine lv_tableOut (tgt := 65) hx hb dX3_moved_1 (by rw [zI_toInt (by omega)]; omega) (by decide) ?_
    refine lv_iload_n hx hb dX3_moved_65 rfl (lv_at hl 1 rfl) ?_
    refine lv_iload_n hx hb dX3_moved_66 rfl (lv_at hl 2 rfl) ?_
    refine lv_iconst (v := zI 1) hx hb dX3_moved_67 rfl ?_
    refine z_isub hx hb ((n - 1 : Nat) : Int) (by omega) dX3_moved_68 ?_
    refine z_Mmin hx hb (by rw [hml]; exact hl.1.symm) hown (hts _ qm_X3_308) (hts _ qs_Mmin) (hts _ qn_Math) (hts _ qc_Mmin) (by decide) (Nat.le_of_ble_eq_true rfl) (by decide) (by decide) (by omega) ((min nm (n - 1) : Nat) : Int) (by split <;> omega) dX3_moved_69 ?_
    refine lv_iload_n hx hb dX3_moved_72 rfl (lv_at hl 3 rfl) ?_
    refine zcall_i (wc := []) (wr := []) (rest := []) hE hP hD hS hA [] [] [] rfl rfl (by decide) (by decide) (by decide) (fun (u : Unit) => []) (fun u => rfl) (fun hPc hDc => zrunS (As := [.int (zI ((min nm (n - 1) : Nat) : Int)), .int (zI ((p0 : Nat) : Int))]) (rest := []) K k_X3_movedByStep qm_X3_314 ⟨⟨rfl, rfl⟩, ⟨Nat.le_of_ble_eq_true rfl, Nat.le_of_ble_eq_true rfl⟩⟩ hPc hDc (c_X3_movedByStep l D cI (min nm (n - 1)) p0 (by first | assumption | omega) (by first | assumption | omega) _) rfl hl.1 rfl (Nat.le_of_ble_eq_true rfl) dX3_moved_73 ⟨Nat.zero_le _, Nat.zero_le _⟩) (by decide) (fun z u H locs hpost hP hD hS => ?_)
    subst hpost
    have hP : va_P D cls [] H := hP
    have hD : va_D (va_A [] sz) [] := hD
    refine W.eq (g2 := F0 m 76 ls [.int (zI (((if p0 = 0 then (min nm (n - 1)) else if p0 ≤ (min nm (n - 1)) then p0 - 1 else p0) : Nat) : Int))]) rfl ?_
    rw [← hQf]
    exact z_iret K hS () (by rw [show kd = 0 by omega]; rfl) hP hD dX3_moved_76
