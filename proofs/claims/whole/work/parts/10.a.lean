set_option maxHeartbeats 4000000 in
set_option maxRecDepth 100000 in
theorem c_J7_fill_53178 (l : Launch) (D : va_G) (cI : ClassId) (q len : Nat) (v : Int) (g : Nat → Int) (hlen : len < 2147483648) : zMv l yJ7_fill_53178 cJ7_fill_53178 4 none ({ frames := 0, cells := 0, slots := 0, locals := 0 }) D cI [.ref q, .int (zI v)] [cR cI q len g] (fun (u : Unit) => True) (fun (u : Unit) => [cR cI q len (zcp (fun _ => v) g len)]) := by
  intro sz
  refine zstart rfl (by decide) (Nat.le_of_ble_eq_true rfl) ?_
  intro p e s m below meth c ls K hnm hsz hP hD hS hl
  generalize hargs : ([.ref q, .int (zI v)] : List Value).toArray = args at K ⊢
  generalize hQf : MQ below _ args s _ _ _ = Qf
  have K : zK p s m args meth c cJ7_fill_53178 4 RJ7 none D cI := K
  obtain ⟨hx, hb, hml, hown, hts, hE, -, -⟩ := id K
  have hA := zhA (ws0 := [cR cI q len g]) hsz
  have hl : lv_has ls 4 [(0, .ref q), (1, .int (zI v))] := hl
  refine lv_iconst (v := zI 0) hx hb dJ7_fill_53178_0 rfl ?_
  refine lv_istore_n (lv' := [(2, .int (zI 0)), (0, .ref q), (1, .int (zI v))]) hx hb dJ7_fill_53178_1 rfl hl (by decide) rfl (fun ls hl => ?_)
  refine lv_aload_n hx hb dJ7_fill_53178_2 rfl (lv_at hl 1 rfl) ?_
  refine z_alen hx hb hE hP 0 rfl dJ7_fill_53178_3 ?_
  refine lv_istore_n (lv' := [(3, .int (zI ((len : Nat) : Int))), (2, .int (zI 0)), (0, .ref q), (1, .int (zI v))]) hx hb dJ7_fill_53178_4 rfl hl (by decide) rfl (fun ls hl => ?_)
  have cut_5 : ∀ (N_5 : Nat), ∀ (i : Nat) (f : Nat → Int), len - i < N_5 → (i ≤ len) → (f = zcp (fun _ => v) g i) → ∀ (H : Heap) (locs : List Loc) (ls : Array Slot), va_P D cls [cR cI q len f] H → va_D (va_A [cR cI q len g] sz) [cR cI q len f] → va_S (va_A [cR cI q len g] sz) s.heap H locs → lv_has ls 4 [(0, .ref q), (1, .int (zI v)), (2, .int (zI ((i : Nat) : Int))), (3, .int (zI ((len : Nat) : Int)))] → W p l e ({ frames := 0, cells := 0, slots := 0, locals := 0 }) s m args below meth c H locs 0 0 Qf (F0 m 5 ls []) := by
    intro N_5
    induction N_5 with
    | zero => intro i f hm_5; exact absurd hm_5 (Nat.not_lt_zero _)
    | succ N_5 ih_5 =>
      intro i f hm_5 hi hf H locs ls hP hD hS hl
      refine lv_iload_n hx hb dJ7_fill_53178_5 rfl (lv_at hl 2 rfl) ?_
      refine lv_iload_n hx hb dJ7_fill_53178_6 rfl (lv_at hl 3 rfl) ?_
      refine z_icmp_ge (tgt := 20) hx hb (by omega) dJ7_fill_53178_7 (by decide) (fun c_7 => ?_) (fun c_7 => ?_)
      · have e1 : f = zcp (fun _ => v) g len := by rw [hf, show i = len by omega]
        subst e1
        rw [← hQf]
        exact z_vret K hS () trivial hP hD dJ7_fill_53178_20
      · refine lv_aload_n hx hb dJ7_fill_53178_10 rfl (lv_at hl 0 rfl) ?_
        refine lv_iload_n hx hb dJ7_fill_53178_11 rfl (lv_at hl 2 rfl) ?_
        refine lv_iload_n hx hb dJ7_fill_53178_12 rfl (lv_at hl 1 rfl) ?_
        refine z_iast hx hb hE hP hD hS 0 rfl i (by omega) (by omega) (by first | decide | omega) (zup f i v) rfl dJ7_fill_53178_13 (fun H locs hP hD hS => ?_)
        have hP : va_P D cls [cR cI q len (zup f i v)] H := hP
        have hD : va_D (va_A [cR cI q len g] sz) [cR cI q len (zup f i v)] := hD
        refine z_iinc (k := 2) (lv' := [(2, .int (zI (((i + 1) : Nat) : Int))), (0, .ref q), (1, .int (zI v)), (3, .int (zI ((len : Nat) : Int)))]) hx hb (((i + 1) : Nat) : Int) (by omega) dJ7_fill_53178_14 hl rfl (by decide) rfl (fun ls hl => ?_)
        refine lv_goto (tgt := 5) hx hb dJ7_fill_53178_17 (by decide) ?_
        exact ih_5 (i + 1) (zup f i v) (by omega) (by omega) (by rw [hf]; exact zcp_s rfl) _ _ _ hP hD hS (lv_sub hl [1, 2, 0, 3] rfl)
  exact cut_5 (len - 0 + 1) 0 g (Nat.lt_succ_self _) (by omega) (by exact (zcp_0 _ _).symm) _ _ _ hP hD hS (lv_sub hl [2, 3, 1, 0] rfl)
set_option maxHeartbeats 4000000 in
set_option maxRecDepth 100000 in
theorem c_X0_append (l : Launch) (D : va_G) (cI : ClassId) (h lp : Nat) (pl : Nat) (f : Nat → Int) (v : Int) (hpl : pl < 22) : zMv l yX0_append cX0_append 2 none ({ frames := 0, cells := 0, slots := 0, locals := 0 }) D cI [.ref h, .int (zI v)] [cP h lp ((pl : Nat) : Int), cR cI lp 22 f] (fun (u : Unit) => True) (fun (u : Unit) => [cP h lp (((pl + 1) : Nat) : Int), cR cI lp 22 (zup f pl v)]) := by
  intro sz
  refine zstart rfl (by decide) (Nat.le_of_ble_eq_true rfl) ?_
  intro p e s m below meth c ls K hnm hsz hP hD hS hl
  generalize hargs : ([.ref h, .int (zI v)] : List Value).toArray = args at K ⊢
  generalize hQf : MQ below _ args s _ _ _ = Qf
  have K : zK p s m args meth c cX0_append 2 RX0 none D cI := K
  obtain ⟨hx, hb, hml, hown, hts, hE, -, -⟩ := id K
  have hA := zhA (ws0 := [cP h lp ((pl : Nat) : Int), cR cI lp 22 f]) hsz
  have hl : lv_has ls 2 [(0, .ref h), (1, .int (zI v))] := hl
  refine lv_aload_n hx hb dX0_append_0 rfl (lv_at hl 0 rfl) ?_
  refine va_get (D := D) (ci := 0) (v := .int (zI ((pl : Nat) : Int))) (C := RX0) (T := TX0) (N := 2) hx hb hts inT_X0 hown hE.1 hP 0 rfl rfl 1 (by decide) (hts _ qf_X0_15) (fun _ h9 => h9) rfl dX0_append_1 ?_
  refine lv_bipush (v := zI 22) hx hb dX0_append_4 (by decide) ?_
  refine z_icmp_ge (tgt := 29) hx hb (by omega) dX0_append_6 (by decide) (fun c_6 => ?_) (fun c_6 => ?_)
  · exfalso; omega
  · refine lv_aload_n hx hb dX0_append_9 rfl (lv_at hl 0 rfl) ?_
    refine va_get (D := D) (ci := 0) (v := .ref lp) (C := RX0) (T := TX0) (N := 2) hx hb hts inT_X0 hown hE.1 hP 0 rfl rfl 0 (by decide) (hts _ qf_X0_11) (fun _ h9 => h9) rfl dX0_append_10 ?_
    refine lv_aload_n hx hb dX0_append_13 rfl (lv_at hl 0 rfl) ?_
    refine va_get (D := D) (ci := 0) (v := .int (zI ((pl : Nat) : Int))) (C := RX0) (T := TX0) (N := 2) hx hb hts inT_X0 hown hE.1 hP 0 rfl rfl 1 (by decide) (hts _ qf_X0_15) (fun _ h9 => h9) rfl dX0_append_14 ?_
    refine lv_iload_n hx hb dX0_append_17 rfl (lv_at hl 1 rfl) ?_
    refine z_iast hx hb hE hP hD hS 1 rfl pl (by omega) (by omega) (by first | decide | omega) (zup f pl v) rfl dX0_append_18 (fun H locs hP hD hS => ?_)
    have hP : va_P D cls [cP h lp ((pl : Nat) : Int), cR cI lp 22 (zup f pl v)] H := hP
    have hD : va_D (va_A [cP h lp ((pl : Nat) : Int), cR cI lp 22 f] sz) [cP h lp ((pl : Nat) : Int), cR cI lp 22 (zup f pl v)] := hD
    refine lv_aload_n hx hb dX0_append_19 rfl (lv_at hl 0 rfl) ?_
    refine lv_dup hx hb dX0_append_20 rfl ?_
    refine va_get (D := D) (ci := 0) (v := .int (zI ((pl : Nat) : Int))) (C := RX0) (T := TX0) (N := 2) hx hb hts inT_X0 hown hE.1 hP 0 rfl rfl 1 (by decide) (hts _ qf_X0_15) (fun _ h9 => h9) rfl dX0_append_21 ?_
    refine lv_iconst (v := zI 1) hx hb dX0_append_24 rfl ?_
    refine z_iadd hx hb (((pl + 1) : Nat) : Int) (by omega) dX0_append_25 ?_
    refine va_put (D := D) (ci := 0) (v := .int (zI (((pl + 1) : Nat) : Int))) (ty := .int) (C := RX0) (T := TX0) (N := 2) hx hb hts inT_X0 tyX0 tyX0_ok nmX0 hown hE.1 hP hD hS 0 rfl rfl 1 (by decide) (hts _ qf_X0_15) (fun _ h9 => h9) rfl (by decide +kernel) rfl rfl (Nat.le_of_ble_eq_true rfl) dX0_append_26 (fun H locs hP hD hS => ?_)
    have hP : va_P D cls [cP h lp (((pl + 1) : Nat) : Int), cR cI lp 22 (zup f pl v)] H := hP
    have hD : va_D (va_A [cP h lp ((pl : Nat) : Int), cR cI lp 22 f] sz) [cP h lp (((pl + 1) : Nat) : Int), cR cI lp 22 (zup f pl v)] := hD
    rw [← hQf]
    exact z_vret K hS () trivial hP hD dX0_append_29
set_option maxHeartbeats 4000000 in
set_option maxRecDepth 100000 in
theorem c_X0_clear (l : Launch) (D : va_G) (cI : ClassId) (h lp : Nat) (pl : Int)  : zMi l yX0_clear cX0_clear 2 (some .int) ({ frames := 0, cells := 0, slots := 0, locals := 0 }) D cI [.ref h] [cP h lp pl] (fun (z : Int) (u : Unit) => z = pl) (fun (u : Unit) => [cP h lp 0]) := by
  intro sz
  refine zstart rfl (by decide) (Nat.le_of_ble_eq_true rfl) ?_
  intro p e s m below meth c ls K hnm hsz hP hD hS hl
  generalize hargs : ([.ref h] : List Value).toArray = args at K ⊢
  generalize hQf : MQ below _ args s _ _ _ = Qf
  have K : zK p s m args meth c cX0_clear 2 RX0 (some .int) D cI := K
  obtain ⟨hx, hb, hml, hown, hts, hE, -, -⟩ := id K
  have hA := zhA (ws0 := [cP h lp pl]) hsz
  have hl : lv_has ls 2 [(0, .ref h)] := hl
  refine lv_aload_n hx hb dX0_clear_0 rfl (lv_at hl 0 rfl) ?_
  refine va_get (D := D) (ci := 0) (v := .int (zI pl)) (C := RX0) (T := TX0) (N := 2) hx hb hts inT_X0 hown hE.1 hP 0 rfl rfl 1 (by decide) (hts _ qf_X0_15) (fun _ h9 => h9) rfl dX0_clear_1 ?_
  refine lv_istore_n (lv' := [(1, .int (zI pl)), (0, .ref h)]) hx hb dX0_clear_4 rfl hl (by decide) rfl (fun ls hl => ?_)
  refine lv_aload_n hx hb dX0_clear_5 rfl (lv_at hl 1 rfl) ?_
  refine lv_iconst (v := zI 0) hx hb dX0_clear_6 rfl ?_
  refine va_put (D := D) (ci := 0) (v := .int (zI 0)) (ty := .int) (C := RX0) (T := TX0) (N := 2) hx hb hts inT_X0 tyX0 tyX0_ok nmX0 hown hE.1 hP hD hS 0 rfl rfl 1 (by decide) (hts _ qf_X0_15) (fun _ h9 => h9) rfl (by decide +kernel) rfl rfl (Nat.le_of_ble_eq_true rfl) dX0_clear_7 (fun H locs hP hD hS => ?_)
  have hP : va_P D cls [cP h lp 0] H := hP
  have hD : va_D (va_A [cP h lp pl] sz) [cP h lp 0] := hD
  refine lv_iload_n hx hb dX0_clear_10 rfl (lv_at hl 0 rfl) ?_
  rw [← hQf]
  exact z_iret K hS () (by first | rfl | omega | (split <;> omega)) hP hD dX0_clear_11
set_option maxHeartbeats 4000000 in
set_option maxRecDepth 100000 in
theorem c_X1_hasRoutine (l : Launch) (D : va_G) (cI : ClassId) (t : Nat) (a : Nat → Nat) (n k d v : Nat) (hk : k ≤ 6) : zMi l yX1_hasRoutine cX1_hasRoutine 1 (some .boolean) ({ frames := 0, cells := 0, slots := 0, locals := 0 }) D cI [.ref t] [cT t a ((n : Nat) : Int) ((k : Nat) : Int) ((d : Nat) : Int) ((v : Nat) : Int)] (fun (z : Int) (u : Unit) => z = (b01 (0 < k))) (fun (u : Unit) => [cT t a ((n : Nat) : Int) ((k : Nat) : Int) ((d : Nat) : Int) ((v : Nat) : Int)]) := by
  intro sz
  refine zstart rfl (by decide) (Nat.le_of_ble_eq_true rfl) ?_
  intro p e s m below meth c ls K hnm hsz hP hD hS hl
  generalize hargs : ([.ref t] : List Value).toArray = args at K ⊢
  generalize hQf : MQ below _ args s _ _ _ = Qf
  have K : zK p s m args meth c cX1_hasRoutine 1 RX1 (some .boolean) D cI := K
  obtain ⟨hx, hb, hml, hown, hts, hE, -, -⟩ := id K
  have hA := zhA (ws0 := [cT t a ((n : Nat) : Int) ((k : Nat) : Int) ((d : Nat) : Int) ((v : Nat) : Int)]) hsz
  have hl : lv_has ls 1 [(0, .ref t)] := hl
  refine lv_aload_n hx hb dX1_hasRoutine_0 rfl (lv_at hl 0 rfl) ?_
  refine va_get (D := D) (ci := 1) (v := .int (zI ((k : Nat) : Int))) (C := RX1) (T := TX1) (N := 11) hx hb hts inT_X1 hown hE.1 hP 0 rfl rfl 1 (by decide) (hts _ qf_X1_37) (fun _ h9 => h9) rfl dX1_hasRoutine_1 ?_
  refine z_if_le (tgt := 11) hx hb (by omega) dX1_hasRoutine_4 (by decide) (fun c_4 => ?_) (fun c_4 => ?_)
  · refine lv_iconst (v := zI 0) hx hb dX1_hasRoutine_11 rfl ?_
    rw [← hQf]
    exact z_bret K hS () (by first | exact (b01_t (by omega)).symm | exact (b01_f (by omega)).symm) (by omega) hP hD dX1_hasRoutine_12
  · refine lv_iconst (v := zI 1) hx hb dX1_hasRoutine_7 rfl ?_
    refine lv_goto (tgt := 12) hx hb dX1_hasRoutine_8 (by decide) ?_
    rw [← hQf]
    exact z_bret K hS () (by first | exact (b01_t (by omega)).symm | exact (b01_f (by omega)).symm) (by omega) hP hD dX1_hasRoutine_12
set_option maxHeartbeats 4000000 in
set_option maxRecDepth 100000 in
theorem c_X1_hasStep (l : Launch) (D : va_G) (cI : ClassId) (t : Nat) (a : Nat → Nat) (n k d v : Nat) (x : Int) (hx0 : -2147483648 ≤ x ∧ x < 2147483648) (hk0 : k ≤ 6) : zMi l yX1_hasStep cX1_hasStep 2 (some .boolean) ({ frames := 0, cells := 0, slots := 0, locals := 0 }) D cI [.ref t, .int (zI x)] [cT t a ((n : Nat) : Int) ((k : Nat) : Int) ((d : Nat) : Int) ((v : Nat) : Int)] (fun (z : Int) (u : Unit) => z = (b01 (0 ≤ x ∧ x < k))) (fun (u : Unit) => [cT t a ((n : Nat) : Int) ((k : Nat) : Int) ((d : Nat) : Int) ((v : Nat) : Int)]) := by
  intro sz
  refine zstart rfl (by decide) (Nat.le_of_ble_eq_true rfl) ?_
  intro p e s m below meth c ls K hnm hsz hP hD hS hl
  generalize hargs : ([.ref t, .int (zI x)] : List Value).toArray = args at K ⊢
  generalize hQf : MQ below _ args s _ _ _ = Qf
  have K : zK p s m args meth c cX1_hasStep 2 RX1 (some .boolean) D cI := K
  obtain ⟨hx, hb, hml, hown, hts, hE, -, -⟩ := id K
  have hA := zhA (ws0 := [cT t a ((n : Nat) : Int) ((k : Nat) : Int) ((d : Nat) : Int) ((v : Nat) : Int)]) hsz
  have hl : lv_has ls 2 [(0, .ref t), (1, .int (zI x))] := hl
  refine lv_iload_n hx hb dX1_hasStep_0 rfl (lv_at hl 1 rfl) ?_
  refine z_if_lt (tgt := 16) hx hb (by omega) dX1_hasStep_1 (by decide) (fun c_1 => ?_) (fun c_1 => ?_)
  · refine lv_iconst (v := zI 0) hx hb dX1_hasStep_16 rfl ?_
    rw [← hQf]
    exact z_bret K hS () (by first | exact (b01_t (by omega)).symm | exact (b01_f (by omega)).symm) (by omega) hP hD dX1_hasStep_17
  · refine lv_iload_n hx hb dX1_hasStep_4 rfl (lv_at hl 1 rfl) ?_
    refine lv_aload_n hx hb dX1_hasStep_5 rfl (lv_at hl 0 rfl) ?_
    refine va_get (D := D) (ci := 1) (v := .int (zI ((k : Nat) : Int))) (C := RX1) (T := TX1) (N := 11) hx hb hts inT_X1 hown hE.1 hP 0 rfl rfl 1 (by decide) (hts _ qf_X1_37) (fun _ h9 => h9) rfl dX1_hasStep_6 ?_
    refine z_icmp_ge (tgt := 16) hx hb (by omega) dX1_hasStep_9 (by decide) (fun c_9 => ?_) (fun c_9 => ?_)
    · refine lv_iconst (v := zI 0) hx hb dX1_hasStep_16 rfl ?_
      rw [← hQf]
      exact z_bret K hS () (by first | exact (b01_t (by omega)).symm | exact (b01_f (by omega)).symm) (by omega) hP hD dX1_hasStep_17
    · refine lv_iconst (v := zI 1) hx hb dX1_hasStep_12 rfl ?_
      refine lv_goto (tgt := 17) hx hb dX1_hasStep_13 (by decide) ?_
      rw [← hQf]
      exact z_bret K hS () (by first | exact (b01_t (by omega)).symm | exact (b01_f (by omega)).symm) (by omega) hP hD dX1_hasStep_17
set_option maxHeartbeats 4000000 in
set_option maxRecDepth 100000 in
theorem c_X1_hasPlace (l : Launch) (D : va_G) (cI : ClassId) (t : Nat) (a : Nat → Nat) (n k d v : Nat) (x : Int) (hx0 : -2147483648 ≤ x ∧ x < 2147483648) (hk0 : n ≤ 12) : zMi l yX1_hasPlace cX1_hasPlace 2 (some .boolean) ({ frames := 0, cells := 0, slots := 0, locals := 0 }) D cI [.ref t, .int (zI x)] [cT t a ((n : Nat) : Int) ((k : Nat) : Int) ((d : Nat) : Int) ((v : Nat) : Int)] (fun (z : Int) (u : Unit) => z = (b01 (0 ≤ x ∧ x < n))) (fun (u : Unit) => [cT t a ((n : Nat) : Int) ((k : Nat) : Int) ((d : Nat) : Int) ((v : Nat) : Int)]) := by
  intro sz
  refine zstart rfl (by decide) (Nat.le_of_ble_eq_true rfl) ?_
  intro p e s m below meth c ls K hnm hsz hP hD hS hl
  generalize hargs : ([.ref t, .int (zI x)] : List Value).toArray = args at K ⊢
  generalize hQf : MQ below _ args s _ _ _ = Qf
  have K : zK p s m args meth c cX1_hasPlace 2 RX1 (some .boolean) D cI := K
  obtain ⟨hx, hb, hml, hown, hts, hE, -, -⟩ := id K
  have hA := zhA (ws0 := [cT t a ((n : Nat) : Int) ((k : Nat) : Int) ((d : Nat) : Int) ((v : Nat) : Int)]) hsz
  have hl : lv_has ls 2 [(0, .ref t), (1, .int (zI x))] := hl
  refine lv_iload_n hx hb dX1_hasPlace_0 rfl (lv_at hl 1 rfl) ?_
  refine z_if_lt (tgt := 16) hx hb (by omega) dX1_hasPlace_1 (by decide) (fun c_1 => ?_) (fun c_1 => ?_)
  · refine lv_iconst (v := zI 0) hx hb dX1_hasPlace_16 rfl ?_
    rw [← hQf]
    exact z_bret K hS () (by first | exact (b01_t (by omega)).symm | exact (b01_f (by omega)).symm) (by omega) hP hD dX1_hasPlace_17
  · refine lv_iload_n hx hb dX1_hasPlace_4 rfl (lv_at hl 1 rfl) ?_
    refine lv_aload_n hx hb dX1_hasPlace_5 rfl (lv_at hl 0 rfl) ?_
    refine va_get (D := D) (ci := 1) (v := .int (zI ((n : Nat) : Int))) (C := RX1) (T := TX1) (N := 11) hx hb hts inT_X1 hown hE.1 hP 0 rfl rfl 0 (by decide) (hts _ qf_X1_33) (fun _ h9 => h9) rfl dX1_hasPlace_6 ?_
    refine z_icmp_ge (tgt := 16) hx hb (by omega) dX1_hasPlace_9 (by decide) (fun c_9 => ?_) (fun c_9 => ?_)
    · refine lv_iconst (v := zI 0) hx hb dX1_hasPlace_16 rfl ?_
      rw [← hQf]
      exact z_bret K hS () (by first | exact (b01_t (by omega)).symm | exact (b01_f (by omega)).symm) (by omega) hP hD dX1_hasPlace_17
    · refine lv_iconst (v := zI 1) hx hb dX1_hasPlace_12 rfl ?_
      refine lv_goto (tgt := 17) hx hb dX1_hasPlace_13 (by decide) ?_
      rw [← hQf]
      exact z_bret K hS () (by first | exact (b01_t (by omega)).symm | exact (b01_f (by omega)).symm) (by omega) hP hD dX1_hasPlace_17
set_option maxHeartbeats 4000000 in
set_option maxRecDepth 100000 in
theorem c_X1_hasCard (l : Launch) (D : va_G) (cI : ClassId) (t : Nat) (a : Nat → Nat) (n k d v : Nat) (x : Int) (hx0 : -2147483648 ≤ x ∧ x < 2147483648) (hk0 : n ≤ 12) : zMi l yX1_hasCard cX1_hasCard 2 (some .boolean) ({ frames := 0, cells := 0, slots := 0, locals := 0 }) D cI [.ref t, .int (zI x)] [cT t a ((n : Nat) : Int) ((k : Nat) : Int) ((d : Nat) : Int) ((v : Nat) : Int)] (fun (z : Int) (u : Unit) => z = (b01 (0 ≤ x ∧ x < n))) (fun (u : Unit) => [cT t a ((n : Nat) : Int) ((k : Nat) : Int) ((d : Nat) : Int) ((v : Nat) : Int)]) := by
  intro sz
  refine zstart rfl (by decide) (Nat.le_of_ble_eq_true rfl) ?_
  intro p e s m below meth c ls K hnm hsz hP hD hS hl
  generalize hargs : ([.ref t, .int (zI x)] : List Value).toArray = args at K ⊢
  generalize hQf : MQ below _ args s _ _ _ = Qf
  have K : zK p s m args meth c cX1_hasCard 2 RX1 (some .boolean) D cI := K
  obtain ⟨hx, hb, hml, hown, hts, hE, -, -⟩ := id K
  have hA := zhA (ws0 := [cT t a ((n : Nat) : Int) ((k : Nat) : Int) ((d : Nat) : Int) ((v : Nat) : Int)]) hsz
  have hl : lv_has ls 2 [(0, .ref t), (1, .int (zI x))] := hl
  refine lv_iload_n hx hb dX1_hasCard_0 rfl (lv_at hl 1 rfl) ?_
  refine z_if_lt (tgt := 16) hx hb (by omega) dX1_hasCard_1 (by decide) (fun c_1 => ?_) (fun c_1 => ?_)
  · refine lv_iconst (v := zI 0) hx hb dX1_hasCard_16 rfl ?_
    rw [← hQf]
    exact z_bret K hS () (by first | exact (b01_t (by omega)).symm | exact (b01_f (by omega)).symm) (by omega) hP hD dX1_hasCard_17
  · refine lv_iload_n hx hb dX1_hasCard_4 rfl (lv_at hl 1 rfl) ?_
    refine lv_aload_n hx hb dX1_hasCard_5 rfl (lv_at hl 0 rfl) ?_
    refine va_get (D := D) (ci := 1) (v := .int (zI ((n : Nat) : Int))) (C := RX1) (T := TX1) (N := 11) hx hb hts inT_X1 hown hE.1 hP 0 rfl rfl 0 (by decide) (hts _ qf_X1_33) (fun _ h9 => h9) rfl dX1_hasCard_6 ?_
    refine z_icmp_ge (tgt := 16) hx hb (by omega) dX1_hasCard_9 (by decide) (fun c_9 => ?_) (fun c_9 => ?_)
    · refine lv_iconst (v := zI 0) hx hb dX1_hasCard_16 rfl ?_
      rw [← hQf]
      exact z_bret K hS () (by first | exact (b01_t (by omega)).symm | exact (b01_f (by omega)).symm) (by omega) hP hD dX1_hasCard_17
    · refine lv_iconst (v := zI 1) hx hb dX1_hasCard_12 rfl ?_
      refine lv_goto (tgt := 17) hx hb dX1_hasCard_13 (by decide) ?_
      rw [← hQf]
      exact z_bret K hS () (by first | exact (b01_t (by omega)).symm | exact (b01_f (by omega)).symm) (by omega) hP hD dX1_hasCard_17
set_option maxHeartbeats 4000000 in
set_option maxRecDepth 100000 in
theorem c_X1_placeBehind (l : Launch) (D : va_G) (cI : ClassId) (t : Nat) (a : Nat → Nat) (n k d v : Nat) (g : Nat → Int) (j0 p0 : Nat) (w : Int) (hs : j0 < 6) (hp : p0 < 12) (hw : g (j0 * 12 + p0) = w) : zMi l yX1_placeBehind cX1_placeBehind 3 (some .int) ({ frames := 0, cells := 0, slots := 0, locals := 0 }) D cI [.ref t, .int (zI ((j0 : Nat) : Int)), .int (zI ((p0 : Nat) : Int))] [cT t a ((n : Nat) : Int) ((k : Nat) : Int) ((d : Nat) : Int) ((v : Nat) : Int), cR cI (a 2) 72 g] (fun (z : Int) (u : Unit) => z = w) (fun (u : Unit) => [cT t a ((n : Nat) : Int) ((k : Nat) : Int) ((d : Nat) : Int) ((v : Nat) : Int), cR cI (a 2) 72 g]) := by
  intro sz
  refine zstart rfl (by decide) (Nat.le_of_ble_eq_true rfl) ?_
  intro p e s m below meth c ls K hnm hsz hP hD hS hl
  generalize hargs : ([.ref t, .int (zI ((j0 : Nat) : Int)), .int (zI ((p0 : Nat) : Int))] : List Value).toArray = args at K ⊢
  generalize hQf : MQ below _ args s _ _ _ = Qf
  have K : zK p s m args meth c cX1_placeBehind 3 RX1 (some .int) D cI := K
  obtain ⟨hx, hb, hml, hown, hts, hE, -, -⟩ := id K
  have hA := zhA (ws0 := [cT t a ((n : Nat) : Int) ((k : Nat) : Int) ((d : Nat) : Int) ((v : Nat) : Int), cR cI (a 2) 72 g]) hsz
  have hl : lv_has ls 3 [(0, .ref t), (1, .int (zI ((j0 : Nat) : Int))), (2, .int (zI ((p0 : Nat) : Int)))] := hl
  refine lv_aload_n hx hb dX1_placeBehind_0 rfl (lv_at hl 0 rfl) ?_
  refine va_get (D := D) (ci := 1) (v := .ref (a 2)) (C := RX1) (T := TX1) (N := 11) hx hb hts inT_X1 hown hE.1 hP 0 rfl rfl 6 (by decide) (hts _ qf_X1_18) (fun _ h9 => h9) rfl dX1_placeBehind_1 ?_
  refine lv_iload_n hx hb dX1_placeBehind_4 rfl (lv_at hl 1 rfl) ?_
  refine lv_bipush (v := zI 12) hx hb dX1_placeBehind_5 (by decide) ?_
  refine z_imul hx hb (((j0 * 12) : Nat) : Int) (by first | omega | exact (Int.natCast_mul _ _).symm) dX1_placeBehind_7 ?_
  refine lv_iload_n hx hb dX1_placeBehind_8 rfl (lv_at hl 2 rfl) ?_
  refine z_iadd hx hb ((((j0 * 12) + p0) : Nat) : Int) (by omega) dX1_placeBehind_9 ?_
  refine z_iald hx hb hE hP 1 rfl ((j0 * 12) + p0) (by omega) (by omega) (by first | decide | omega) w hw dX1_placeBehind_10 ?_
  rw [← hQf]
  exact z_iret K hS () (by first | rfl | omega | (split <;> omega)) hP hD dX1_placeBehind_11
set_option maxHeartbeats 4000000 in
set_option maxRecDepth 100000 in
theorem c_X1_layInOrder (l : Launch) (D : va_G) (cI : ClassId) (t : Nat) (a : Nat → Nat) (n k d v : Nat) (g : Nat → Int) (hn : n ≤ 12) : zMv l yX1_layInOrder cX1_layInOrder 2 none ({ frames := 0, cells := 0, slots := 0, locals := 0 }) D cI [.ref t] [cT t a ((n : Nat) : Int) ((k : Nat) : Int) ((d : Nat) : Int) ((v : Nat) : Int), cR cI (a 3) 12 g] (fun (u : Unit) => True) (fun (u : Unit) => [cT t a ((n : Nat) : Int) ((k : Nat) : Int) ((d : Nat) : Int) ((v : Nat) : Int), cR cI (a 3) 12 (zcp (fun j => (j : Int)) g n)]) := by
  intro sz
  refine zstart rfl (by decide) (Nat.le_of_ble_eq_true rfl) ?_
  intro p e s m below meth c ls K hnm hsz hP hD hS hl
  generalize hargs : ([.ref t] : List Value).toArray = args at K ⊢
  generalize hQf : MQ below _ args s _ _ _ = Qf
  have K : zK p s m args meth c cX1_layInOrder 2 RX1 none D cI := K
  obtain ⟨hx, hb, hml, hown, hts, hE, -, -⟩ := id K
  have hA := zhA (ws0 := [cT t a ((n : Nat) : Int) ((k : Nat) : Int) ((d : Nat) : Int) ((v : Nat) : Int), cR cI (a 3) 12 g]) hsz
  have hl : lv_has ls 2 [(0, .ref t)] := hl
  refine lv_iconst (v := zI 0) hx hb dX1_layInOrder_0 rfl ?_
  refine lv_istore_n (lv' := [(1, .int (zI 0)), (0, .ref t)]) hx hb dX1_layInOrder_1 rfl hl (by decide) rfl (fun ls hl => ?_)
  have cut_2 : ∀ (N_2 : Nat), ∀ (i : Nat) (f : Nat → Int), n - i < N_2 → (i ≤ n) → (f = zcp (fun j => (j : Int)) g i) → ∀ (H : Heap) (locs : List Loc) (ls : Array Slot), va_P D cls [cT t a ((n : Nat) : Int) ((k : Nat) : Int) ((d : Nat) : Int) ((v : Nat) : Int), cR cI (a 3) 12 f] H → va_D (va_A [cT t a ((n : Nat) : Int) ((k : Nat) : Int) ((d : Nat) : Int) ((v : Nat) : Int), cR cI (a 3) 12 g] sz) [cT t a ((n : Nat) : Int) ((k : Nat) : Int) ((d : Nat) : Int) ((v : Nat) : Int), cR cI (a 3) 12 f] → va_S (va_A [cT t a ((n : Nat) : Int) ((k : Nat) : Int) ((d : Nat) : Int) ((v : Nat) : Int), cR cI (a 3) 12 g] sz) s.heap H locs → lv_has ls 2 [(0, .ref t), (1, .int (zI ((i : Nat) : Int)))] → W p l e ({ frames := 0, cells := 0, slots := 0, locals := 0 }) s m args below meth c H locs 0 0 Qf (F0 m 2 ls []) := by
    intro N_2
    induction N_2 with
    | zero => intro i f hm_2; exact absurd hm_2 (Nat.not_lt_zero _)
    | succ N_2 ih_2 =>
      intro i f hm_2 hi hf H locs ls hP hD hS hl
      refine lv_iload_n hx hb dX1_layInOrder_2 rfl (lv_at hl 1 rfl) ?_
      refine lv_aload_n hx hb dX1_layInOrder_3 rfl (lv_at hl 0 rfl) ?_
      refine va_get (D := D) (ci := 1) (v := .int (zI ((n : Nat) : Int))) (C := RX1) (T := TX1) (N := 11) hx hb hts inT_X1 hown hE.1 hP 0 rfl rfl 0 (by decide) (hts _ qf_X1_33) (fun _ h9 => h9) rfl dX1_layInOrder_4 ?_
      refine z_icmp_ge (tgt := 23) hx hb (by omega) dX1_layInOrder_7 (by decide) (fun c_7 => ?_) (fun c_7 => ?_)
      · have e1 : f = zcp (fun j => (j : Int)) g n := by rw [hf, show i = n by omega]
        subst e1
        rw [← hQf]
        exact z_vret K hS () trivial hP hD dX1_layInOrder_23
      · refine lv_aload_n hx hb dX1_layInOrder_10 rfl (lv_at hl 0 rfl) ?_
        refine va_get (D := D) (ci := 1) (v := .ref (a 3)) (C := RX1) (T := TX1) (N := 11) hx hb hts inT_X1 hown hE.1 hP 0 rfl rfl 7 (by decide) (hts _ qf_X1_21) (fun _ h9 => h9) rfl dX1_layInOrder_11 ?_
        refine lv_iload_n hx hb dX1_layInOrder_14 rfl (lv_at hl 1 rfl) ?_
        refine lv_iload_n hx hb dX1_layInOrder_15 rfl (lv_at hl 1 rfl) ?_
        refine z_iast hx hb hE hP hD hS 1 rfl i (by omega) (by omega) (by first | decide | omega) (zup f i ((i : Nat) : Int)) rfl dX1_layInOrder_16 (fun H locs hP hD hS => ?_)
        have hP : va_P D cls [cT t a ((n : Nat) : Int) ((k : Nat) : Int) ((d : Nat) : Int) ((v : Nat) : Int), cR cI (a 3) 12 (zup f i ((i : Nat) : Int))] H := hP
        have hD : va_D (va_A [cT t a ((n : Nat) : Int) ((k : Nat) : Int) ((d : Nat) : Int) ((v : Nat) : Int), cR cI (a 3) 12 g] sz) [cT t a ((n : Nat) : Int) ((k : Nat) : Int) ((d : Nat) : Int) ((v : Nat) : Int), cR cI (a 3) 12 (zup f i ((i : Nat) : Int))] := hD
        refine z_iinc (k := 1) (lv' := [(1, .int (zI (((i + 1) : Nat) : Int))), (0, .ref t)]) hx hb (((i + 1) : Nat) : Int) (by omega) dX1_layInOrder_17 hl rfl (by decide) rfl (fun ls hl => ?_)
        refine lv_goto (tgt := 2) hx hb dX1_layInOrder_20 (by decide) ?_
        exact ih_2 (i + 1) (zup f i ((i : Nat) : Int)) (by omega) (by omega) (by rw [hf]; exact zcp_s rfl) _ _ _ hP hD hS (lv_sub hl [1, 0] rfl)
  exact cut_2 (n - 0 + 1) 0 g (Nat.lt_succ_self _) (by omega) (by exact (zcp_0 _ _).symm) _ _ _ hP hD hS (lv_sub hl [1, 0] rfl)
set_option maxHeartbeats 4000000 in
set_option maxRecDepth 100000 in
theorem c_X1_begin (l : Launch) (D : va_G) (cI : ClassId) (t : Nat) (a : Nat → Nat) (n0 k0 d0 v0 : Int) (n k : Nat) (g : Nat → Int) (hn : n ≤ 12) : zMv l yX1_begin cX1_begin 3 none ({ frames := 1, cells := 0, slots := 0, locals := 21 }) D cI [.ref t, .int (zI ((n : Nat) : Int)), .int (zI ((k : Nat) : Int))] [cT t a n0 k0 d0 v0, cR cI (a 3) 12 g] (fun (u : Unit) => True) (fun (u : Unit) => [cT t a ((n : Nat) : Int) ((k : Nat) : Int) 0 0, cR cI (a 3) 12 (zcp (fun j => (j : Int)) g n)]) := by
  intro sz
  refine zstart rfl (by decide) (Nat.le_of_ble_eq_true rfl) ?_
  intro p e s m below meth c ls K hnm hsz hP hD hS hl
  generalize hargs : ([.ref t, .int (zI ((n : Nat) : Int)), .int (zI ((k : Nat) : Int))] : List Value).toArray = args at K ⊢
  generalize hQf : MQ below _ args s _ _ _ = Qf
  have K : zK p s m args meth c cX1_begin 3 RX1 none D cI := K
  obtain ⟨hx, hb, hml, hown, hts, hE, -, -⟩ := id K
  have hA := zhA (ws0 := [cT t a n0 k0 d0 v0, cR cI (a 3) 12 g]) hsz
  have hl : lv_has ls 3 [(0, .ref t), (1, .int (zI ((n : Nat) : Int))), (2, .int (zI ((k : Nat) : Int)))] := hl
  refine lv_aload_n hx hb dX1_begin_0 rfl (lv_at hl 0 rfl) ?_
  refine lv_iload_n hx hb dX1_begin_1 rfl (lv_at hl 1 rfl) ?_
  refine va_put (D := D) (ci := 1) (v := .int (zI ((n : Nat) : Int))) (ty := .int) (C := RX1) (T := TX1) (N := 11) hx hb hts inT_X1 tyX1 tyX1_ok nmX1 hown hE.1 hP hD hS 0 rfl rfl 0 (by decide) (hts _ qf_X1_33) (fun _ h9 => h9) rfl (by decide +kernel) rfl rfl (Nat.le_of_ble_eq_true rfl) dX1_begin_2 (fun H locs hP hD hS => ?_)
  have hP : va_P D cls [cT t a ((n : Nat) : Int) k0 d0 v0, cR cI (a 3) 12 g] H := hP
  have hD : va_D (va_A [cT t a n0 k0 d0 v0, cR cI (a 3) 12 g] sz) [cT t a ((n : Nat) : Int) k0 d0 v0, cR cI (a 3) 12 g] := hD
  refine lv_aload_n hx hb dX1_begin_5 rfl (lv_at hl 0 rfl) ?_
  refine lv_iload_n hx hb dX1_begin_6 rfl (lv_at hl 2 rfl) ?_
  refine va_put (D := D) (ci := 1) (v := .int (zI ((k : Nat) : Int))) (ty := .int) (C := RX1) (T := TX1) (N := 11) hx hb hts inT_X1 tyX1 tyX1_ok nmX1 hown hE.1 hP hD hS 0 rfl rfl 1 (by decide) (hts _ qf_X1_37) (fun _ h9 => h9) rfl (by decide +kernel) rfl rfl (Nat.le_of_ble_eq_true rfl) dX1_begin_7 (fun H locs hP hD hS => ?_)
  have hP : va_P D cls [cT t a ((n : Nat) : Int) ((k : Nat) : Int) d0 v0, cR cI (a 3) 12 g] H := hP
  have hD : va_D (va_A [cT t a n0 k0 d0 v0, cR cI (a 3) 12 g] sz) [cT t a ((n : Nat) : Int) ((k : Nat) : Int) d0 v0, cR cI (a 3) 12 g] := hD
  refine lv_aload_n hx hb dX1_begin_10 rfl (lv_at hl 0 rfl) ?_
  refine lv_iconst (v := zI 0) hx hb dX1_begin_11 rfl ?_
  refine va_put (D := D) (ci := 1) (v := .int (zI 0)) (ty := .int) (C := RX1) (T := TX1) (N := 11) hx hb hts inT_X1 tyX1 tyX1_ok nmX1 hown hE.1 hP hD hS 0 rfl rfl 2 (by decide) (hts _ qf_X1_40) (fun _ h9 => h9) rfl (by decide +kernel) rfl rfl (Nat.le_of_ble_eq_true rfl) dX1_begin_12 (fun H locs hP hD hS => ?_)
  have hP : va_P D cls [cT t a ((n : Nat) : Int) ((k : Nat) : Int) 0 v0, cR cI (a 3) 12 g] H := hP
  have hD : va_D (va_A [cT t a n0 k0 d0 v0, cR cI (a 3) 12 g] sz) [cT t a ((n : Nat) : Int) ((k : Nat) : Int) 0 v0, cR cI (a 3) 12 g] := hD
  refine lv_aload_n hx hb dX1_begin_15 rfl (lv_at hl 0 rfl) ?_
  refine lv_iconst (v := zI 0) hx hb dX1_begin_16 rfl ?_
  refine va_put (D := D) (ci := 1) (v := .int (zI 0)) (ty := .int) (C := RX1) (T := TX1) (N := 11) hx hb hts inT_X1 tyX1 tyX1_ok nmX1 hown hE.1 hP hD hS 0 rfl rfl 3 (by decide) (hts _ qf_X1_43) (fun _ h9 => h9) rfl (by decide +kernel) rfl rfl (Nat.le_of_ble_eq_true rfl) dX1_begin_17 (fun H locs hP hD hS => ?_)
  have hP : va_P D cls [cT t a ((n : Nat) : Int) ((k : Nat) : Int) 0 0, cR cI (a 3) 12 g] H := hP
  have hD : va_D (va_A [cT t a n0 k0 d0 v0, cR cI (a 3) 12 g] sz) [cT t a ((n : Nat) : Int) ((k : Nat) : Int) 0 0, cR cI (a 3) 12 g] := hD
  refine lv_aload_n hx hb dX1_begin_20 rfl (lv_at hl 0 rfl) ?_
  refine zcall_v (wc := [cT t a ((n : Nat) : Int) ((k : Nat) : Int) 0 0, cR cI (a 3) 12 g]) (wr := []) (rest := []) hE hP hD hS hA [0, 1] [] [0, 1] rfl rfl (by decide) (by decide) (by decide) (fun (u : Unit) => [cT t a ((n : Nat) : Int) ((k : Nat) : Int) 0 0, cR cI (a 3) 12 (zcp (fun j => (j : Int)) g n)]) (fun u => rfl) (fun hPc hDc => zrunV (As := []) (rest := []) (q0 := 0) (ci := 1) K k_X1_layInOrder qm_X1_46 ⟨⟨rfl, rfl⟩, ⟨Nat.le_of_ble_eq_true rfl, Nat.le_of_ble_eq_true rfl⟩⟩ rfl rfl hPc hDc (c_X1_layInOrder l D cI t a n k 0 0 g (by first | assumption | omega) _) rfl hl.1 rfl (Nat.le_of_ble_eq_true rfl) dX1_begin_21 ⟨Nat.zero_le _, Nat.zero_le _⟩) (by decide) (fun u H locs hpost hP hD hS => ?_)
  have hP : va_P D cls [cT t a ((n : Nat) : Int) ((k : Nat) : Int) 0 0, cR cI (a 3) 12 (zcp (fun j => (j : Int)) g n)] H := hP
  have hD : va_D (va_A [cT t a n0 k0 d0 v0, cR cI (a 3) 12 g] sz) [cT t a ((n : Nat) : Int) ((k : Nat) : Int) 0 0, cR cI (a 3) 12 (zcp (fun j => (j : Int)) g n)] := hD
  rw [← hQf]
  exact z_vret K hS () trivial hP hD dX1_begin_24
set_option maxHeartbeats 4000000 in
set_option maxRecDepth 100000 in
theorem c_X2_begin (l : Launch) (D : va_G) (cI : ClassId) (h wa : Nat) (w0 : Int) (n : Nat) (g : Nat → Int) (hn : n ≤ 12) : zMv l yX2_begin cX2_begin 3 none ({ frames := 0, cells := 0, slots := 0, locals := 0 }) D cI [.ref h, .int (zI ((n : Nat) : Int))] [cW h wa w0, cR cI wa 12 g] (fun (u : Unit) => True) (fun (u : Unit) => [cW h wa ((n : Nat) : Int), cR cI wa 12 (zcp (fun j => (j : Int)) g n)]) := by
  intro sz
  refine zstart rfl (by decide) (Nat.le_of_ble_eq_true rfl) ?_
  intro p e s m below meth c ls K hnm hsz hP hD hS hl
  generalize hargs : ([.ref h, .int (zI ((n : Nat) : Int))] : List Value).toArray = args at K ⊢
  generalize hQf : MQ below _ args s _ _ _ = Qf
  have K : zK p s m args meth c cX2_begin 3 RX2 none D cI := K
  obtain ⟨hx, hb, hml, hown, hts, hE, -, -⟩ := id K
  have hA := zhA (ws0 := [cW h wa w0, cR cI wa 12 g]) hsz
  have hl : lv_has ls 3 [(0, .ref h), (1, .int (zI ((n : Nat) : Int)))] := hl
  refine lv_aload_n hx hb dX2_begin_0 rfl (lv_at hl 0 rfl) ?_
  refine lv_iload_n hx hb dX2_begin_1 rfl (lv_at hl 1 rfl) ?_
  refine va_put (D := D) (ci := 2) (v := .int (zI ((n : Nat) : Int))) (ty := .int) (C := RX2) (T := TX2) (N := 2) hx hb hts inT_X2 tyX2 tyX2_ok nmX2 hown hE.1 hP hD hS 0 rfl rfl 0 (by decide) (hts _ qf_X2_15) (fun _ h9 => h9) rfl (by decide +kernel) rfl rfl (Nat.le_of_ble_eq_true rfl) dX2_begin_2 (fun H locs hP hD hS => ?_)
  have hP : va_P D cls [cW h wa ((n : Nat) : Int), cR cI wa 12 g] H := hP
  have hD : va_D (va_A [cW h wa w0, cR cI wa 12 g] sz) [cW h wa ((n : Nat) : Int), cR cI wa 12 g] := hD
  refine lv_iconst (v := zI 0) hx hb dX2_begin_5 rfl ?_
  refine lv_istore_n (lv' := [(2, .int (zI 0)), (0, .ref h), (1, .int (zI ((n : Nat) : Int)))]) hx hb dX2_begin_6 rfl hl (by decide) rfl (fun ls hl => ?_)
  have cut_7 : ∀ (N_7 : Nat), ∀ (i : Nat) (f : Nat → Int), n - i < N_7 → (i ≤ n) → (f = zcp (fun j => (j : Int)) g i) → ∀ (H : Heap) (locs : List Loc) (ls : Array Slot), va_P D cls [cW h wa ((n : Nat) : Int), cR cI wa 12 f] H → va_D (va_A [cW h wa w0, cR cI wa 12 g] sz) [cW h wa ((n : Nat) : Int), cR cI wa 12 f] → va_S (va_A [cW h wa w0, cR cI wa 12 g] sz) s.heap H locs → lv_has ls 3 [(0, .ref h), (1, .int (zI ((n : Nat) : Int))), (2, .int (zI ((i : Nat) : Int)))] → W p l e ({ frames := 0, cells := 0, slots := 0, locals := 0 }) s m args below meth c H locs 0 0 Qf (F0 m 7 ls []) := by
    intro N_7
    induction N_7 with
    | zero => intro i f hm_7; exact absurd hm_7 (Nat.not_lt_zero _)
    | succ N_7 ih_7 =>
      intro i f hm_7 hi hf H locs ls hP hD hS hl
      refine lv_iload_n hx hb dX2_begin_7 rfl (lv_at hl 2 rfl) ?_
      refine lv_aload_n hx hb dX2_begin_8 rfl (lv_at hl 0 rfl) ?_
      refine va_get (D := D) (ci := 2) (v := .int (zI ((n : Nat) : Int))) (C := RX2) (T := TX2) (N := 2) hx hb hts inT_X2 hown hE.1 hP 0 rfl rfl 0 (by decide) (hts _ qf_X2_15) (fun _ h9 => h9) rfl dX2_begin_9 ?_
      refine z_icmp_ge (tgt := 28) hx hb (by omega) dX2_begin_12 (by decide) (fun c_12 => ?_) (fun c_12 => ?_)
      · have e1 : f = zcp (fun j => (j : Int)) g n := by rw [hf, show i = n by omega]
        subst e1
        rw [← hQf]
        exact z_vret K hS () trivial hP hD dX2_begin_28
      · refine lv_aload_n hx hb dX2_begin_15 rfl (lv_at hl 0 rfl) ?_
        refine va_get (D := D) (ci := 2) (v := .ref wa) (C := RX2) (T := TX2) (N := 2) hx hb hts inT_X2 hown hE.1 hP 0 rfl rfl 1 (by decide) (hts _ qf_X2_9) (fun _ h9 => h9) rfl dX2_begin_16 ?_
        refine lv_iload_n hx hb dX2_begin_19 rfl (lv_at hl 2 rfl) ?_
        refine lv_iload_n hx hb dX2_begin_20 rfl (lv_at hl 2 rfl) ?_
        refine z_iast hx hb hE hP hD hS 1 rfl i (by omega) (by omega) (by first | decide | omega) (zup f i ((i : Nat) : Int)) rfl dX2_begin_21 (fun H locs hP hD hS => ?_)
        have hP : va_P D cls [cW h wa ((n : Nat) : Int), cR cI wa 12 (zup f i ((i : Nat) : Int))] H := hP
        have hD : va_D (va_A [cW h wa w0, cR cI wa 12 g] sz) [cW h wa ((n : Nat) : Int), cR cI wa 12 (zup f i ((i : Nat) : Int))] := hD
        refine z_iinc (k := 2) (lv' := [(2, .int (zI (((i + 1) : Nat) : Int))), (0, .ref h), (1, .int (zI ((n : Nat) : Int)))]) hx hb (((i + 1) : Nat) : Int) (by omega) dX2_begin_22 hl rfl (by decide) rfl (fun ls hl => ?_)
        refine lv_goto (tgt := 7) hx hb dX2_begin_25 (by decide) ?_
        exact ih_7 (i + 1) (zup f i ((i : Nat) : Int)) (by omega) (by omega) (by rw [hf]; exact zcp_s rfl) _ _ _ hP hD hS (lv_sub hl [1, 2, 0] rfl)
  exact cut_7 (n - 0 + 1) 0 g (Nat.lt_succ_self _) (by omega) (by exact (zcp_0 _ _).symm) _ _ _ hP hD hS (lv_sub hl [1, 2, 0] rfl)
set_option maxHeartbeats 4000000 in
set_option maxRecDepth 100000 in
theorem c_X2_add (l : Launch) (D : va_G) (cI : ClassId) (h wa : Nat) (n : Nat) (f : Nat → Int) (φ : Nat → Nat) (t : Nat) (a : Nat → Nat) (n1 k d v : Nat) (g : Nat → Int) (j0 : Nat) (ψ : Nat → Nat) (hn : n ≤ 12) (hf : ∀ j, j < n → f j = ((φ j : Nat) : Int)) (hφ : ∀ j, j < n → φ j < n) (hs : j0 < 6) (hg : ∀ j, j < n → g (j0 * 12 + j) = ((ψ j : Nat) : Int)) : zMv l yX2_add cX2_add 4 none ({ frames := 1, cells := 0, slots := 0, locals := 22 }) D cI [.ref h, .ref t, .int (zI ((j0 : Nat) : Int))] [cW h wa ((n : Nat) : Int), cR cI wa 12 f, cT t a ((n1 : Nat) : Int) ((k : Nat) : Int) ((d : Nat) : Int) ((v : Nat) : Int), cR cI (a 2) 72 g] (fun (u : (Nat → Int)) => ∀ j, j < n → u j = ((ψ (φ j) : Nat) : Int)) (fun (u : (Nat → Int)) => [cW h wa ((n : Nat) : Int), cR cI wa 12 u, cT t a ((n1 : Nat) : Int) ((k : Nat) : Int) ((d : Nat) : Int) ((v : Nat) : Int), cR cI (a 2) 72 g]) := by
  intro sz
  refine zstart rfl (by decide) (Nat.le_of_ble_eq_true rfl) ?_
  intro p e s m below meth c ls K hnm hsz hP hD hS hl
  generalize hargs : ([.ref h, .ref t, .int (zI ((j0 : Nat) : Int))] : List Value).toArray = args at K ⊢
  generalize hQf : MQ below _ args s _ _ _ = Qf
  have K : zK p s m args meth c cX2_add 4 RX2 none D cI := K
  obtain ⟨hx, hb, hml, hown, hts, hE, -, -⟩ := id K
  have hA := zhA (ws0 := [cW h wa ((n : Nat) : Int), cR cI wa 12 f, cT t a ((n1 : Nat) : Int) ((k : Nat) : Int) ((d : Nat) : Int) ((v : Nat) : Int), cR cI (a 2) 72 g]) hsz
  have hl : lv_has ls 4 [(0, .ref h), (1, .ref t), (2, .int (zI ((j0 : Nat) : Int)))] := hl
  refine lv_iconst (v := zI 0) hx hb dX2_add_0 rfl ?_
  refine lv_istore_n (lv' := [(3, .int (zI 0)), (0, .ref h), (1, .ref t), (2, .int (zI ((j0 : Nat) : Int)))]) hx hb dX2_add_1 rfl hl (by decide) rfl (fun ls hl => ?_)
  have cut_2 : ∀ (N_2 : Nat), ∀ (i : Nat) (f1 : Nat → Int), n - i < N_2 → (i ≤ n) → (∀ j, j < i → f1 j = ((ψ (φ j) : Nat) : Int)) → (∀ j, i ≤ j → j < n → f1 j = f j) → ∀ (H : Heap) (locs : List Loc) (ls : Array Slot), va_P D cls [cW h wa ((n : Nat) : Int), cR cI wa 12 f1, cT t a ((n1 : Nat) : Int) ((k : Nat) : Int) ((d : Nat) : Int) ((v : Nat) : Int), cR cI (a 2) 72 g] H → va_D (va_A [cW h wa ((n : Nat) : Int), cR cI wa 12 f, cT t a ((n1 : Nat) : Int) ((k : Nat) : Int) ((d : Nat) : Int) ((v : Nat) : Int), cR cI (a 2) 72 g] sz) [cW h wa ((n : Nat) : Int), cR cI wa 12 f1, cT t a ((n1 : Nat) : Int) ((k : Nat) : Int) ((d : Nat) : Int) ((v : Nat) : Int), cR cI (a 2) 72 g] → va_S (va_A [cW h wa ((n : Nat) : Int), cR cI wa 12 f, cT t a ((n1 : Nat) : Int) ((k : Nat) : Int) ((d : Nat) : Int) ((v : Nat) : Int), cR cI (a 2) 72 g] sz) s.heap H locs → lv_has ls 4 [(0, .ref h), (1, .ref t), (2, .int (zI ((j0 : Nat) : Int))), (3, .int (zI ((i : Nat) : Int)))] → W p l e ({ frames := 1, cells := 0, slots := 0, locals := 22 }) s m args below meth c H locs 0 0 Qf (F0 m 2 ls []) := by
    intro N_2
    induction N_2 with
    | zero => intro i f1 hm_2; exact absurd hm_2 (Nat.not_lt_zero _)
    | succ N_2 ih_2 =>
      intro i f1 hm_2 hi he1 he2 H locs ls hP hD hS hl
      refine lv_iload_n hx hb dX2_add_2 rfl (lv_at hl 3 rfl) ?_
      refine lv_aload_n hx hb dX2_add_3 rfl (lv_at hl 0 rfl) ?_
      refine va_get (D := D) (ci := 2) (v := .int (zI ((n : Nat) : Int))) (C := RX2) (T := TX2) (N := 2) hx hb hts inT_X2 hown hE.1 hP 0 rfl rfl 0 (by decide) (hts _ qf_X2_15) (fun _ h9 => h9) rfl dX2_add_4 ?_
      refine z_icmp_ge (tgt := 33) hx hb (by omega) dX2_add_7 (by decide) (fun c_7 => ?_) (fun c_7 => ?_)
      · rw [← hQf]
        exact z_vret K hS (f1) (by intro j hj; exact he1 j (by omega)) hP hD dX2_add_33
      · refine lv_aload_n hx hb dX2_add_10 rfl (lv_at hl 0 rfl) ?_
        refine va_get (D := D) (ci := 2) (v := .ref wa) (C := RX2) (T := TX2) (N := 2) hx hb hts inT_X2 hown hE.1 hP 0 rfl rfl 1 (by decide) (hts _ qf_X2_9) (fun _ h9 => h9) rfl dX2_add_11 ?_
        refine lv_iload_n hx hb dX2_add_14 rfl (lv_at hl 3 rfl) ?_
        refine lv_aload_n hx hb dX2_add_15 rfl (lv_at hl 1 rfl) ?_
        refine lv_iload_n hx hb dX2_add_16 rfl (lv_at hl 2 rfl) ?_
        refine lv_aload_n hx hb dX2_add_17 rfl (lv_at hl 0 rfl) ?_
        refine va_get (D := D) (ci := 2) (v := .ref wa) (C := RX2) (T := TX2) (N := 2) hx hb hts inT_X2 hown hE.1 hP 0 rfl rfl 1 (by decide) (hts _ qf_X2_9) (fun _ h9 => h9) rfl dX2_add_18 ?_
        refine lv_iload_n hx hb dX2_add_21 rfl (lv_at hl 3 rfl) ?_
        have hφi := hφ i (by omega)
        refine z_iald hx hb hE hP 1 rfl i (by omega) (by omega) (by first | decide | omega) ((φ i : Nat) : Int) ((he2 i (Nat.le_refl _) (by omega)).trans (hf i (by omega))) dX2_add_22 ?_
        refine zcall_i (wc := [cT t a ((n1 : Nat) : Int) ((k : Nat) : Int) ((d : Nat) : Int) ((v : Nat) : Int), cR cI (a 2) 72 g]) (wr := [cW h wa ((n : Nat) : Int), cR cI wa 12 f1]) (rest := [.int (zI ((i : Nat) : Int)), .ref wa]) hE hP hD hS hA [2, 3] [0, 1] [0, 1, 2, 3] rfl rfl (by decide) (by decide) (by decide) (fun (u : Unit) => [cW h wa ((n : Nat) : Int), cR cI wa 12 f1, cT t a ((n1 : Nat) : Int) ((k : Nat) : Int) ((d : Nat) : Int) ((v : Nat) : Int), cR cI (a 2) 72 g]) (fun u => rfl) (fun hPc hDc => zrunVN (As := [.int (zI ((j0 : Nat) : Int)), .int (zI ((φ i : Nat) : Int))]) (rest := [.int (zI ((i : Nat) : Int)), .ref wa]) (q0 := 0) (ci := 1) K k_X1_placeBehind nk_X2_19 ⟨⟨rfl, rfl⟩, ⟨Nat.le_of_ble_eq_true rfl, Nat.le_of_ble_eq_true rfl⟩⟩ rfl rfl hPc hDc (c_X1_placeBehind l D cI t a n1 k d v g j0 (φ i) ((ψ (φ i) : Nat) : Int) (by first | assumption | omega) (by first | assumption | omega) (hg (φ i) hφi) _) rfl hl.1 rfl (Nat.le_of_ble_eq_true rfl) dX2_add_23 ⟨Nat.zero_le _, Nat.zero_le _⟩) (by decide) (fun z u H locs hpost hP hD hS => ?_)
        subst hpost
        have hP : va_P D cls [cW h wa ((n : Nat) : Int), cR cI wa 12 f1, cT t a ((n1 : Nat) : Int) ((k : Nat) : Int) ((d : Nat) : Int) ((v : Nat) : Int), cR cI (a 2) 72 g] H := hP
        have hD : va_D (va_A [cW h wa ((n : Nat) : Int), cR cI wa 12 f, cT t a ((n1 : Nat) : Int) ((k : Nat) : Int) ((d : Nat) : Int) ((v : Nat) : Int), cR cI (a 2) 72 g] sz) [cW h wa ((n : Nat) : Int), cR cI wa 12 f1, cT t a ((n1 : Nat) : Int) ((k : Nat) : Int) ((d : Nat) : Int) ((v : Nat) : Int), cR cI (a 2) 72 g] := hD
        refine W.eq (g2 := F0 m 26 ls [.int (zI ((ψ (φ i) : Nat) : Int)), .int (zI ((i : Nat) : Int)), .ref wa]) rfl ?_
        refine z_iast hx hb hE hP hD hS 1 rfl i (by omega) (by omega) (by first | decide | omega) (zup f1 i ((ψ (φ i) : Nat) : Int)) rfl dX2_add_26 (fun H locs hP hD hS => ?_)
        have hP : va_P D cls [cW h wa ((n : Nat) : Int), cR cI wa 12 (zup f1 i ((ψ (φ i) : Nat) : Int)), cT t a ((n1 : Nat) : Int) ((k : Nat) : Int) ((d : Nat) : Int) ((v : Nat) : Int), cR cI (a 2) 72 g] H := hP
        have hD : va_D (va_A [cW h wa ((n : Nat) : Int), cR cI wa 12 f, cT t a ((n1 : Nat) : Int) ((k : Nat) : Int) ((d : Nat) : Int) ((v : Nat) : Int), cR cI (a 2) 72 g] sz) [cW h wa ((n : Nat) : Int), cR cI wa 12 (zup f1 i ((ψ (φ i) : Nat) : Int)), cT t a ((n1 : Nat) : Int) ((k : Nat) : Int) ((d : Nat) : Int) ((v : Nat) : Int), cR cI (a 2) 72 g] := hD
        refine z_iinc (k := 3) (lv' := [(3, .int (zI (((i + 1) : Nat) : Int))), (0, .ref h), (1, .ref t), (2, .int (zI ((j0 : Nat) : Int)))]) hx hb (((i + 1) : Nat) : Int) (by omega) dX2_add_27 hl rfl (by decide) rfl (fun ls hl => ?_)
        refine lv_goto (tgt := 2) hx hb dX2_add_30 (by decide) ?_
        exact ih_2 (i + 1) (zup f1 i ((ψ (φ i) : Nat) : Int)) (by omega) (by omega) (by exact zup_lt (A := fun j => ((ψ (φ j) : Nat) : Int)) he1 rfl) (by exact zup_ge he2) _ _ _ hP hD hS (lv_sub hl [1, 2, 3, 0] rfl)
  exact cut_2 (n - 0 + 1) 0 f (Nat.lt_succ_self _) (by omega) (by intro j hj; omega) (by intro j _ _; rfl) _ _ _ hP hD hS (lv_sub hl [1, 2, 3, 0] rfl)
set_option maxHeartbeats 4000000 in
set_option maxRecDepth 100000 in
theorem c_X2_stayCount (l : Launch) (D : va_G) (cI : ClassId) (h wa : Nat) (n : Nat) (f : Nat → Int) (φ : Nat → Nat) (hn : n ≤ 12) (hf : ∀ j, j < n → f j = ((φ j : Nat) : Int)) (hφ : ∀ j, j < n → φ j < n) : zMi l yX2_stayCount cX2_stayCount 3 (some .int) ({ frames := 0, cells := 0, slots := 0, locals := 0 }) D cI [.ref h] [cW h wa ((n : Nat) : Int), cR cI wa 12 f] (fun (z : Int) (u : Unit) => z = (((fb_ct (fun j => decide (φ j = j)) n) : Nat) : Int)) (fun (u : Unit) => [cW h wa ((n : Nat) : Int), cR cI wa 12 f]) := by
  intro sz
  refine zstart rfl (by decide) (Nat.le_of_ble_eq_true rfl) ?_
  intro p e s m below meth c ls K hnm hsz hP hD hS hl
  generalize hargs : ([.ref h] : List Value).toArray = args at K ⊢
  generalize hQf : MQ below _ args s _ _ _ = Qf
  have K : zK p s m args meth c cX2_stayCount 3 RX2 (some .int) D cI := K
  obtain ⟨hx, hb, hml, hown, hts, hE, -, -⟩ := id K
  have hA := zhA (ws0 := [cW h wa ((n : Nat) : Int), cR cI wa 12 f]) hsz
  have hl : lv_has ls 3 [(0, .ref h)] := hl
  refine lv_iconst (v := zI 0) hx hb dX2_stayCount_0 rfl ?_
  refine lv_istore_n (lv' := [(1, .int (zI 0)), (0, .ref h)]) hx hb dX2_stayCount_1 rfl hl (by decide) rfl (fun ls hl => ?_)
  refine lv_iconst (v := zI 0) hx hb dX2_stayCount_2 rfl ?_
  refine lv_istore_n (lv' := [(2, .int (zI 0)), (1, .int (zI 0)), (0, .ref h)]) hx hb dX2_stayCount_3 rfl hl (by decide) rfl (fun ls hl => ?_)
  have cut_4 : ∀ (N_4 : Nat), ∀ (i y : Nat), n - i < N_4 → (i ≤ n) → (y = fb_ct (fun j => decide (φ j = j)) i) → ∀ (H : Heap) (locs : List Loc) (ls : Array Slot), va_P D cls [cW h wa ((n : Nat) : Int), cR cI wa 12 f] H → va_D (va_A [cW h wa ((n : Nat) : Int), cR cI wa 12 f] sz) [cW h wa ((n : Nat) : Int), cR cI wa 12 f] → va_S (va_A [cW h wa ((n : Nat) : Int), cR cI wa 12 f] sz) s.heap H locs → lv_has ls 3 [(0, .ref h), (1, .int (zI ((y : Nat) : Int))), (2, .int (zI ((i : Nat) : Int)))] → W p l e ({ frames := 0, cells := 0, slots := 0, locals := 0 }) s m args below meth c H locs 0 0 Qf (F0 m 4 ls []) := by
    intro N_4
    induction N_4 with
    | zero => intro i y hm_4; exact absurd hm_4 (Nat.not_lt_zero _)
    | succ N_4 ih_4 =>
      intro i y hm_4 hi hy H locs ls hP hD hS hl
      refine lv_iload_n hx hb dX2_stayCount_4 rfl (lv_at hl 2 rfl) ?_
      refine lv_aload_n hx hb dX2_stayCount_5 rfl (lv_at hl 0 rfl) ?_
      refine va_get (D := D) (ci := 2) (v := .int (zI ((n : Nat) : Int))) (C := RX2) (T := TX2) (N := 2) hx hb hts inT_X2 hown hE.1 hP 0 rfl rfl 0 (by decide) (hts _ qf_X2_15) (fun _ h9 => h9) rfl dX2_stayCount_6 ?_
      refine z_icmp_ge (tgt := 31) hx hb (by omega) dX2_stayCount_9 (by decide) (fun c_9 => ?_) (fun c_9 => ?_)
      · refine lv_iload_n hx hb dX2_stayCount_31 rfl (lv_at hl 1 rfl) ?_
        rw [← hQf]
        exact z_iret K hS () (by rw [hy, show i = n by omega]) hP hD dX2_stayCount_32
      · refine lv_aload_n hx hb dX2_stayCount_12 rfl (lv_at hl 0 rfl) ?_
        refine va_get (D := D) (ci := 2) (v := .ref wa) (C := RX2) (T := TX2) (N := 2) hx hb hts inT_X2 hown hE.1 hP 0 rfl rfl 1 (by decide) (hts _ qf_X2_9) (fun _ h9 => h9) rfl dX2_stayCount_13 ?_
        refine lv_iload_n hx hb dX2_stayCount_16 rfl (lv_at hl 2 rfl) ?_
        have hφi := hφ i (by omega)
        refine z_iald hx hb hE hP 1 rfl i (by omega) (by omega) (by first | decide | omega) ((φ i : Nat) : Int) (hf i (by omega)) dX2_stayCount_17 ?_
        refine lv_iload_n hx hb dX2_stayCount_18 rfl (lv_at hl 2 rfl) ?_
        refine z_icmp_ne (tgt := 25) hx hb (by omega) dX2_stayCount_19 (by decide) (fun c_19 => ?_) (fun c_19 => ?_)
        · have hy2 : y = fb_ct (fun j => decide (φ j = j)) (i + 1) := by rw [ct_f (by simp; omega)]; exact hy
          refine z_iinc (k := 2) (lv' := [(2, .int (zI (((i + 1) : Nat) : Int))), (0, .ref h), (1, .int (zI ((y : Nat) : Int)))]) hx hb (((i + 1) : Nat) : Int) (by omega) dX2_stayCount_25 hl rfl (by decide) rfl (fun ls hl => ?_)
          refine lv_goto (tgt := 4) hx hb dX2_stayCount_28 (by decide) ?_
          exact ih_4 (i + 1) y (by omega) (by omega) (by first | exact hy1 | exact hy2) _ _ _ hP hD hS (lv_sub hl [1, 2, 0] rfl)
        · have hy1 : y + 1 = fb_ct (fun j => decide (φ j = j)) (i + 1) := by rw [ct_t (by simp; omega)]; omega
          refine z_iinc (k := 1) (lv' := [(1, .int (zI (((y + 1) : Nat) : Int))), (0, .ref h), (2, .int (zI ((i : Nat) : Int)))]) hx hb (((y + 1) : Nat) : Int) (by omega) dX2_stayCount_22 hl rfl (by decide) rfl (fun ls hl => ?_)
          refine z_iinc (k := 2) (lv' := [(2, .int (zI (((i + 1) : Nat) : Int))), (1, .int (zI (((y + 1) : Nat) : Int))), (0, .ref h)]) hx hb (((i + 1) : Nat) : Int) (by omega) dX2_stayCount_25 hl rfl (by decide) rfl (fun ls hl => ?_)
          refine lv_goto (tgt := 4) hx hb dX2_stayCount_28 (by decide) ?_
          exact ih_4 (i + 1) (y + 1) (by omega) (by omega) (by first | exact hy1 | exact hy2) _ _ _ hP hD hS (lv_sub hl [2, 1, 0] rfl)
  exact cut_4 (n - 0 + 1) 0 0 (Nat.lt_succ_self _) (by omega) (by rfl) _ _ _ hP hD hS (lv_sub hl [2, 1, 0] rfl)
